/-! letter -/
theorem numM_k {a j : Nat} (h : a ≠ 39 ∨ j ≠ 29) : ∀ (f : Nat) (m : Mem), numM f m a j = m a j
  | 0, _ => rfl
  | f + 1, m => by
    unfold numM
    split
    · rw [numM_k h f]
      rcases h with h | h
      · exact ms_k h
      · exact ms_j h
    · rfl
theorem numM_at : ∀ (f : Nat) (m : Mem) (A T : Nat), m 39 29 = nI A → m 39 19 = nI T → A + f = T → ∃ A', numM f m 39 29 = nI A' ∧ A ≤ A' ∧ A' ≤ T
  | 0, m, A, T, hA, hT, hf => ⟨A, hA, Nat.le_refl A, by omega⟩
  | f + 1, m, A, T, hA, hT, hf => by
    unfold numM
    split
    · obtain ⟨A', h1, h2, h3⟩ := numM_at f (mset m 39 29 (m 39 29 + 1)) (A + 1) T (by rw [ms_eq, hA]; exact nI_1 A) (by rw [ms_j (by decide), hT]) (by omega)
      exact ⟨A', h1, by omega, h3⟩
    · exact ⟨A, hA, Nat.le_refl A, by omega⟩
/-- where the reader stands: at A of T bytes -/
def PA (m : Mem) (A T : Nat) : Prop := m 39 29 = nI A ∧ m 39 19 = nI T ∧ A ≤ T ∧ T ≤ 60
def fz (m : Mem) : Nat := (m 39 19).toNatClampNeg - (m 39 29).toNatClampNeg
theorem PA_fz {m : Mem} {A T : Nat} (h : PA m A T) : A + fz m = T := by
  obtain ⟨h1, h2, h3, h4⟩ := h
  unfold fz
  rw [h1, h2, nI_clamp (by omega), nI_clamp (by omega)]
  omega
def rn (m : Mem) : Int32 := rf_number (fz m) m
def nM (m : Mem) : Mem := numM (fz m) m
theorem k8_num (m : Mem) (A T : Nat) (h : PA m A T) : Ct yX8_number 2 cX8_number (some .int) 2 [.inr 39] m (Is (some (.inl (rn m))) (nM m)) := k8_number m (fz m) A T h.1 h.2.1 (PA_fz h) h.2.2.2
theorem nM_k {m : Mem} {a j : Nat} (h : a ≠ 39 ∨ j ≠ 29) : nM m a j = m a j := numM_k h _ _
theorem nM_PA {m : Mem} {A T : Nat} (h : PA m A T) : ∃ A', PA (nM m) A' T ∧ A ≤ A' := by
  obtain ⟨A', h1, h2, h3⟩ := numM_at (fz m) m A T h.1 h.2.1 (PA_fz h)
  exact ⟨A', ⟨h1, by rw [nM_k (Or.inr (by decide))]; exact h.2.1, h3, h.2.2.2⟩, h2⟩
def adv (m : Mem) : Mem := mset m 39 29 (m 39 29 + 1)
theorem adv_PA {m : Mem} {A T : Nat} (h : PA m A T) (hl : A < T) : PA (adv m) (A + 1) T := by
  obtain ⟨h1, h2, h3, h4⟩ := h
  exact ⟨by rw [adv, ms_eq, h1]; exact nI_1 A, by rw [adv, ms_j (by decide), h2], hl, h4⟩
theorem adv_k {m : Mem} {a j : Nat} (h : a ≠ 39 ∨ j ≠ 29) : adv m a j = m a j := by
  unfold adv
  rcases h with h | h
  · exact ms_k h
  · exact ms_j h
def lw (c : Int32) : Int32 := if c = 119 then 0 else if c = 112 then 1 else 2
def lm (c : Int32) : Int32 := if c = 119 then 30 else if c = 112 then 10 else 6
def letF (m : Mem) (c : Int32) : Mem := if rn (adv m) < 0 then nM (adv m) else if ¬ c = 100 then gf_order (nM (adv m)) (lw c) (rn (adv m)) 0 else if ¬ sv (nM (adv m)) (nM (adv m) 39 29) = 45 then nM (adv m) else if rn (adv (nM (adv m))) < 0 then nM (adv (nM (adv m))) else gf_order (nM (adv (nM (adv m)))) 3 (rn (adv m)) (rn (adv (nM (adv m))))
def letR (m : Mem) (c : Int32) : Int32 := if rn (adv m) < 0 then 1 else if ¬ c = 100 then (if rn (adv m) < lm c then 0 else 2) else if ¬ sv (nM (adv m)) (nM (adv m) 39 29) = 45 then 1 else if rn (adv (nM (adv m))) < 0 then 1 else if rn (adv m) ≤ 5000 ∧ (rn (adv m) ≤ rn (adv (nM (adv m))) ∧ rn (adv (nM (adv m))) ≤ 5000) then 0 else 2
theorem sv_lt {m : Mem} {A T : Nat} (h : PA m A T) (hs : sv m (m 39 29) = 45) : A < T := by
  rcases Nat.lt_or_ge A T with h9 | h9
  · exact h9
  · exfalso
    rw [sv, h.1, h.2.1, if_neg (nI_nlt h9 (by have := h.2.2.1; have := h.2.2.2; omega))] at hs
    exact absurd hs (by decide)
theorem lit_ok : (((1 : Int32) = 0) = False) ∧ (((2 : Int32) = 0) = False) ∧ (((2 : Int32) = 1) = False) ∧ (((1 : Int32) = 1) = True) ∧ (((0 : Int32) = 0) = True) := ⟨eq_false (by decide), eq_false (by decide), eq_false (by decide), eq_true rfl, eq_true rfl⟩
set_option maxRecDepth 100000 in
set_option maxHeartbeats 1000000 in
theorem k8_letter (μ : Mem) (c : Int32) (A T : Nat) (hp : PA μ A T) (hl : A < T) (l0 : 0 ≤ μ 54 12) (l1 : μ 54 12 ≤ 63) : Ct yX8_letter 4 cX8_letter (some .int) 3 [.inr 39, .inl (c)] μ (Is (some (.inl (letR μ c))) (letF μ c)) := by
  refine Ct.of (oc := 8) [some (.inr 39), some (.inl (c)), none, none] (by decide +kernel) rfl (Nat.le_of_ble_eq_true rfl) rfl ?_
  have p1 := adv_PA hp hl
  have ea : mset μ 39 29 (μ 39 29 + 1) = adv μ := rfl
  obtain ⟨A2, p2, hA2⟩ := nM_PA p1
  have k12 : nM (adv μ) 54 12 = μ 54 12 := by rw [nM_k (Or.inl (by decide)), adv_k (Or.inl (by decide))]
  refine X.vc (fun _ => false) 60 ?_
  simp only [↓vc_zero, ↓vc_succ, ↓vn_app, ↓vd_ok, ↓vx_iconst, ↓vx_bipush, ↓vx_sipush, ↓vx_ldc, ↓vx_iload_n, ↓vx_iload, ↓vx_aload_n, ↓vx_aload, ↓vx_istore_n, ↓vx_istore, ↓vx_iinc, ↓vx_iadd, ↓vx_isub, ↓vx_imul, ↓vx_iand, ↓vx_ior, ↓vx_ixor, ↓vx_ishl, ↓vx_ishr, ↓vx_iushr, ↓vx_dup, ↓vx_dup2, ↓vx_goto, ↓vx_if_icmp, ↓vx_ifCond, ↓vx_getfield, ↓vx_putfield, ↓vx_iaload, ↓vx_iastore, ↓vx_baload, ↓vx_bastore, ↓vx_aaload, ↓vx_ireturn, ↓vx_return, ↓vx_invokevirtual, ↓vx_invokestatic, ↓vx_table, ↓vx_lookup, ↓vld_ok, ↓vldr_ok, ↓vst_ok, ↓vic_ok, ↓vgf_ok, ↓vgo_ok, ↓vpf_f, ↓vpf_t, ↓vpo_ok, ↓vkc_ok, ↓vbr_eq, ↓bz_01, bz_0, bz_1, is_app, mset_app, tnc_ok, wr_app, wr_ms, is59_app, vpn_ok, vpn_bz, Option.some.injEq, Sum.inl.injEq, getL, setL, Option.map_some, fvl_ok, mff_ok, jp, icm, inb_ok, ins_ok, zin_ok, rin_ok, vpi_ok, bip_ok, sip_ok, kcf_ok, vsw, vlk, Bool.false_eq_true, ↓reduceIte, true_and, and_true, and_self, Option.toList, List.cons_append, List.nil_append, Fin.isValue, forall_const, false_implies, implies_true, true_implies, reduceCtorEq, or_false, false_or, true_or, or_true, ne_eq, not_false_eq_true, not_true_eq_false, Classical.not_not, Bool.or_false, Bool.false_or, Bool.or_true, Bool.true_or, nat_int, Nat.reduceAdd, Nat.reduceBEq, Nat.reduceEqDiff, Int32.reduceLT, Int32.reduceLE, Int32.reduceAdd, Int32.reduceSub, Int.reduceAdd, Int.reduceToNat, Int.reduceLE, Int.reduceLT, Int.reduceNeg, Int.reduceSub, Int32.reduceOfInt, Nat.reduceMod, Fin.reduceFinMk, D_X8_letter, rsf_8, ea]
  refine X.callV0 S_8_138 (by decide +kernel) rcv_39 (by decide) (by decide) (Nat.le_of_ble_eq_true rfl) (k8_num (adv μ) (A + 1) T p1) ?_
  refine X.vc (fun _ => false) 60 ?_
  simp only [↓vc_zero, ↓vc_succ, ↓vn_app, ↓vd_ok, ↓vx_iconst, ↓vx_bipush, ↓vx_sipush, ↓vx_ldc, ↓vx_iload_n, ↓vx_iload, ↓vx_aload_n, ↓vx_aload, ↓vx_istore_n, ↓vx_istore, ↓vx_iinc, ↓vx_iadd, ↓vx_isub, ↓vx_imul, ↓vx_iand, ↓vx_ior, ↓vx_ixor, ↓vx_ishl, ↓vx_ishr, ↓vx_iushr, ↓vx_dup, ↓vx_dup2, ↓vx_goto, ↓vx_if_icmp, ↓vx_ifCond, ↓vx_getfield, ↓vx_putfield, ↓vx_iaload, ↓vx_iastore, ↓vx_baload, ↓vx_bastore, ↓vx_aaload, ↓vx_ireturn, ↓vx_return, ↓vx_invokevirtual, ↓vx_invokestatic, ↓vx_table, ↓vx_lookup, ↓vld_ok, ↓vldr_ok, ↓vst_ok, ↓vic_ok, ↓vgf_ok, ↓vgo_ok, ↓vpf_f, ↓vpf_t, ↓vpo_ok, ↓vkc_ok, ↓vbr_eq, ↓bz_01, bz_0, bz_1, is_app, mset_app, tnc_ok, wr_app, wr_ms, is59_app, vpn_ok, vpn_bz, Option.some.injEq, Sum.inl.injEq, getL, setL, Option.map_some, fvl_ok, mff_ok, jp, icm, inb_ok, ins_ok, zin_ok, rin_ok, vpi_ok, bip_ok, sip_ok, kcf_ok, vsw, vlk, Bool.false_eq_true, ↓reduceIte, true_and, and_true, and_self, Option.toList, List.cons_append, List.nil_append, Fin.isValue, forall_const, false_implies, implies_true, true_implies, reduceCtorEq, or_false, false_or, true_or, or_true, ne_eq, not_false_eq_true, not_true_eq_false, Classical.not_not, Bool.or_false, Bool.false_or, Bool.or_true, Bool.true_or, nat_int, Nat.reduceAdd, Nat.reduceBEq, Nat.reduceEqDiff, Int32.reduceLT, Int32.reduceLE, Int32.reduceAdd, Int32.reduceSub, Int.reduceAdd, Int.reduceToNat, Int.reduceLE, Int.reduceLT, Int.reduceNeg, Int.reduceSub, Int32.reduceOfInt, Nat.reduceMod, Fin.reduceFinMk, D_X8_letter, rsf_8]
  by_cases hneg : rn (adv μ) < 0
  · have e1 : letR μ c = 1 := if_pos hneg
    have e2 : letF μ c = nM (adv μ) := if_pos hneg
    rw [e1, e2]
    have hneg' : ¬ 0 ≤ rn (adv μ) := by grind
    exact ⟨fun z => absurd z hneg', fun _ => ⟨rfl, rfl⟩⟩
  have hneg' : 0 ≤ rn (adv μ) := by grind
  refine ⟨fun _ => ?_, fun z => absurd hneg' z⟩
  by_cases hc : c = 100
  · have hss : 0 ≤ nM (adv μ) 39 29 := by rw [p2.1]; exact nI_pos' (by have := p2.2.2.1; have := p2.2.2.2; omega)
    have hst : nM (adv μ) 39 19 ≤ 60 := by rw [p2.2.1]; exact nI_le (b := 60) p2.2.2.2 (by decide)
    refine ⟨fun _ => ?_, fun z => absurd hc z⟩
    refine X.callV1 S_8_130 (by decide +kernel) rcv_39 (by decide) (by decide) (Nat.le_of_ble_eq_true rfl) (k8_sv (nM (adv μ)) _ hss hst) ?_
    refine X.vc (fun _ => false) 60 ?_
    simp only [↓vc_zero, ↓vc_succ, ↓vn_app, ↓vd_ok, ↓vx_iconst, ↓vx_bipush, ↓vx_sipush, ↓vx_ldc, ↓vx_iload_n, ↓vx_iload, ↓vx_aload_n, ↓vx_aload, ↓vx_istore_n, ↓vx_istore, ↓vx_iinc, ↓vx_iadd, ↓vx_isub, ↓vx_imul, ↓vx_iand, ↓vx_ior, ↓vx_ixor, ↓vx_ishl, ↓vx_ishr, ↓vx_iushr, ↓vx_dup, ↓vx_dup2, ↓vx_goto, ↓vx_if_icmp, ↓vx_ifCond, ↓vx_getfield, ↓vx_putfield, ↓vx_iaload, ↓vx_iastore, ↓vx_baload, ↓vx_bastore, ↓vx_aaload, ↓vx_ireturn, ↓vx_return, ↓vx_invokevirtual, ↓vx_invokestatic, ↓vx_table, ↓vx_lookup, ↓vld_ok, ↓vldr_ok, ↓vst_ok, ↓vic_ok, ↓vgf_ok, ↓vgo_ok, ↓vpf_f, ↓vpf_t, ↓vpo_ok, ↓vkc_ok, ↓vbr_eq, ↓bz_01, bz_0, bz_1, is_app, mset_app, tnc_ok, wr_app, wr_ms, is59_app, vpn_ok, vpn_bz, Option.some.injEq, Sum.inl.injEq, getL, setL, Option.map_some, fvl_ok, mff_ok, jp, icm, inb_ok, ins_ok, zin_ok, rin_ok, vpi_ok, bip_ok, sip_ok, kcf_ok, vsw, vlk, Bool.false_eq_true, ↓reduceIte, true_and, and_true, and_self, Option.toList, List.cons_append, List.nil_append, Fin.isValue, forall_const, false_implies, implies_true, true_implies, reduceCtorEq, or_false, false_or, true_or, or_true, ne_eq, not_false_eq_true, not_true_eq_false, Classical.not_not, Bool.or_false, Bool.false_or, Bool.or_true, Bool.true_or, nat_int, Nat.reduceAdd, Nat.reduceBEq, Nat.reduceEqDiff, Int32.reduceLT, Int32.reduceLE, Int32.reduceAdd, Int32.reduceSub, Int.reduceAdd, Int.reduceToNat, Int.reduceLE, Int.reduceLT, Int.reduceNeg, Int.reduceSub, Int32.reduceOfInt, Nat.reduceMod, Fin.reduceFinMk, D_X8_letter, rsf_8]
    by_cases hs : sv (nM (adv μ)) (nM (adv μ) 39 29) = 45
    · refine ⟨fun _ => ?_, fun z => absurd hs z⟩
      have p3 := adv_PA p2 (sv_lt p2 hs)
      obtain ⟨A4, p4, hA4⟩ := nM_PA p3
      have ea2 : mset (nM (adv μ)) 39 29 (nM (adv μ) 39 29 + 1) = adv (nM (adv μ)) := rfl
      have k12b : nM (adv (nM (adv μ))) 54 12 = μ 54 12 := by rw [nM_k (Or.inl (by decide)), adv_k (Or.inl (by decide)), k12]
      rw [ea2]
      refine X.callV0 S_8_138 (by decide +kernel) rcv_39 (by decide) (by decide) (Nat.le_of_ble_eq_true rfl) (k8_num (adv (nM (adv μ))) (A2 + 1) T p3) ?_
      refine X.vc (fun _ => false) 60 ?_
      simp only [↓vc_zero, ↓vc_succ, ↓vn_app, ↓vd_ok, ↓vx_iconst, ↓vx_bipush, ↓vx_sipush, ↓vx_ldc, ↓vx_iload_n, ↓vx_iload, ↓vx_aload_n, ↓vx_aload, ↓vx_istore_n, ↓vx_istore, ↓vx_iinc, ↓vx_iadd, ↓vx_isub, ↓vx_imul, ↓vx_iand, ↓vx_ior, ↓vx_ixor, ↓vx_ishl, ↓vx_ishr, ↓vx_iushr, ↓vx_dup, ↓vx_dup2, ↓vx_goto, ↓vx_if_icmp, ↓vx_ifCond, ↓vx_getfield, ↓vx_putfield, ↓vx_iaload, ↓vx_iastore, ↓vx_baload, ↓vx_bastore, ↓vx_aaload, ↓vx_ireturn, ↓vx_return, ↓vx_invokevirtual, ↓vx_invokestatic, ↓vx_table, ↓vx_lookup, ↓vld_ok, ↓vldr_ok, ↓vst_ok, ↓vic_ok, ↓vgf_ok, ↓vgo_ok, ↓vpf_f, ↓vpf_t, ↓vpo_ok, ↓vkc_ok, ↓vbr_eq, ↓bz_01, bz_0, bz_1, is_app, mset_app, tnc_ok, wr_app, wr_ms, is59_app, vpn_ok, vpn_bz, Option.some.injEq, Sum.inl.injEq, getL, setL, Option.map_some, fvl_ok, mff_ok, jp, icm, inb_ok, ins_ok, zin_ok, rin_ok, vpi_ok, bip_ok, sip_ok, kcf_ok, vsw, vlk, Bool.false_eq_true, ↓reduceIte, true_and, and_true, and_self, Option.toList, List.cons_append, List.nil_append, Fin.isValue, forall_const, false_implies, implies_true, true_implies, reduceCtorEq, or_false, false_or, true_or, or_true, ne_eq, not_false_eq_true, not_true_eq_false, Classical.not_not, Bool.or_false, Bool.false_or, Bool.or_true, Bool.true_or, nat_int, Nat.reduceAdd, Nat.reduceBEq, Nat.reduceEqDiff, Int32.reduceLT, Int32.reduceLE, Int32.reduceAdd, Int32.reduceSub, Int.reduceAdd, Int.reduceToNat, Int.reduceLE, Int.reduceLT, Int.reduceNeg, Int.reduceSub, Int32.reduceOfInt, Nat.reduceMod, Fin.reduceFinMk, D_X8_letter, rsf_8]
      by_cases hb : rn (adv (nM (adv μ))) < 0
      · have hb' : ¬ 0 ≤ rn (adv (nM (adv μ))) := by grind
        have e1 : letR μ c = 1 := by rw [letR, if_neg hneg, if_neg (fun z => z hc), if_neg (fun z => z hs), if_pos hb]
        have e2 : letF μ c = nM (adv (nM (adv μ))) := by rw [letF, if_neg hneg, if_neg (fun z => z hc), if_neg (fun z => z hs), if_pos hb]
        rw [e1, e2]
        exact ⟨fun z => absurd z hb', fun _ => ⟨rfl, rfl⟩⟩
      · have hb' : 0 ≤ rn (adv (nM (adv μ))) := by grind
        have e1 : letR μ c = if rn (adv μ) ≤ 5000 ∧ (rn (adv μ) ≤ rn (adv (nM (adv μ))) ∧ rn (adv (nM (adv μ))) ≤ 5000) then 0 else 2 := by rw [letR, if_neg hneg, if_neg (fun z => z hc), if_neg (fun z => z hs), if_neg hb]
        have e2 : letF μ c = gf_order (nM (adv (nM (adv μ)))) 3 (rn (adv μ)) (rn (adv (nM (adv μ)))) := by rw [letF, if_neg hneg, if_neg (fun z => z hc), if_neg (fun z => z hs), if_neg hb]
        rw [e1, e2]
        refine ⟨fun _ => ?_, fun z => absurd hb' z⟩
        refine X.callV3 S_8_142 (by decide +kernel) rcv_39 (by decide) (by decide) (Nat.le_of_ble_eq_true rfl) (k8_order (nM (adv (nM (adv μ)))) 3 (rn (adv μ)) (rn (adv (nM (adv μ)))) (by rw [k12b]; exact l0) (by rw [k12b]; exact l1)) ?_
        refine X.vc (fun _ => false) 60 ?_
        simp only [↓vc_zero, ↓vc_succ, ↓vn_app, ↓vd_ok, ↓vx_iconst, ↓vx_bipush, ↓vx_sipush, ↓vx_ldc, ↓vx_iload_n, ↓vx_iload, ↓vx_aload_n, ↓vx_aload, ↓vx_istore_n, ↓vx_istore, ↓vx_iinc, ↓vx_iadd, ↓vx_isub, ↓vx_imul, ↓vx_iand, ↓vx_ior, ↓vx_ixor, ↓vx_ishl, ↓vx_ishr, ↓vx_iushr, ↓vx_dup, ↓vx_dup2, ↓vx_goto, ↓vx_if_icmp, ↓vx_ifCond, ↓vx_getfield, ↓vx_putfield, ↓vx_iaload, ↓vx_iastore, ↓vx_baload, ↓vx_bastore, ↓vx_aaload, ↓vx_ireturn, ↓vx_return, ↓vx_invokevirtual, ↓vx_invokestatic, ↓vx_table, ↓vx_lookup, ↓vld_ok, ↓vldr_ok, ↓vst_ok, ↓vic_ok, ↓vgf_ok, ↓vgo_ok, ↓vpf_f, ↓vpf_t, ↓vpo_ok, ↓vkc_ok, ↓vbr_eq, ↓bz_01, bz_0, bz_1, is_app, mset_app, tnc_ok, wr_app, wr_ms, is59_app, vpn_ok, vpn_bz, Option.some.injEq, Sum.inl.injEq, getL, setL, Option.map_some, fvl_ok, mff_ok, jp, icm, inb_ok, ins_ok, zin_ok, rin_ok, vpi_ok, bip_ok, sip_ok, kcf_ok, vsw, vlk, Bool.false_eq_true, ↓reduceIte, true_and, and_true, and_self, Option.toList, List.cons_append, List.nil_append, Fin.isValue, forall_const, false_implies, implies_true, true_implies, reduceCtorEq, or_false, false_or, true_or, or_true, ne_eq, not_false_eq_true, not_true_eq_false, Classical.not_not, Bool.or_false, Bool.false_or, Bool.or_true, Bool.true_or, nat_int, Nat.reduceAdd, Nat.reduceBEq, Nat.reduceEqDiff, Int32.reduceLT, Int32.reduceLE, Int32.reduceAdd, Int32.reduceSub, Int.reduceAdd, Int.reduceToNat, Int.reduceLE, Int.reduceLT, Int.reduceNeg, Int.reduceSub, Int32.reduceOfInt, Nat.reduceMod, Fin.reduceFinMk, D_X8_letter, rsf_8]
        by_cases h5 : rn (adv μ) ≤ 5000
        · refine ⟨fun z => absurd z (by grind), fun _ => ?_⟩
          refine X.callS3 S_8_93 (by decide +kernel) (by decide) (by decide) (Nat.le_of_ble_eq_true rfl) (k8_isIn _ _ _ _) ?_
          refine X.vc (fun _ => false) 60 ?_
          simp only [↓vc_zero, ↓vc_succ, ↓vn_app, ↓vd_ok, ↓vx_iconst, ↓vx_bipush, ↓vx_sipush, ↓vx_ldc, ↓vx_iload_n, ↓vx_iload, ↓vx_aload_n, ↓vx_aload, ↓vx_istore_n, ↓vx_istore, ↓vx_iinc, ↓vx_iadd, ↓vx_isub, ↓vx_imul, ↓vx_iand, ↓vx_ior, ↓vx_ixor, ↓vx_ishl, ↓vx_ishr, ↓vx_iushr, ↓vx_dup, ↓vx_dup2, ↓vx_goto, ↓vx_if_icmp, ↓vx_ifCond, ↓vx_getfield, ↓vx_putfield, ↓vx_iaload, ↓vx_iastore, ↓vx_baload, ↓vx_bastore, ↓vx_aaload, ↓vx_ireturn, ↓vx_return, ↓vx_invokevirtual, ↓vx_invokestatic, ↓vx_table, ↓vx_lookup, ↓vld_ok, ↓vldr_ok, ↓vst_ok, ↓vic_ok, ↓vgf_ok, ↓vgo_ok, ↓vpf_f, ↓vpf_t, ↓vpo_ok, ↓vkc_ok, ↓vbr_eq, ↓bz_01, bz_0, bz_1, is_app, mset_app, tnc_ok, wr_app, wr_ms, is59_app, vpn_ok, vpn_bz, Option.some.injEq, Sum.inl.injEq, getL, setL, Option.map_some, fvl_ok, mff_ok, jp, icm, inb_ok, ins_ok, zin_ok, rin_ok, vpi_ok, bip_ok, sip_ok, kcf_ok, vsw, vlk, Bool.false_eq_true, ↓reduceIte, true_and, and_true, and_self, Option.toList, List.cons_append, List.nil_append, Fin.isValue, forall_const, false_implies, implies_true, true_implies, reduceCtorEq, or_false, false_or, true_or, or_true, ne_eq, not_false_eq_true, not_true_eq_false, Classical.not_not, Bool.or_false, Bool.false_or, Bool.or_true, Bool.true_or, nat_int, Nat.reduceAdd, Nat.reduceBEq, Nat.reduceEqDiff, Int32.reduceLT, Int32.reduceLE, Int32.reduceAdd, Int32.reduceSub, Int.reduceAdd, Int.reduceToNat, Int.reduceLE, Int.reduceLT, Int.reduceNeg, Int.reduceSub, Int32.reduceOfInt, Nat.reduceMod, Fin.reduceFinMk, D_X8_letter, rsf_8]
          by_cases h6 : rn (adv μ) ≤ rn (adv (nM (adv μ))) ∧ rn (adv (nM (adv μ))) ≤ 5000
          · rw [if_pos ⟨h5, h6⟩]
            exact ⟨fun z => absurd h6 z, fun _ => rfl⟩
          · rw [if_neg (fun z => h6 z.2)]
            exact ⟨fun _ => rfl, fun z => absurd z h6⟩
        · rw [if_neg (fun z => h5 z.1)]
          exact ⟨fun _ => rfl, fun z => absurd (by grind) z⟩
    · have e1 : letR μ c = 1 := by rw [letR, if_neg hneg, if_neg (fun z => z hc), if_pos hs]
      have e2 : letF μ c = nM (adv μ) := by rw [letF, if_neg hneg, if_neg (fun z => z hc), if_pos hs]
      rw [e1, e2]
      exact ⟨fun z => absurd z hs, fun _ => ⟨rfl, rfl⟩⟩
  · refine ⟨fun z => absurd z hc, fun _ => ?_⟩
    have e1 : letR μ c = if rn (adv μ) < lm c then 0 else 2 := by rw [letR, if_neg hneg, if_pos hc]
    have e2 : letF μ c = gf_order (nM (adv μ)) (lw c) (rn (adv μ)) 0 := by rw [letF, if_neg hneg, if_pos hc]
    rw [e1, e2]
    have o0 : 0 ≤ nM (adv μ) 54 12 := by rw [k12]; exact l0
    have o1 : nM (adv μ) 54 12 ≤ 63 := by rw [k12]; exact l1
    refine ⟨fun c1 => ⟨fun c2 => ?_, fun c2 => ?_⟩, fun c1 => ?_⟩
    · have w1 : lw c = 2 := by rw [lw, if_neg c1, if_neg c2]
      have w2 : lm c = 6 := by rw [lm, if_neg c1, if_neg c2]
      rw [w1, w2]
      refine X.callV3 S_8_142 (by decide +kernel) rcv_39 (by decide) (by decide) (Nat.le_of_ble_eq_true rfl) (k8_order (nM (adv μ)) 2 (rn (adv μ)) 0 o0 o1) ?_
      refine X.vc (fun _ => false) 60 ?_
      simp only [↓vc_zero, ↓vc_succ, ↓vn_app, ↓vd_ok, ↓vx_iconst, ↓vx_bipush, ↓vx_sipush, ↓vx_ldc, ↓vx_iload_n, ↓vx_iload, ↓vx_aload_n, ↓vx_aload, ↓vx_istore_n, ↓vx_istore, ↓vx_iinc, ↓vx_iadd, ↓vx_isub, ↓vx_imul, ↓vx_iand, ↓vx_ior, ↓vx_ixor, ↓vx_ishl, ↓vx_ishr, ↓vx_iushr, ↓vx_dup, ↓vx_dup2, ↓vx_goto, ↓vx_if_icmp, ↓vx_ifCond, ↓vx_getfield, ↓vx_putfield, ↓vx_iaload, ↓vx_iastore, ↓vx_baload, ↓vx_bastore, ↓vx_aaload, ↓vx_ireturn, ↓vx_return, ↓vx_invokevirtual, ↓vx_invokestatic, ↓vx_table, ↓vx_lookup, ↓vld_ok, ↓vldr_ok, ↓vst_ok, ↓vic_ok, ↓vgf_ok, ↓vgo_ok, ↓vpf_f, ↓vpf_t, ↓vpo_ok, ↓vkc_ok, ↓vbr_eq, ↓bz_01, bz_0, bz_1, is_app, mset_app, tnc_ok, wr_app, wr_ms, is59_app, vpn_ok, vpn_bz, Option.some.injEq, Sum.inl.injEq, getL, setL, Option.map_some, fvl_ok, mff_ok, jp, icm, inb_ok, ins_ok, zin_ok, rin_ok, vpi_ok, bip_ok, sip_ok, kcf_ok, vsw, vlk, Bool.false_eq_true, ↓reduceIte, true_and, and_true, and_self, Option.toList, List.cons_append, List.nil_append, Fin.isValue, forall_const, false_implies, implies_true, true_implies, reduceCtorEq, or_false, false_or, true_or, or_true, ne_eq, not_false_eq_true, not_true_eq_false, Classical.not_not, Bool.or_false, Bool.false_or, Bool.or_true, Bool.true_or, nat_int, Nat.reduceAdd, Nat.reduceBEq, Nat.reduceEqDiff, Int32.reduceLT, Int32.reduceLE, Int32.reduceAdd, Int32.reduceSub, Int.reduceAdd, Int.reduceToNat, Int.reduceLE, Int.reduceLT, Int.reduceNeg, Int.reduceSub, Int32.reduceOfInt, Nat.reduceMod, Fin.reduceFinMk, D_X8_letter, rsf_8, lit_ok]
      grind
    · have w1 : lw c = 1 := by rw [lw, if_neg c1, if_pos c2]
      have w2 : lm c = 10 := by rw [lm, if_neg c1, if_pos c2]
      rw [w1, w2]
      refine X.callV3 S_8_142 (by decide +kernel) rcv_39 (by decide) (by decide) (Nat.le_of_ble_eq_true rfl) (k8_order (nM (adv μ)) 1 (rn (adv μ)) 0 o0 o1) ?_
      refine X.vc (fun _ => false) 60 ?_
      simp only [↓vc_zero, ↓vc_succ, ↓vn_app, ↓vd_ok, ↓vx_iconst, ↓vx_bipush, ↓vx_sipush, ↓vx_ldc, ↓vx_iload_n, ↓vx_iload, ↓vx_aload_n, ↓vx_aload, ↓vx_istore_n, ↓vx_istore, ↓vx_iinc, ↓vx_iadd, ↓vx_isub, ↓vx_imul, ↓vx_iand, ↓vx_ior, ↓vx_ixor, ↓vx_ishl, ↓vx_ishr, ↓vx_iushr, ↓vx_dup, ↓vx_dup2, ↓vx_goto, ↓vx_if_icmp, ↓vx_ifCond, ↓vx_getfield, ↓vx_putfield, ↓vx_iaload, ↓vx_iastore, ↓vx_baload, ↓vx_bastore, ↓vx_aaload, ↓vx_ireturn, ↓vx_return, ↓vx_invokevirtual, ↓vx_invokestatic, ↓vx_table, ↓vx_lookup, ↓vld_ok, ↓vldr_ok, ↓vst_ok, ↓vic_ok, ↓vgf_ok, ↓vgo_ok, ↓vpf_f, ↓vpf_t, ↓vpo_ok, ↓vkc_ok, ↓vbr_eq, ↓bz_01, bz_0, bz_1, is_app, mset_app, tnc_ok, wr_app, wr_ms, is59_app, vpn_ok, vpn_bz, Option.some.injEq, Sum.inl.injEq, getL, setL, Option.map_some, fvl_ok, mff_ok, jp, icm, inb_ok, ins_ok, zin_ok, rin_ok, vpi_ok, bip_ok, sip_ok, kcf_ok, vsw, vlk, Bool.false_eq_true, ↓reduceIte, true_and, and_true, and_self, Option.toList, List.cons_append, List.nil_append, Fin.isValue, forall_const, false_implies, implies_true, true_implies, reduceCtorEq, or_false, false_or, true_or, or_true, ne_eq, not_false_eq_true, not_true_eq_false, Classical.not_not, Bool.or_false, Bool.false_or, Bool.or_true, Bool.true_or, nat_int, Nat.reduceAdd, Nat.reduceBEq, Nat.reduceEqDiff, Int32.reduceLT, Int32.reduceLE, Int32.reduceAdd, Int32.reduceSub, Int.reduceAdd, Int.reduceToNat, Int.reduceLE, Int.reduceLT, Int.reduceNeg, Int.reduceSub, Int32.reduceOfInt, Nat.reduceMod, Fin.reduceFinMk, D_X8_letter, rsf_8, lit_ok]
      grind
    · have w1 : lw c = 0 := by rw [lw, if_pos c1]
      have w2 : lm c = 30 := by rw [lm, if_pos c1]
      rw [w1, w2]
      refine X.callV3 S_8_142 (by decide +kernel) rcv_39 (by decide) (by decide) (Nat.le_of_ble_eq_true rfl) (k8_order (nM (adv μ)) 0 (rn (adv μ)) 0 o0 o1) ?_
      refine X.vc (fun _ => false) 60 ?_
      simp only [↓vc_zero, ↓vc_succ, ↓vn_app, ↓vd_ok, ↓vx_iconst, ↓vx_bipush, ↓vx_sipush, ↓vx_ldc, ↓vx_iload_n, ↓vx_iload, ↓vx_aload_n, ↓vx_aload, ↓vx_istore_n, ↓vx_istore, ↓vx_iinc, ↓vx_iadd, ↓vx_isub, ↓vx_imul, ↓vx_iand, ↓vx_ior, ↓vx_ixor, ↓vx_ishl, ↓vx_ishr, ↓vx_iushr, ↓vx_dup, ↓vx_dup2, ↓vx_goto, ↓vx_if_icmp, ↓vx_ifCond, ↓vx_getfield, ↓vx_putfield, ↓vx_iaload, ↓vx_iastore, ↓vx_baload, ↓vx_bastore, ↓vx_aaload, ↓vx_ireturn, ↓vx_return, ↓vx_invokevirtual, ↓vx_invokestatic, ↓vx_table, ↓vx_lookup, ↓vld_ok, ↓vldr_ok, ↓vst_ok, ↓vic_ok, ↓vgf_ok, ↓vgo_ok, ↓vpf_f, ↓vpf_t, ↓vpo_ok, ↓vkc_ok, ↓vbr_eq, ↓bz_01, bz_0, bz_1, is_app, mset_app, tnc_ok, wr_app, wr_ms, is59_app, vpn_ok, vpn_bz, Option.some.injEq, Sum.inl.injEq, getL, setL, Option.map_some, fvl_ok, mff_ok, jp, icm, inb_ok, ins_ok, zin_ok, rin_ok, vpi_ok, bip_ok, sip_ok, kcf_ok, vsw, vlk, Bool.false_eq_true, ↓reduceIte, true_and, and_true, and_self, Option.toList, List.cons_append, List.nil_append, Fin.isValue, forall_const, false_implies, implies_true, true_implies, reduceCtorEq, or_false, false_or, true_or, or_true, ne_eq, not_false_eq_true, not_true_eq_false, Classical.not_not, Bool.or_false, Bool.false_or, Bool.or_true, Bool.true_or, nat_int, Nat.reduceAdd, Nat.reduceBEq, Nat.reduceEqDiff, Int32.reduceLT, Int32.reduceLE, Int32.reduceAdd, Int32.reduceSub, Int.reduceAdd, Int.reduceToNat, Int.reduceLE, Int.reduceLT, Int.reduceNeg, Int.reduceSub, Int32.reduceOfInt, Nat.reduceMod, Fin.reduceFinMk, D_X8_letter, rsf_8, lit_ok]
      grind
