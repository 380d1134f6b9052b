/-! read -/
def skM : Nat → Mem → Mem
  | 0, m => m
  | f + 1, m => if sv m (m 39 29) = 32 then skM f (adv m) else m
def skp (m : Mem) : Mem := skM (fz m) m
def plc (m : Mem) : Mem := mset (skp m) 39 30 (skp m 39 29)
theorem skM_k {a j : Nat} (h : a ≠ 39 ∨ j ≠ 29) : ∀ (f : Nat) (m : Mem), skM f m a j = m a j
  | 0, _ => rfl
  | f + 1, m => by
    unfold skM
    split
    · rw [skM_k h f, adv_k h]
    · rfl
theorem skM_PA : ∀ (f : Nat) (m : Mem) (A T : Nat), PA m A T → A + f = T → ∃ A', PA (skM f m) A' T ∧ A ≤ A'
  | 0, m, A, T, h, _ => ⟨A, h, Nat.le_refl A⟩
  | f + 1, m, A, T, h, hf => by
    unfold skM
    split
    · obtain ⟨A', h1, h2⟩ := skM_PA f (adv m) (A + 1) T (adv_PA h (by omega)) (by omega)
      exact ⟨A', h1, by omega⟩
    · exact ⟨A, h, Nat.le_refl A⟩
theorem plc_RI {m : Mem} {A T P O : Nat} (h : RI m A T P O) : ∃ A', RI (plc m) A' T P O ∧ A ≤ A' := by
  obtain ⟨hp, hP, hO, hPO⟩ := h
  obtain ⟨A', h1, h2⟩ := skM_PA (fz m) m A T hp (PA_fz hp)
  have h3 : PA (skp m) A' T := h1
  refine ⟨A', ⟨PA_c h3 (ms_j (by decide)) (ms_j (by decide)), ?_, ?_, by omega⟩, h2⟩
  · rw [plc, ms_j (by decide), skp, skM_k (Or.inr (by decide))]
    exact hP
  · rw [plc, ms_k (by decide), skp, skM_k (Or.inl (by decide))]
    exact hO
def fin (w : Bool) (m : Mem) : Int32 × Mem := if w = true then ((if 0 < workM 124 (pl m) m 39 32 then 1 else 0), workM 124 (pl m) m) else (1, m)
def readP : Nat → Bool → Mem → Int32 × Mem
  | 0, _, m => (1, m)
  | f + 1, w, m => if sv (plc m) (plc m 39 29) < 0 then fin w (plc m) else
    if w = true then (if behR (plc m) (sv (plc m) (plc m 39 29)) = 0 then readP f (decide (sv (plc m) (plc m 39 29) = 41)) (behF (plc m) (sv (plc m) (plc m 39 29))) else (behR (plc m) (sv (plc m) (plc m 39 29)), behF (plc m) (sv (plc m) (plc m 39 29))))
    else (if begR (plc m) (sv (plc m) (plc m 39 29)) = 0 then readP f (decide (¬ sv (plc m) (plc m 39 29) = 33 ∧ ¬ sv (plc m) (plc m 39 29) = 40)) (begF (plc m) (sv (plc m) (plc m 39 29))) else (begR (plc m) (sv (plc m) (plc m 39 29)), begF (plc m) (sv (plc m) (plc m 39 29))))
set_option maxRecDepth 100000 in
set_option maxHeartbeats 400000 in
theorem skip_loop (Q : Option Vl → Mem → Prop) (w c : Int32) (o : Option Vl) : ∀ (f : Nat) (m : Mem) (A T : Nat), PA m A T → A + f = T → X 8 4 cX8_read (some .int) 5 (skM f m) 57 [some (.inr 39), some (.inl w), some (.inl c), o] [] Q → X 8 4 cX8_read (some .int) 5 m 31 [some (.inr 39), some (.inl w), some (.inl c), o] [] Q := by
  intro f
  induction f with
  | zero =>
    intro m A T h hf k

    have a0 : 0 ≤ m 39 29 := by rw [h.1]; exact nI_pos' (by have := h.2.2.1; have := h.2.2.2; omega)
    have a1 : m 39 19 ≤ 60 := by rw [h.2.1]; exact nI_le (b := 60) h.2.2.2 (by decide)
    have hs : ¬ sv m (m 39 29) = 32 := by
      rw [sv, h.1, h.2.1, if_neg (nI_nlt (by omega) (by have := h.2.2.2; omega))]
      decide
    refine X.vc (fun q => q == 57) 60 ?_
    simp only [↓vc_zero, ↓vc_succ, ↓vn_app, ↓vd_ok, ↓vx_iconst, ↓vx_bipush, ↓vx_sipush, ↓vx_ldc, ↓vx_iload_n, ↓vx_iload, ↓vx_aload_n, ↓vx_aload, ↓vx_istore_n, ↓vx_istore, ↓vx_iinc, ↓vx_iadd, ↓vx_isub, ↓vx_imul, ↓vx_iand, ↓vx_ior, ↓vx_ixor, ↓vx_ishl, ↓vx_ishr, ↓vx_iushr, ↓vx_dup, ↓vx_dup2, ↓vx_goto, ↓vx_if_icmp, ↓vx_ifCond, ↓vx_getfield, ↓vx_putfield, ↓vx_iaload, ↓vx_iastore, ↓vx_baload, ↓vx_bastore, ↓vx_aaload, ↓vx_ireturn, ↓vx_return, ↓vx_invokevirtual, ↓vx_invokestatic, ↓vx_table, ↓vx_lookup, ↓vld_ok, ↓vldr_ok, ↓vst_ok, ↓vic_ok, ↓vgf_ok, ↓vgo_ok, ↓vpf_f, ↓vpf_t, ↓vpo_ok, ↓vkc_ok, ↓vbr_eq, ↓bz_01, bz_0, bz_1, is_app, mset_app, tnc_ok, wr_app, wr_ms, is59_app, vpn_ok, vpn_bz, Option.some.injEq, Sum.inl.injEq, getL, setL, Option.map_some, fvl_ok, mff_ok, jp, icm, inb_ok, ins_ok, zin_ok, rin_ok, vpi_ok, bip_ok, sip_ok, kcf_ok, vsw, vlk, Bool.false_eq_true, ↓reduceIte, true_and, and_true, and_self, Option.toList, List.cons_append, List.nil_append, Fin.isValue, forall_const, false_implies, implies_true, true_implies, reduceCtorEq, or_false, false_or, true_or, or_true, ne_eq, not_false_eq_true, not_true_eq_false, Classical.not_not, Bool.or_false, Bool.false_or, Bool.or_true, Bool.true_or, nat_int, Nat.reduceAdd, Nat.reduceBEq, Nat.reduceEqDiff, Int32.reduceLT, Int32.reduceLE, Int32.reduceAdd, Int32.reduceSub, Int.reduceAdd, Int.reduceToNat, Int.reduceLE, Int.reduceLT, Int.reduceNeg, Int.reduceSub, Int32.reduceOfInt, Nat.reduceMod, Fin.reduceFinMk, D_X8_read, rsf_8]
    refine X.callV1 S_8_130 (by decide +kernel) rcv_39 (by decide) (by decide) (Nat.le_of_ble_eq_true rfl) (k8_sv m _ a0 a1) ?_
    have e0 : skM 0 m = m := rfl
    rw [e0] at k
    refine X.vc (fun q => q == 57 || q == 31) 60 ?_
    simp only [↓vc_zero, ↓vc_succ, ↓vn_app, ↓vd_ok, ↓vx_iconst, ↓vx_bipush, ↓vx_sipush, ↓vx_ldc, ↓vx_iload_n, ↓vx_iload, ↓vx_aload_n, ↓vx_aload, ↓vx_istore_n, ↓vx_istore, ↓vx_iinc, ↓vx_iadd, ↓vx_isub, ↓vx_imul, ↓vx_iand, ↓vx_ior, ↓vx_ixor, ↓vx_ishl, ↓vx_ishr, ↓vx_iushr, ↓vx_dup, ↓vx_dup2, ↓vx_goto, ↓vx_if_icmp, ↓vx_ifCond, ↓vx_getfield, ↓vx_putfield, ↓vx_iaload, ↓vx_iastore, ↓vx_baload, ↓vx_bastore, ↓vx_aaload, ↓vx_ireturn, ↓vx_return, ↓vx_invokevirtual, ↓vx_invokestatic, ↓vx_table, ↓vx_lookup, ↓vld_ok, ↓vldr_ok, ↓vst_ok, ↓vic_ok, ↓vgf_ok, ↓vgo_ok, ↓vpf_f, ↓vpf_t, ↓vpo_ok, ↓vkc_ok, ↓vbr_eq, ↓bz_01, bz_0, bz_1, is_app, mset_app, tnc_ok, wr_app, wr_ms, is59_app, vpn_ok, vpn_bz, Option.some.injEq, Sum.inl.injEq, getL, setL, Option.map_some, fvl_ok, mff_ok, jp, icm, inb_ok, ins_ok, zin_ok, rin_ok, vpi_ok, bip_ok, sip_ok, kcf_ok, vsw, vlk, Bool.false_eq_true, ↓reduceIte, true_and, and_true, and_self, Option.toList, List.cons_append, List.nil_append, Fin.isValue, forall_const, false_implies, implies_true, true_implies, reduceCtorEq, or_false, false_or, true_or, or_true, ne_eq, not_false_eq_true, not_true_eq_false, Classical.not_not, Bool.or_false, Bool.false_or, Bool.or_true, Bool.true_or, nat_int, Nat.reduceAdd, Nat.reduceBEq, Nat.reduceEqDiff, Int32.reduceLT, Int32.reduceLE, Int32.reduceAdd, Int32.reduceSub, Int.reduceAdd, Int.reduceToNat, Int.reduceLE, Int.reduceLT, Int.reduceNeg, Int.reduceSub, Int32.reduceOfInt, Nat.reduceMod, Fin.reduceFinMk, D_X8_read, rsf_8]
    exact ⟨fun _ => k, fun z => absurd z hs⟩
  | succ f ih =>
    intro m A T h hf k
    have a0 : 0 ≤ m 39 29 := by rw [h.1]; exact nI_pos' (by have := h.2.2.1; have := h.2.2.2; omega)
    have a1 : m 39 19 ≤ 60 := by rw [h.2.1]; exact nI_le (b := 60) h.2.2.2 (by decide)
    refine X.vc (fun q => q == 57) 60 ?_
    simp only [↓vc_zero, ↓vc_succ, ↓vn_app, ↓vd_ok, ↓vx_iconst, ↓vx_bipush, ↓vx_sipush, ↓vx_ldc, ↓vx_iload_n, ↓vx_iload, ↓vx_aload_n, ↓vx_aload, ↓vx_istore_n, ↓vx_istore, ↓vx_iinc, ↓vx_iadd, ↓vx_isub, ↓vx_imul, ↓vx_iand, ↓vx_ior, ↓vx_ixor, ↓vx_ishl, ↓vx_ishr, ↓vx_iushr, ↓vx_dup, ↓vx_dup2, ↓vx_goto, ↓vx_if_icmp, ↓vx_ifCond, ↓vx_getfield, ↓vx_putfield, ↓vx_iaload, ↓vx_iastore, ↓vx_baload, ↓vx_bastore, ↓vx_aaload, ↓vx_ireturn, ↓vx_return, ↓vx_invokevirtual, ↓vx_invokestatic, ↓vx_table, ↓vx_lookup, ↓vld_ok, ↓vldr_ok, ↓vst_ok, ↓vic_ok, ↓vgf_ok, ↓vgo_ok, ↓vpf_f, ↓vpf_t, ↓vpo_ok, ↓vkc_ok, ↓vbr_eq, ↓bz_01, bz_0, bz_1, is_app, mset_app, tnc_ok, wr_app, wr_ms, is59_app, vpn_ok, vpn_bz, Option.some.injEq, Sum.inl.injEq, getL, setL, Option.map_some, fvl_ok, mff_ok, jp, icm, inb_ok, ins_ok, zin_ok, rin_ok, vpi_ok, bip_ok, sip_ok, kcf_ok, vsw, vlk, Bool.false_eq_true, ↓reduceIte, true_and, and_true, and_self, Option.toList, List.cons_append, List.nil_append, Fin.isValue, forall_const, false_implies, implies_true, true_implies, reduceCtorEq, or_false, false_or, true_or, or_true, ne_eq, not_false_eq_true, not_true_eq_false, Classical.not_not, Bool.or_false, Bool.false_or, Bool.or_true, Bool.true_or, nat_int, Nat.reduceAdd, Nat.reduceBEq, Nat.reduceEqDiff, Int32.reduceLT, Int32.reduceLE, Int32.reduceAdd, Int32.reduceSub, Int.reduceAdd, Int.reduceToNat, Int.reduceLE, Int.reduceLT, Int.reduceNeg, Int.reduceSub, Int32.reduceOfInt, Nat.reduceMod, Fin.reduceFinMk, D_X8_read, rsf_8]
    refine X.callV1 S_8_130 (by decide +kernel) rcv_39 (by decide) (by decide) (Nat.le_of_ble_eq_true rfl) (k8_sv m _ a0 a1) ?_
    refine X.vc (fun q => q == 57 || q == 31) 60 ?_
    simp only [↓vc_zero, ↓vc_succ, ↓vn_app, ↓vd_ok, ↓vx_iconst, ↓vx_bipush, ↓vx_sipush, ↓vx_ldc, ↓vx_iload_n, ↓vx_iload, ↓vx_aload_n, ↓vx_aload, ↓vx_istore_n, ↓vx_istore, ↓vx_iinc, ↓vx_iadd, ↓vx_isub, ↓vx_imul, ↓vx_iand, ↓vx_ior, ↓vx_ixor, ↓vx_ishl, ↓vx_ishr, ↓vx_iushr, ↓vx_dup, ↓vx_dup2, ↓vx_goto, ↓vx_if_icmp, ↓vx_ifCond, ↓vx_getfield, ↓vx_putfield, ↓vx_iaload, ↓vx_iastore, ↓vx_baload, ↓vx_bastore, ↓vx_aaload, ↓vx_ireturn, ↓vx_return, ↓vx_invokevirtual, ↓vx_invokestatic, ↓vx_table, ↓vx_lookup, ↓vld_ok, ↓vldr_ok, ↓vst_ok, ↓vic_ok, ↓vgf_ok, ↓vgo_ok, ↓vpf_f, ↓vpf_t, ↓vpo_ok, ↓vkc_ok, ↓vbr_eq, ↓bz_01, bz_0, bz_1, is_app, mset_app, tnc_ok, wr_app, wr_ms, is59_app, vpn_ok, vpn_bz, Option.some.injEq, Sum.inl.injEq, getL, setL, Option.map_some, fvl_ok, mff_ok, jp, icm, inb_ok, ins_ok, zin_ok, rin_ok, vpi_ok, bip_ok, sip_ok, kcf_ok, vsw, vlk, Bool.false_eq_true, ↓reduceIte, true_and, and_true, and_self, Option.toList, List.cons_append, List.nil_append, Fin.isValue, forall_const, false_implies, implies_true, true_implies, reduceCtorEq, or_false, false_or, true_or, or_true, ne_eq, not_false_eq_true, not_true_eq_false, Classical.not_not, Bool.or_false, Bool.false_or, Bool.or_true, Bool.true_or, nat_int, Nat.reduceAdd, Nat.reduceBEq, Nat.reduceEqDiff, Int32.reduceLT, Int32.reduceLE, Int32.reduceAdd, Int32.reduceSub, Int.reduceAdd, Int.reduceToNat, Int.reduceLE, Int.reduceLT, Int.reduceNeg, Int.reduceSub, Int32.reduceOfInt, Nat.reduceMod, Fin.reduceFinMk, D_X8_read, rsf_8]
    by_cases hs : sv m (m 39 29) = 32
    · have e : skM (f + 1) m = skM f (adv m) := if_pos hs
      rw [e] at k
      exact ⟨fun z => absurd hs z, fun _ => ih (adv m) (A + 1) T (adv_PA h (by omega)) (by omega) k⟩
    · have e : skM (f + 1) m = m := if_neg hs
      rw [e] at k
      exact ⟨fun _ => k, fun z => absurd z hs⟩
theorem fin_1 {w : Bool} {m : Mem} : fin w m = if w = true then ((if 0 < workM 124 (pl m) m 39 32 then 1 else 0), workM 124 (pl m) m) else (1, m) := rfl
set_option maxRecDepth 100000 in
set_option maxHeartbeats 600000 in
theorem fin_end (w : Bool) (m : Mem) (A T P O : Nat) (h : RI m A T P O) (c : Int32) (o : Option Vl) : X 8 4 cX8_read (some .int) 5 m 149 [some (.inr 39), some (.inl (bz (w = true))), some (.inl c), o] [] (Is (some (.inl (fin w m).1)) (fin w m).2) := by

  obtain ⟨hp, hP, hO, hPO⟩ := h
  have hT := hp.2.2.2
  have hA := hp.2.2.1
  have hpl : pl m = P := by rw [pl, hP]; exact nI_clamp (by omega)
  have l0 : 0 ≤ (m 54 12).toInt := by rw [hO, nI_toInt (by omega)]; omega
  have l1 : (m 54 12).toInt + P ≤ 62 := by rw [hO, nI_toInt (by omega)]; omega
  refine X.vc (fun _ => false) 60 ?_
  simp only [↓vc_zero, ↓vc_succ, ↓vn_app, ↓vd_ok, ↓vx_iconst, ↓vx_bipush, ↓vx_sipush, ↓vx_ldc, ↓vx_iload_n, ↓vx_iload, ↓vx_aload_n, ↓vx_aload, ↓vx_istore_n, ↓vx_istore, ↓vx_iinc, ↓vx_iadd, ↓vx_isub, ↓vx_imul, ↓vx_iand, ↓vx_ior, ↓vx_ixor, ↓vx_ishl, ↓vx_ishr, ↓vx_iushr, ↓vx_dup, ↓vx_dup2, ↓vx_goto, ↓vx_if_icmp, ↓vx_ifCond, ↓vx_getfield, ↓vx_putfield, ↓vx_iaload, ↓vx_iastore, ↓vx_baload, ↓vx_bastore, ↓vx_aaload, ↓vx_ireturn, ↓vx_return, ↓vx_invokevirtual, ↓vx_invokestatic, ↓vx_table, ↓vx_lookup, ↓vld_ok, ↓vldr_ok, ↓vst_ok, ↓vic_ok, ↓vgf_ok, ↓vgo_ok, ↓vpf_f, ↓vpf_t, ↓vpo_ok, ↓vkc_ok, ↓vbr_eq, ↓bz_01, bz_0, bz_1, is_app, mset_app, tnc_ok, wr_app, wr_ms, is59_app, vpn_ok, vpn_bz, Option.some.injEq, Sum.inl.injEq, getL, setL, Option.map_some, fvl_ok, mff_ok, jp, icm, inb_ok, ins_ok, zin_ok, rin_ok, vpi_ok, bip_ok, sip_ok, kcf_ok, vsw, vlk, Bool.false_eq_true, ↓reduceIte, true_and, and_true, and_self, Option.toList, List.cons_append, List.nil_append, Fin.isValue, forall_const, false_implies, implies_true, true_implies, reduceCtorEq, or_false, false_or, true_or, or_true, ne_eq, not_false_eq_true, not_true_eq_false, Classical.not_not, Bool.or_false, Bool.false_or, Bool.or_true, Bool.true_or, nat_int, Nat.reduceAdd, Nat.reduceBEq, Nat.reduceEqDiff, Int32.reduceLT, Int32.reduceLE, Int32.reduceAdd, Int32.reduceSub, Int.reduceAdd, Int.reduceToNat, Int.reduceLE, Int.reduceLT, Int.reduceNeg, Int.reduceSub, Int32.reduceOfInt, Nat.reduceMod, Fin.reduceFinMk, D_X8_read, rsf_8]
  cases w with
  | true =>
    refine ⟨fun _ => ?_, fun z => absurd rfl z⟩
    have e : fin true m = ((if 0 < workM 124 P m 39 32 then 1 else 0), workM 124 P m) := by rw [fin_1, if_pos rfl, hpl]
    rw [e]
    refine X.callV1 S_8_158 (by decide +kernel) rcv_39 (by decide) (by decide) (Nat.le_of_ble_eq_true rfl) (k8_work 124 P m hP l0 l1) ?_
    refine X.vc (fun _ => false) 60 ?_
    simp only [↓vc_zero, ↓vc_succ, ↓vn_app, ↓vd_ok, ↓vx_iconst, ↓vx_bipush, ↓vx_sipush, ↓vx_ldc, ↓vx_iload_n, ↓vx_iload, ↓vx_aload_n, ↓vx_aload, ↓vx_istore_n, ↓vx_istore, ↓vx_iinc, ↓vx_iadd, ↓vx_isub, ↓vx_imul, ↓vx_iand, ↓vx_ior, ↓vx_ixor, ↓vx_ishl, ↓vx_ishr, ↓vx_iushr, ↓vx_dup, ↓vx_dup2, ↓vx_goto, ↓vx_if_icmp, ↓vx_ifCond, ↓vx_getfield, ↓vx_putfield, ↓vx_iaload, ↓vx_iastore, ↓vx_baload, ↓vx_bastore, ↓vx_aaload, ↓vx_ireturn, ↓vx_return, ↓vx_invokevirtual, ↓vx_invokestatic, ↓vx_table, ↓vx_lookup, ↓vld_ok, ↓vldr_ok, ↓vst_ok, ↓vic_ok, ↓vgf_ok, ↓vgo_ok, ↓vpf_f, ↓vpf_t, ↓vpo_ok, ↓vkc_ok, ↓vbr_eq, ↓bz_01, bz_0, bz_1, is_app, mset_app, tnc_ok, wr_app, wr_ms, is59_app, vpn_ok, vpn_bz, Option.some.injEq, Sum.inl.injEq, getL, setL, Option.map_some, fvl_ok, mff_ok, jp, icm, inb_ok, ins_ok, zin_ok, rin_ok, vpi_ok, bip_ok, sip_ok, kcf_ok, vsw, vlk, Bool.false_eq_true, ↓reduceIte, true_and, and_true, and_self, Option.toList, List.cons_append, List.nil_append, Fin.isValue, forall_const, false_implies, implies_true, true_implies, reduceCtorEq, or_false, false_or, true_or, or_true, ne_eq, not_false_eq_true, not_true_eq_false, Classical.not_not, Bool.or_false, Bool.false_or, Bool.or_true, Bool.true_or, nat_int, Nat.reduceAdd, Nat.reduceBEq, Nat.reduceEqDiff, Int32.reduceLT, Int32.reduceLE, Int32.reduceAdd, Int32.reduceSub, Int.reduceAdd, Int.reduceToNat, Int.reduceLE, Int.reduceLT, Int.reduceNeg, Int.reduceSub, Int32.reduceOfInt, Nat.reduceMod, Fin.reduceFinMk, D_X8_read, rsf_8]
    by_cases h3 : 0 < workM 124 P m 39 32
    · have h4 : ¬ workM 124 P m 39 32 ≤ 0 := by grind
      rw [if_pos h3]
      exact ⟨fun z => absurd z h4, fun _ => rfl⟩
    · have h4 : workM 124 P m 39 32 ≤ 0 := by grind
      rw [if_neg h3]
      exact ⟨fun _ => rfl, fun z => absurd h4 z⟩
  | false =>
    have e : fin false m = (1, m) := rfl
    rw [e]
    exact ⟨fun z => absurd z (by decide), fun _ => ⟨rfl, rfl⟩⟩
