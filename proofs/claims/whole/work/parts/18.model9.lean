/-! endDay, days -/
def gw (μ : Mem) (k : Nat) : Int32 := μ 46 k &&& (μ 39 10 ^^^ -1)
def egoes (μ : Mem) (k : Nat) : Bool := decide (¬ gw μ k = 0 ∧ rf_due μ (nI k) (μ 39 0) ∧ ¬ rf_held μ (nI k) (μ 39 0))
def erc (m : Mem) (k : Nat) (g : Int32) : Mem := if m 39 35 < 6000 then mset (mset (mset (mset m 46 k (m 46 k &&& m 39 10)) 60 (m 39 35).toNatClampNeg (nI k)) 61 (m 39 35).toNatClampNeg (m 39 0)) 62 (m 39 35).toNatClampNeg g else mset m 46 k (m 46 k &&& m 39 10)
def erec (m : Mem) (k : Nat) (g : Int32) : Mem := mset (mset (erc m k g) 39 35 (m 39 35 + 1)) 39 36 (31 * m 39 36 + 10000 * nI k + 64 * m 39 0 + g)
def edm (μ : Mem) : Nat → Mem
  | 0 => μ
  | k + 1 => if egoes μ k = true then erec (edm μ k) k (gw μ k) else edm μ k
theorem erc_ag {μ m : Mem} {k : Nat} {g : Int32} (h : Agr μ m) : Agr μ (erc m k g) := by
  unfold erc
  split
  · refine ⟨fun a h1 h2 h3 h4 h5 => ?_, fun j h1 h2 => ?_⟩
    · rw [mset_ne a h5, mset_ne a h4, mset_ne a h3, mset_ne a h2]
      exact h.1 a h1 h2 h3 h4 h5
    · rw [ms_k (by decide), ms_k (by decide), ms_k (by decide), ms_k (by decide)]
      exact h.2 j h1 h2
  · refine ⟨fun a h1 h2 h3 h4 h5 => ?_, fun j h1 h2 => ?_⟩
    · rw [mset_ne a h2]
      exact h.1 a h1 h2 h3 h4 h5
    · rw [ms_k (by decide)]
      exact h.2 j h1 h2
theorem erec_ag {μ m : Mem} {k : Nat} {g : Int32} (h : Agr μ m) : Agr μ (erec m k g) := by
  have h9 := erc_ag (k := k) (g := g) h
  unfold erec
  refine ⟨fun a h1 h2 h3 h4 h5 => ?_, fun j h1 h2 => ?_⟩
  · rw [mset_ne a h1, mset_ne a h1]
    exact h9.1 a h1 h2 h3 h4 h5
  · rw [ms_j h2, ms_j h1]
    exact h9.2 j h1 h2
theorem edm_ag {μ : Mem} : ∀ k, Agr μ (edm μ k)
  | 0 => ⟨fun _ _ _ _ _ _ => rfl, fun _ _ _ => rfl⟩
  | k + 1 => by
    unfold edm
    split
    · exact erec_ag (edm_ag k)
    · exact edm_ag k
theorem erec_46 {m : Mem} {k j : Nat} {g : Int32} (h : j ≠ k) : erec m k g 46 j = m 46 j := by
  unfold erec
  rw [ms_k (by decide), ms_k (by decide)]
  unfold erc
  split
  · rw [ms_k (by decide), ms_k (by decide), ms_k (by decide), ms_j h]
  · rw [ms_j h]
theorem edm_46 {μ : Mem} {j : Nat} : ∀ k, k ≤ j → edm μ k 46 j = μ 46 j
  | 0, _ => rfl
  | k + 1, h => by
    unfold edm
    split
    · rw [erec_46 (by omega), edm_46 k (by omega)]
    · exact edm_46 k (by omega)
theorem erec_35 {m : Mem} {k : Nat} {g : Int32} : erec m k g 39 35 = m 39 35 + 1 := by
  unfold erec
  rw [ms_j (by decide), ms_eq]
theorem edm_35 {μ : Mem} : ∀ k, edm μ k 39 35 = μ 39 35 + cnt (egoes μ) k
  | 0 => by show μ 39 35 = μ 39 35 + 0; rw [Int32.add_zero]
  | k + 1 => by
    have ih := edm_35 (μ := μ) k
    unfold edm
    rw [cnt_s]
    split
    · rename_i h
      rw [erec_35, ih, Int32.add_assoc]
    · rw [ih, Int32.add_zero]
theorem cnt_le {f : Nat → Bool} : ∀ k, k ≤ 120 → 0 ≤ (cnt f k).toInt ∧ (cnt f k).toInt ≤ k
  | 0, _ => ⟨Int.le_refl 0, Int.le_refl 0⟩
  | k + 1, h => by
    have ih := cnt_le (f := f) k (by omega)
    rw [cnt_s]
    split
    · rw [Int32.toInt_add]
      simp only [Int32.reduceToInt, Int.bmod_def]
      omega
    · rw [Int32.add_zero]
      omega
theorem edm_r0 {μ : Mem} {k : Nat} (hk : k ≤ 120) (r0 : 0 ≤ μ 39 35) (r1 : μ 39 35 ≤ 600000) : 0 ≤ edm μ k 39 35 := by
  rw [edm_35]
  have h := cnt_le (f := egoes μ) k hk
  simp only [Int32.le_iff_toInt_le, Int32.toInt_add, Int32.reduceToInt, Int.bmod_def] at *
  omega
set_option maxRecDepth 100000 in
set_option maxHeartbeats 1000000 in
theorem k8_endDay (μ : Mem) (ρ : Nat → Int32)  (h2 : 0 ≤ μ 39 5) (h3 : μ 39 5 ≤ 120) (hV : VsOk μ) (h4 : 0 ≤ μ 39 20) (h5 : μ 39 20 ≤ 12) (hT : TsOk μ) (r4 : 0 ≤ μ 39 12) (r5 : μ 39 12 ≤ 20) (r0 : 0 ≤ μ 39 35) (r1 : μ 39 35 ≤ 600000) : Ct yX8_endDay 3 cX8_endDay none 5 [.inr 39] (wr μ ρ) (Is59 none (edm μ (μ 39 5).toNatClampNeg)) := by
  refine Ct.of (oc := 8) [some (.inr 39), none, none] (by decide +kernel) rfl (Nat.le_of_ble_eq_true rfl) rfl ?_
  obtain ⟨N, hNb, hN⟩ := nIx (M := 120) (n := 120) rfl h2 h3
  have e : (μ 39 5).toNatClampNeg = N := by rw [hN]; exact nI_clamp (by omega)
  rw [e]
  refine X.vc (fun q => q == 2) 60 ?_
  simp only [↓vc_zero, ↓vc_succ, ↓vn_app, ↓vd_ok, ↓vx_iconst, ↓vx_bipush, ↓vx_sipush, ↓vx_ldc, ↓vx_iload_n, ↓vx_iload, ↓vx_aload_n, ↓vx_aload, ↓vx_istore_n, ↓vx_istore, ↓vx_iinc, ↓vx_iadd, ↓vx_isub, ↓vx_imul, ↓vx_iand, ↓vx_ior, ↓vx_ixor, ↓vx_ishl, ↓vx_ishr, ↓vx_iushr, ↓vx_dup, ↓vx_dup2, ↓vx_goto, ↓vx_if_icmp, ↓vx_ifCond, ↓vx_getfield, ↓vx_putfield, ↓vx_iaload, ↓vx_iastore, ↓vx_baload, ↓vx_bastore, ↓vx_aaload, ↓vx_ireturn, ↓vx_return, ↓vx_invokevirtual, ↓vx_invokestatic, ↓vx_table, ↓vx_lookup, ↓vld_ok, ↓vldr_ok, ↓vst_ok, ↓vic_ok, ↓vgf_ok, ↓vgo_ok, ↓vpf_f, ↓vpf_t, ↓vpo_ok, ↓vkc_ok, ↓vbr_eq, ↓bz_01, bz_0, bz_1, is_app, mset_app, tnc_ok, wr_app, wr_ms, is59_app, vpn_ok, vpn_bz, Option.some.injEq, Sum.inl.injEq, getL, setL, Option.map_some, fvl_ok, mff_ok, jp, icm, inb_ok, ins_ok, zin_ok, rin_ok, vpi_ok, bip_ok, sip_ok, kcf_ok, vsw, vlk, Bool.false_eq_true, ↓reduceIte, true_and, and_true, and_self, Option.toList, List.cons_append, List.nil_append, Fin.isValue, forall_const, false_implies, implies_true, true_implies, reduceCtorEq, or_false, false_or, true_or, or_true, ne_eq, not_false_eq_true, not_true_eq_false, Classical.not_not, Bool.or_false, Bool.false_or, Bool.or_true, Bool.true_or, nat_int, Nat.reduceAdd, Nat.reduceBEq, Nat.reduceEqDiff, Int32.reduceLT, Int32.reduceLE, Int32.reduceAdd, Int32.reduceSub, Int.reduceAdd, Int.reduceToNat, Int.reduceLE, Int.reduceLT, Int.reduceNeg, Int.reduceSub, Int32.reduceOfInt, Nat.reduceMod, Fin.reduceFinMk, D_X8_endDay, rsf_8]
  refine dn (N := N) (P := fun k => ∀ ρ, X 8 3 cX8_endDay none 5 (wr (edm μ k) ρ) 2 [some (.inr 39), some (.inl (nI k)), none] [] (Is59 none (edm μ N))) ?_ ?_ ρ
  · intro ρ
    have hr : edm μ N 39 5 = nI N := by rw [(edm_ag N).2 5 (by decide) (by decide), hN]
    refine X.vc (fun _ => false) 60 ?_
    simp only [↓vc_zero, ↓vc_succ, ↓vn_app, ↓vd_ok, ↓vx_iconst, ↓vx_bipush, ↓vx_sipush, ↓vx_ldc, ↓vx_iload_n, ↓vx_iload, ↓vx_aload_n, ↓vx_aload, ↓vx_istore_n, ↓vx_istore, ↓vx_iinc, ↓vx_iadd, ↓vx_isub, ↓vx_imul, ↓vx_iand, ↓vx_ior, ↓vx_ixor, ↓vx_ishl, ↓vx_ishr, ↓vx_iushr, ↓vx_dup, ↓vx_dup2, ↓vx_goto, ↓vx_if_icmp, ↓vx_ifCond, ↓vx_getfield, ↓vx_putfield, ↓vx_iaload, ↓vx_iastore, ↓vx_baload, ↓vx_bastore, ↓vx_aaload, ↓vx_ireturn, ↓vx_return, ↓vx_invokevirtual, ↓vx_invokestatic, ↓vx_table, ↓vx_lookup, ↓vld_ok, ↓vldr_ok, ↓vst_ok, ↓vic_ok, ↓vgf_ok, ↓vgo_ok, ↓vpf_f, ↓vpf_t, ↓vpo_ok, ↓vkc_ok, ↓vbr_eq, ↓bz_01, bz_0, bz_1, is_app, mset_app, tnc_ok, wr_app, wr_ms, is59_app, vpn_ok, vpn_bz, Option.some.injEq, Sum.inl.injEq, getL, setL, Option.map_some, fvl_ok, mff_ok, jp, icm, inb_ok, ins_ok, zin_ok, rin_ok, vpi_ok, bip_ok, sip_ok, kcf_ok, vsw, vlk, Bool.false_eq_true, ↓reduceIte, true_and, and_true, and_self, Option.toList, List.cons_append, List.nil_append, Fin.isValue, forall_const, false_implies, implies_true, true_implies, reduceCtorEq, or_false, false_or, true_or, or_true, ne_eq, not_false_eq_true, not_true_eq_false, Classical.not_not, Bool.or_false, Bool.false_or, Bool.or_true, Bool.true_or, nat_int, Nat.reduceAdd, Nat.reduceBEq, Nat.reduceEqDiff, Int32.reduceLT, Int32.reduceLE, Int32.reduceAdd, Int32.reduceSub, Int.reduceAdd, Int.reduceToNat, Int.reduceLE, Int.reduceLT, Int.reduceNeg, Int.reduceSub, Int32.reduceOfInt, Nat.reduceMod, Fin.reduceFinMk, D_X8_endDay, rsf_8, hr, idx_end]
    exact ⟨rfl, ρ, rfl⟩
  · intro k hk ih ρ
    obtain ⟨i0, i1, i2, i3, i4, i5⟩ := idx (m := 120) rfl hk hNb (by decide)
    have ag := edm_ag (μ := μ) k
    have x5 : edm μ k 39 5 = nI N := by rw [ag.2 5 (by decide) (by decide), hN]
    have x10 : edm μ k 39 10 = μ 39 10 := ag.2 10 (by decide) (by decide)
    have x0 : edm μ k 39 0 = μ 39 0 := ag.2 0 (by decide) (by decide)
    have x46 : edm μ k 46 k = μ 46 k := edm_46 k (Nat.le_refl k)
    have y0 : 0 ≤ edm μ k 39 35 := edm_r0 (by omega) r0 r1
    have hgw : (μ 46 k &&& (μ 39 10 ^^^ -1)) = gw μ k := rfl
    obtain ⟨v0, v1, v2, v3⟩ := idv (μ := edm μ k) (v := k) (by omega) (VOk_ag ag (hV k (by omega)))
    have no : ∀ ρ, ¬ egoes μ k = true → X 8 3 cX8_endDay none 5 (wr (edm μ k) ρ) 2 [some (.inr 39), some (.inl (nI (k + 1))), some (.inl (gw μ k))] [] (Is59 none (edm μ N)) := fun ρ hf => by
      have h9 := ih ρ
      have e1 : edm μ (k + 1) = edm μ k := if_neg hf
      rw [e1] at h9
      exact X.drop 2 h9
    refine X.vc (fun q => q == 2) 60 ?_
    simp only [↓vc_zero, ↓vc_succ, ↓vn_app, ↓vd_ok, ↓vx_iconst, ↓vx_bipush, ↓vx_sipush, ↓vx_ldc, ↓vx_iload_n, ↓vx_iload, ↓vx_aload_n, ↓vx_aload, ↓vx_istore_n, ↓vx_istore, ↓vx_iinc, ↓vx_iadd, ↓vx_isub, ↓vx_imul, ↓vx_iand, ↓vx_ior, ↓vx_ixor, ↓vx_ishl, ↓vx_ishr, ↓vx_iushr, ↓vx_dup, ↓vx_dup2, ↓vx_goto, ↓vx_if_icmp, ↓vx_ifCond, ↓vx_getfield, ↓vx_putfield, ↓vx_iaload, ↓vx_iastore, ↓vx_baload, ↓vx_bastore, ↓vx_aaload, ↓vx_ireturn, ↓vx_return, ↓vx_invokevirtual, ↓vx_invokestatic, ↓vx_table, ↓vx_lookup, ↓vld_ok, ↓vldr_ok, ↓vst_ok, ↓vic_ok, ↓vgf_ok, ↓vgo_ok, ↓vpf_f, ↓vpf_t, ↓vpo_ok, ↓vkc_ok, ↓vbr_eq, ↓bz_01, bz_0, bz_1, is_app, mset_app, tnc_ok, wr_app, wr_ms, is59_app, vpn_ok, vpn_bz, Option.some.injEq, Sum.inl.injEq, getL, setL, Option.map_some, fvl_ok, mff_ok, jp, icm, inb_ok, ins_ok, zin_ok, rin_ok, vpi_ok, bip_ok, sip_ok, kcf_ok, vsw, vlk, Bool.false_eq_true, ↓reduceIte, true_and, and_true, and_self, Option.toList, List.cons_append, List.nil_append, Fin.isValue, forall_const, false_implies, implies_true, true_implies, reduceCtorEq, or_false, false_or, true_or, or_true, ne_eq, not_false_eq_true, not_true_eq_false, Classical.not_not, Bool.or_false, Bool.false_or, Bool.or_true, Bool.true_or, nat_int, Nat.reduceAdd, Nat.reduceBEq, Nat.reduceEqDiff, Int32.reduceLT, Int32.reduceLE, Int32.reduceAdd, Int32.reduceSub, Int.reduceAdd, Int.reduceToNat, Int.reduceLE, Int.reduceLT, Int.reduceNeg, Int.reduceSub, Int32.reduceOfInt, Nat.reduceMod, Fin.reduceFinMk, D_X8_endDay, rsf_8, x5, x10, x0, x46, i2, i3, i4, i0, i1, hgw]
    by_cases hc : gw μ k = 0
    · exact ⟨fun _ => no ρ (by simp only [egoes, decide_eq_true_eq]; exact fun z => z.1 hc), fun z => absurd hc z⟩
    refine ⟨fun z => absurd z hc, fun _ => ?_⟩
    refine X.callV2 S_8_216 (by decide +kernel) rcv_39 (by decide) (by decide) (Nat.le_of_ble_eq_true rfl) (k8_isDue (wr (edm μ k) ρ) (nI k) (μ 39 0) v0 v1 v2 v3 (by show 0 ≤ edm μ k 39 12; rw [ag.2 12 (by decide) (by decide)]; exact r4) (by show edm μ k 39 12 ≤ 20; rw [ag.2 12 (by decide) (by decide)]; exact r5)) ?_
    refine X.vc (fun q => q == 2) 60 ?_
    simp only [↓vc_zero, ↓vc_succ, ↓vn_app, ↓vd_ok, ↓vx_iconst, ↓vx_bipush, ↓vx_sipush, ↓vx_ldc, ↓vx_iload_n, ↓vx_iload, ↓vx_aload_n, ↓vx_aload, ↓vx_istore_n, ↓vx_istore, ↓vx_iinc, ↓vx_iadd, ↓vx_isub, ↓vx_imul, ↓vx_iand, ↓vx_ior, ↓vx_ixor, ↓vx_ishl, ↓vx_ishr, ↓vx_iushr, ↓vx_dup, ↓vx_dup2, ↓vx_goto, ↓vx_if_icmp, ↓vx_ifCond, ↓vx_getfield, ↓vx_putfield, ↓vx_iaload, ↓vx_iastore, ↓vx_baload, ↓vx_bastore, ↓vx_aaload, ↓vx_ireturn, ↓vx_return, ↓vx_invokevirtual, ↓vx_invokestatic, ↓vx_table, ↓vx_lookup, ↓vld_ok, ↓vldr_ok, ↓vst_ok, ↓vic_ok, ↓vgf_ok, ↓vgo_ok, ↓vpf_f, ↓vpf_t, ↓vpo_ok, ↓vkc_ok, ↓vbr_eq, ↓bz_01, bz_0, bz_1, is_app, mset_app, tnc_ok, wr_app, wr_ms, is59_app, vpn_ok, vpn_bz, Option.some.injEq, Sum.inl.injEq, getL, setL, Option.map_some, fvl_ok, mff_ok, jp, icm, inb_ok, ins_ok, zin_ok, rin_ok, vpi_ok, bip_ok, sip_ok, kcf_ok, vsw, vlk, Bool.false_eq_true, ↓reduceIte, true_and, and_true, and_self, Option.toList, List.cons_append, List.nil_append, Fin.isValue, forall_const, false_implies, implies_true, true_implies, reduceCtorEq, or_false, false_or, true_or, or_true, ne_eq, not_false_eq_true, not_true_eq_false, Classical.not_not, Bool.or_false, Bool.false_or, Bool.or_true, Bool.true_or, nat_int, Nat.reduceAdd, Nat.reduceBEq, Nat.reduceEqDiff, Int32.reduceLT, Int32.reduceLE, Int32.reduceAdd, Int32.reduceSub, Int.reduceAdd, Int.reduceToNat, Int.reduceLE, Int.reduceLT, Int.reduceNeg, Int.reduceSub, Int32.reduceOfInt, Nat.reduceMod, Fin.reduceFinMk, D_X8_endDay, rsf_8, i4, rf_due_wr, rf_due_ag ag, x0]
    refine ⟨fun c => no ρ (by simp only [egoes, decide_eq_true_eq]; exact fun z => c z.2.1), fun c => ?_⟩
    refine X.callV2g S_8_219 (by decide +kernel) rcv_39 (by decide) (by decide) (Nat.le_of_ble_eq_true rfl) (k8_isHeld (edm μ k) ρ k (μ 39 0) (by omega) (VOk_ag ag (hV k (by omega))) (by rw [ag.2 20 (by decide) (by decide)]; exact h4) (by rw [ag.2 20 (by decide) (by decide)]; exact h5) (TsOk_ag ag hT)) ?_
    rintro r μ' ⟨rfl, ρ', rfl⟩
    refine X.vc (fun q => q == 2) 90 ?_
    simp only [↓vc_zero, ↓vc_succ, ↓vn_app, ↓vd_ok, ↓vx_iconst, ↓vx_bipush, ↓vx_sipush, ↓vx_ldc, ↓vx_iload_n, ↓vx_iload, ↓vx_aload_n, ↓vx_aload, ↓vx_istore_n, ↓vx_istore, ↓vx_iinc, ↓vx_iadd, ↓vx_isub, ↓vx_imul, ↓vx_iand, ↓vx_ior, ↓vx_ixor, ↓vx_ishl, ↓vx_ishr, ↓vx_iushr, ↓vx_dup, ↓vx_dup2, ↓vx_goto, ↓vx_if_icmp, ↓vx_ifCond, ↓vx_getfield, ↓vx_putfield, ↓vx_iaload, ↓vx_iastore, ↓vx_baload, ↓vx_bastore, ↓vx_aaload, ↓vx_ireturn, ↓vx_return, ↓vx_invokevirtual, ↓vx_invokestatic, ↓vx_table, ↓vx_lookup, ↓vld_ok, ↓vldr_ok, ↓vst_ok, ↓vic_ok, ↓vgf_ok, ↓vgo_ok, ↓vpf_f, ↓vpf_t, ↓vpo_ok, ↓vkc_ok, ↓vbr_eq, ↓bz_01, bz_0, bz_1, is_app, mset_app, tnc_ok, wr_app, wr_ms, is59_app, vpn_ok, vpn_bz, Option.some.injEq, Sum.inl.injEq, getL, setL, Option.map_some, fvl_ok, mff_ok, jp, icm, inb_ok, ins_ok, zin_ok, rin_ok, vpi_ok, bip_ok, sip_ok, kcf_ok, vsw, vlk, Bool.false_eq_true, ↓reduceIte, true_and, and_true, and_self, Option.toList, List.cons_append, List.nil_append, Fin.isValue, forall_const, false_implies, implies_true, true_implies, reduceCtorEq, or_false, false_or, true_or, or_true, ne_eq, not_false_eq_true, not_true_eq_false, Classical.not_not, Bool.or_false, Bool.false_or, Bool.or_true, Bool.true_or, nat_int, Nat.reduceAdd, Nat.reduceBEq, Nat.reduceEqDiff, Int32.reduceLT, Int32.reduceLE, Int32.reduceAdd, Int32.reduceSub, Int.reduceAdd, Int.reduceToNat, Int.reduceLE, Int.reduceLT, Int.reduceNeg, Int.reduceSub, Int32.reduceOfInt, Nat.reduceMod, Fin.reduceFinMk, D_X8_endDay, rsf_8, i3, i4, i0, i1, x0, x10, x46, y0, rf_living_ag ag, rf_fitting_ag ag]
    refine ⟨fun c2 => ?_, fun c2 => no ρ' (by simp only [egoes, decide_eq_true_eq]; exact fun z => z.2.2 c2)⟩
    have hf : egoes μ k = true := by
      simp only [egoes, decide_eq_true_eq]
      exact ⟨hc, c, fun z => z c2⟩
    have e1 : edm μ (k + 1) = erec (edm μ k) k (gw μ k) := if_pos hf
    simp only [wr_mo (show (46 : Nat) ≠ 59 by decide), wr_mo (show (39 : Nat) ≠ 59 by decide), wr_mo (show (60 : Nat) ≠ 59 by decide), wr_mo (show (61 : Nat) ≠ 59 by decide), wr_mo (show (62 : Nat) ≠ 59 by decide)]
    by_cases c6 : 6000 ≤ edm μ k 39 35
    · have c7 : ¬ edm μ k 39 35 < 6000 := by grind
      refine ⟨fun _ => X.drop 2 ?_, fun z => absurd c6 z⟩
      have h9 := ih ρ'
      rw [e1, erec, erc, if_neg c7, x46, x10, x0] at h9
      exact h9
    · have c7 : edm μ k 39 35 < 6000 := by grind
      refine ⟨fun z => absurd z c6, fun _ => ⟨c7, c7, c7, X.drop 2 ?_⟩⟩
      have h9 := ih ρ'
      rw [e1, erec, erc, if_pos c7, x46, x10, x0] at h9
      exact h9
/-! days -/
def daym (μ : Mem) : Nat → Mem
  | 0 => μ
  | k + 1 => mset (edm (daym μ k) (μ 39 5).toNatClampNeg) 39 0 (daym μ k 39 0 + 1)
