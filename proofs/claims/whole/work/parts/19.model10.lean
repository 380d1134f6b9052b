theorem dpt_c {m m' : Mem} {B : Nat} (h : m' 55 = m 55) : ∀ n, dpt m' B n = dpt m B n
  | 0 => rfl
  | n + 1 => by simp only [dpt, dpt_c h n, h]
theorem TOk_c {m m' : Mem} {H : Nat} (h4 : m' 54 = m 54) (h5 : m' 55 = m 55) (h : TOk m H) : TOk m' H := by
  obtain ⟨n, h1, h2⟩ := h
  refine ⟨n, by rw [h4]; exact h1, ?_⟩
  unfold Wf at h2 ⊢
  simp only [dpt_c h5, h5]
  exact h2
theorem TsOk_c {m m' : Mem} (h4 : m' 54 = m 54) (h5 : m' 55 = m 55) (h9 : m' 39 20 = m 39 20) (h : TsOk m) : TsOk m' := by
  intro i hi
  rw [h9] at hi
  exact TOk_c h4 h5 (h i hi)
theorem VsOk_c {m m' : Mem} (h3 : m' 43 = m 43) (h9 : m' 39 5 = m 39 5) (h : VsOk m) : VsOk m' := by
  intro i hi
  rw [h9] at hi
  have := h i hi
  unfold VOk at this ⊢
  rw [h3]
  exact this
def DI (μ m : Mem) (k : Nat) : Prop := m 39 5 = μ 39 5 ∧ VsOk m ∧ m 39 20 = μ 39 20 ∧ TsOk m ∧ m 39 12 = μ 39 12 ∧ m 39 0 = μ 39 0 + nI k ∧ 0 ≤ (m 39 35).toInt ∧ (m 39 35).toInt ≤ 120 * ((μ 39 0).toInt + k)
theorem daym_DI {μ : Mem} (h2 : 0 ≤ μ 39 5) (h3 : μ 39 5 ≤ 120) (hV : VsOk μ) (hT : TsOk μ) (q0 : 0 ≤ (μ 39 0).toInt) (r0 : 0 ≤ (μ 39 35).toInt) (r1 : (μ 39 35).toInt ≤ 120 * (μ 39 0).toInt) : ∀ k : Nat, (μ 39 0).toInt + k ≤ 5000 → DI μ (daym μ k) k
  | 0, _ => ⟨rfl, hV, rfl, hT, rfl, by show μ 39 0 = μ 39 0 + 0; rw [Int32.add_zero], r0, by show (μ 39 35).toInt ≤ _; simpa using r1⟩
  | k + 1, hk => by
    obtain ⟨N, hNb, hN⟩ := nIx (M := 120) (n := 120) rfl h2 h3
    have e : (μ 39 5).toNatClampNeg = N := by rw [hN]; exact nI_clamp (by omega)
    obtain ⟨d1, d2, d3, d4, d5, d6, d7, d8⟩ := daym_DI h2 h3 hV hT q0 r0 r1 k (by omega)
    have ag := edm_ag (μ := daym μ k) (μ 39 5).toNatClampNeg
    have hc := cnt_le (f := egoes (daym μ k)) N (by omega)
    unfold daym
    refine ⟨?_, ?_, ?_, ?_, ?_, ?_, ?_, ?_⟩
    · rw [ms_j (by decide), ag.2 5 (by decide) (by decide), d1]
    · refine VsOk_c (m := daym μ k) ?_ ?_ d2
      · rw [mset_ne 43 (by decide), ag.1 43 (by decide) (by decide) (by decide) (by decide) (by decide)]
      · rw [ms_j (by decide), ag.2 5 (by decide) (by decide)]
    · rw [ms_j (by decide), ag.2 20 (by decide) (by decide), d3]
    · refine TsOk_c (m := daym μ k) ?_ ?_ ?_ d4
      · rw [mset_ne 54 (by decide), ag.1 54 (by decide) (by decide) (by decide) (by decide) (by decide)]
      · rw [mset_ne 55 (by decide), ag.1 55 (by decide) (by decide) (by decide) (by decide) (by decide)]
      · rw [ms_j (by decide), ag.2 20 (by decide) (by decide)]
    · rw [ms_j (by decide), ag.2 12 (by decide) (by decide), d5]
    · rw [ms_eq, d6, Int32.add_assoc, nI_1]
    · rw [ms_j (by decide), edm_35, e, Int32.toInt_add]
      simp only [Int.bmod_def]
      omega
    · rw [ms_j (by decide), edm_35, e, Int32.toInt_add]
      simp only [Int.bmod_def]
      omega
abbrev ok_days (μ : Mem) (n : Int32) : Prop := (1 ≤ n ∧ n ≤ 100) ∧ μ 39 0 + n ≤ 5000
def rf_days (μ : Mem) (n : Int32) : Int32 := if ok_days μ n then daym μ n.toNatClampNeg 39 35 - μ 39 35 else -1
def gf_days (μ : Mem) (n : Int32) : Mem := if ok_days μ n then daym μ n.toNatClampNeg else μ
set_option maxRecDepth 100000 in
set_option maxHeartbeats 1000000 in
theorem k8_days (μ : Mem) (ρ : Nat → Int32) (n : Int32) (h2 : 0 ≤ μ 39 5) (h3 : μ 39 5 ≤ 120) (hV : VsOk μ) (h4 : 0 ≤ μ 39 20) (h5 : μ 39 20 ≤ 12) (hT : TsOk μ) (r4 : 0 ≤ μ 39 12) (r5 : μ 39 12 ≤ 20) (q0 : 0 ≤ μ 39 0) (q1 : μ 39 0 ≤ 5000) (r0 : 0 ≤ (μ 39 35).toInt) (r1 : (μ 39 35).toInt ≤ 120 * (μ 39 0).toInt) : Ct yX8_days 4 cX8_days (some .int) 6 [.inr 39, .inl (n)] (wr μ ρ) (Is59 (some (.inl (rf_days μ n))) (gf_days μ n)) := by
  refine Ct.of (oc := 8) [some (.inr 39), some (.inl (n)), none, none] (by decide +kernel) rfl (Nat.le_of_ble_eq_true rfl) rfl ?_
  refine X.vc (fun _ => false) 60 ?_
  simp only [↓vc_zero, ↓vc_succ, ↓vn_app, ↓vd_ok, ↓vx_iconst, ↓vx_bipush, ↓vx_sipush, ↓vx_ldc, ↓vx_iload_n, ↓vx_iload, ↓vx_aload_n, ↓vx_aload, ↓vx_istore_n, ↓vx_istore, ↓vx_iinc, ↓vx_iadd, ↓vx_isub, ↓vx_imul, ↓vx_iand, ↓vx_ior, ↓vx_ixor, ↓vx_ishl, ↓vx_ishr, ↓vx_iushr, ↓vx_dup, ↓vx_dup2, ↓vx_goto, ↓vx_if_icmp, ↓vx_ifCond, ↓vx_getfield, ↓vx_putfield, ↓vx_iaload, ↓vx_iastore, ↓vx_baload, ↓vx_bastore, ↓vx_aaload, ↓vx_ireturn, ↓vx_return, ↓vx_invokevirtual, ↓vx_invokestatic, ↓vx_table, ↓vx_lookup, ↓vld_ok, ↓vldr_ok, ↓vst_ok, ↓vic_ok, ↓vgf_ok, ↓vgo_ok, ↓vpf_f, ↓vpf_t, ↓vpo_ok, ↓vkc_ok, ↓vbr_eq, ↓bz_01, bz_0, bz_1, is_app, mset_app, tnc_ok, wr_app, wr_ms, is59_app, vpn_ok, vpn_bz, Option.some.injEq, Sum.inl.injEq, getL, setL, Option.map_some, fvl_ok, mff_ok, jp, icm, inb_ok, ins_ok, zin_ok, rin_ok, vpi_ok, bip_ok, sip_ok, kcf_ok, vsw, vlk, Bool.false_eq_true, ↓reduceIte, true_and, and_true, and_self, Option.toList, List.cons_append, List.nil_append, Fin.isValue, forall_const, false_implies, implies_true, true_implies, reduceCtorEq, or_false, false_or, true_or, or_true, ne_eq, not_false_eq_true, not_true_eq_false, Classical.not_not, Bool.or_false, Bool.false_or, Bool.or_true, Bool.true_or, nat_int, Nat.reduceAdd, Nat.reduceBEq, Nat.reduceEqDiff, Int32.reduceLT, Int32.reduceLE, Int32.reduceAdd, Int32.reduceSub, Int.reduceAdd, Int.reduceToNat, Int.reduceLE, Int.reduceLT, Int.reduceNeg, Int.reduceSub, Int32.reduceOfInt, Nat.reduceMod, Fin.reduceFinMk, D_X8_days, rsf_8]
  refine X.callS3 S_8_93 (by decide +kernel) (by decide) (by decide) (Nat.le_of_ble_eq_true rfl) (k8_isIn _ _ _ _) ?_
  refine X.vc (fun q => q == 31) 60 ?_
  simp only [↓vc_zero, ↓vc_succ, ↓vn_app, ↓vd_ok, ↓vx_iconst, ↓vx_bipush, ↓vx_sipush, ↓vx_ldc, ↓vx_iload_n, ↓vx_iload, ↓vx_aload_n, ↓vx_aload, ↓vx_istore_n, ↓vx_istore, ↓vx_iinc, ↓vx_iadd, ↓vx_isub, ↓vx_imul, ↓vx_iand, ↓vx_ior, ↓vx_ixor, ↓vx_ishl, ↓vx_ishr, ↓vx_iushr, ↓vx_dup, ↓vx_dup2, ↓vx_goto, ↓vx_if_icmp, ↓vx_ifCond, ↓vx_getfield, ↓vx_putfield, ↓vx_iaload, ↓vx_iastore, ↓vx_baload, ↓vx_bastore, ↓vx_aaload, ↓vx_ireturn, ↓vx_return, ↓vx_invokevirtual, ↓vx_invokestatic, ↓vx_table, ↓vx_lookup, ↓vld_ok, ↓vldr_ok, ↓vst_ok, ↓vic_ok, ↓vgf_ok, ↓vgo_ok, ↓vpf_f, ↓vpf_t, ↓vpo_ok, ↓vkc_ok, ↓vbr_eq, ↓bz_01, bz_0, bz_1, is_app, mset_app, tnc_ok, wr_app, wr_ms, is59_app, vpn_ok, vpn_bz, Option.some.injEq, Sum.inl.injEq, getL, setL, Option.map_some, fvl_ok, mff_ok, jp, icm, inb_ok, ins_ok, zin_ok, rin_ok, vpi_ok, bip_ok, sip_ok, kcf_ok, vsw, vlk, Bool.false_eq_true, ↓reduceIte, true_and, and_true, and_self, Option.toList, List.cons_append, List.nil_append, Fin.isValue, forall_const, false_implies, implies_true, true_implies, reduceCtorEq, or_false, false_or, true_or, or_true, ne_eq, not_false_eq_true, not_true_eq_false, Classical.not_not, Bool.or_false, Bool.false_or, Bool.or_true, Bool.true_or, nat_int, Nat.reduceAdd, Nat.reduceBEq, Nat.reduceEqDiff, Int32.reduceLT, Int32.reduceLE, Int32.reduceAdd, Int32.reduceSub, Int.reduceAdd, Int.reduceToNat, Int.reduceLE, Int.reduceLT, Int.reduceNeg, Int.reduceSub, Int32.reduceOfInt, Nat.reduceMod, Fin.reduceFinMk, D_X8_days, rsf_8]
  have q0' : 0 ≤ (μ 39 0).toInt := by simpa [Int32.le_iff_toInt_le] using q0
  have q1' : (μ 39 0).toInt ≤ 5000 := by simpa [Int32.le_iff_toInt_le] using q1
  by_cases ok : ok_days μ n
  · refine ⟨fun c => absurd ok.1 c, fun _ => ⟨fun _ => ?_, fun c => absurd ok.2 c⟩⟩
    obtain ⟨M, hM, hMe⟩ := nIx (x := n) (M := 100) (n := 100) rfl (by grind) ok.1.2
    have hMc : n.toNatClampNeg = M := by rw [hMe]; exact nI_clamp (by omega)
    have hle : (μ 39 0).toInt + M ≤ 5000 := by
      have h9 := ok.2
      rw [hMe] at h9
      simp only [Int32.le_iff_toInt_le, Int32.toInt_add, Int32.reduceToInt, Int.bmod_def, nI_toInt (show M < 2 ^ 31 by omega)] at h9
      omega
    have e1 : rf_days μ n = daym μ M 39 35 - μ 39 35 := by rw [rf_days, if_pos ok, hMc]
    have e2 : gf_days μ n = daym μ M := by rw [gf_days, if_pos ok, hMc]
    rw [e1, e2]
    subst hMe
    refine dn (N := M) (P := fun k => ∀ ρ, X 8 4 cX8_days (some .int) 6 (wr (daym μ k) ρ) 31 [some (.inr 39), some (.inl (nI M)), some (.inl (μ 39 35)), some (.inl (nI k))] [] (Is59 (some (.inl (daym μ M 39 35 - μ 39 35))) (daym μ M))) ?_ ?_ ρ
    · intro ρ
      refine X.vc (fun _ => false) 60 ?_
      simp only [↓vc_zero, ↓vc_succ, ↓vn_app, ↓vd_ok, ↓vx_iconst, ↓vx_bipush, ↓vx_sipush, ↓vx_ldc, ↓vx_iload_n, ↓vx_iload, ↓vx_aload_n, ↓vx_aload, ↓vx_istore_n, ↓vx_istore, ↓vx_iinc, ↓vx_iadd, ↓vx_isub, ↓vx_imul, ↓vx_iand, ↓vx_ior, ↓vx_ixor, ↓vx_ishl, ↓vx_ishr, ↓vx_iushr, ↓vx_dup, ↓vx_dup2, ↓vx_goto, ↓vx_if_icmp, ↓vx_ifCond, ↓vx_getfield, ↓vx_putfield, ↓vx_iaload, ↓vx_iastore, ↓vx_baload, ↓vx_bastore, ↓vx_aaload, ↓vx_ireturn, ↓vx_return, ↓vx_invokevirtual, ↓vx_invokestatic, ↓vx_table, ↓vx_lookup, ↓vld_ok, ↓vldr_ok, ↓vst_ok, ↓vic_ok, ↓vgf_ok, ↓vgo_ok, ↓vpf_f, ↓vpf_t, ↓vpo_ok, ↓vkc_ok, ↓vbr_eq, ↓bz_01, bz_0, bz_1, is_app, mset_app, tnc_ok, wr_app, wr_ms, is59_app, vpn_ok, vpn_bz, Option.some.injEq, Sum.inl.injEq, getL, setL, Option.map_some, fvl_ok, mff_ok, jp, icm, inb_ok, ins_ok, zin_ok, rin_ok, vpi_ok, bip_ok, sip_ok, kcf_ok, vsw, vlk, Bool.false_eq_true, ↓reduceIte, true_and, and_true, and_self, Option.toList, List.cons_append, List.nil_append, Fin.isValue, forall_const, false_implies, implies_true, true_implies, reduceCtorEq, or_false, false_or, true_or, or_true, ne_eq, not_false_eq_true, not_true_eq_false, Classical.not_not, Bool.or_false, Bool.false_or, Bool.or_true, Bool.true_or, nat_int, Nat.reduceAdd, Nat.reduceBEq, Nat.reduceEqDiff, Int32.reduceLT, Int32.reduceLE, Int32.reduceAdd, Int32.reduceSub, Int.reduceAdd, Int.reduceToNat, Int.reduceLE, Int.reduceLT, Int.reduceNeg, Int.reduceSub, Int32.reduceOfInt, Nat.reduceMod, Fin.reduceFinMk, D_X8_days, rsf_8, idx_end]
      exact ⟨rfl, ρ, rfl⟩
    · intro k hk ih ρ
      obtain ⟨i0, i1, i2, i3, i4, i5⟩ := idx (m := 100) rfl hk hM (by decide)
      obtain ⟨d1, d2, d3, d4, d5, d6, d7, d8⟩ := daym_DI h2 h3 hV hT q0' r0 r1 k (by omega)
      refine X.vc (fun q => q == 31) 60 ?_
      simp only [↓vc_zero, ↓vc_succ, ↓vn_app, ↓vd_ok, ↓vx_iconst, ↓vx_bipush, ↓vx_sipush, ↓vx_ldc, ↓vx_iload_n, ↓vx_iload, ↓vx_aload_n, ↓vx_aload, ↓vx_istore_n, ↓vx_istore, ↓vx_iinc, ↓vx_iadd, ↓vx_isub, ↓vx_imul, ↓vx_iand, ↓vx_ior, ↓vx_ixor, ↓vx_ishl, ↓vx_ishr, ↓vx_iushr, ↓vx_dup, ↓vx_dup2, ↓vx_goto, ↓vx_if_icmp, ↓vx_ifCond, ↓vx_getfield, ↓vx_putfield, ↓vx_iaload, ↓vx_iastore, ↓vx_baload, ↓vx_bastore, ↓vx_aaload, ↓vx_ireturn, ↓vx_return, ↓vx_invokevirtual, ↓vx_invokestatic, ↓vx_table, ↓vx_lookup, ↓vld_ok, ↓vldr_ok, ↓vst_ok, ↓vic_ok, ↓vgf_ok, ↓vgo_ok, ↓vpf_f, ↓vpf_t, ↓vpo_ok, ↓vkc_ok, ↓vbr_eq, ↓bz_01, bz_0, bz_1, is_app, mset_app, tnc_ok, wr_app, wr_ms, is59_app, vpn_ok, vpn_bz, Option.some.injEq, Sum.inl.injEq, getL, setL, Option.map_some, fvl_ok, mff_ok, jp, icm, inb_ok, ins_ok, zin_ok, rin_ok, vpi_ok, bip_ok, sip_ok, kcf_ok, vsw, vlk, Bool.false_eq_true, ↓reduceIte, true_and, and_true, and_self, Option.toList, List.cons_append, List.nil_append, Fin.isValue, forall_const, false_implies, implies_true, true_implies, reduceCtorEq, or_false, false_or, true_or, or_true, ne_eq, not_false_eq_true, not_true_eq_false, Classical.not_not, Bool.or_false, Bool.false_or, Bool.or_true, Bool.true_or, nat_int, Nat.reduceAdd, Nat.reduceBEq, Nat.reduceEqDiff, Int32.reduceLT, Int32.reduceLE, Int32.reduceAdd, Int32.reduceSub, Int.reduceAdd, Int.reduceToNat, Int.reduceLE, Int.reduceLT, Int.reduceNeg, Int.reduceSub, Int32.reduceOfInt, Nat.reduceMod, Fin.reduceFinMk, D_X8_days, rsf_8, i2]
      refine X.callV0g S_8_225 (by decide +kernel) rcv_39 (by decide) (by decide) (Nat.le_of_ble_eq_true rfl) (k8_endDay (daym μ k) ρ (by rw [d1]; exact h2) (by rw [d1]; exact h3) d2 (by rw [d3]; exact h4) (by rw [d3]; exact h5) d4 (by rw [d5]; exact r4) (by rw [d5]; exact r5) (by simpa [Int32.le_iff_toInt_le] using d7) (by simp only [Int32.le_iff_toInt_le, Int32.reduceToInt]; omega)) ?_
      rintro r μ' ⟨rfl, ρ', rfl⟩
      have x0 : edm (daym μ k) (daym μ k 39 5).toNatClampNeg 39 0 = daym μ k 39 0 := (edm_ag _).2 0 (by decide) (by decide)
      refine X.vc (fun q => q == 31) 60 ?_
      simp only [↓vc_zero, ↓vc_succ, ↓vn_app, ↓vd_ok, ↓vx_iconst, ↓vx_bipush, ↓vx_sipush, ↓vx_ldc, ↓vx_iload_n, ↓vx_iload, ↓vx_aload_n, ↓vx_aload, ↓vx_istore_n, ↓vx_istore, ↓vx_iinc, ↓vx_iadd, ↓vx_isub, ↓vx_imul, ↓vx_iand, ↓vx_ior, ↓vx_ixor, ↓vx_ishl, ↓vx_ishr, ↓vx_iushr, ↓vx_dup, ↓vx_dup2, ↓vx_goto, ↓vx_if_icmp, ↓vx_ifCond, ↓vx_getfield, ↓vx_putfield, ↓vx_iaload, ↓vx_iastore, ↓vx_baload, ↓vx_bastore, ↓vx_aaload, ↓vx_ireturn, ↓vx_return, ↓vx_invokevirtual, ↓vx_invokestatic, ↓vx_table, ↓vx_lookup, ↓vld_ok, ↓vldr_ok, ↓vst_ok, ↓vic_ok, ↓vgf_ok, ↓vgo_ok, ↓vpf_f, ↓vpf_t, ↓vpo_ok, ↓vkc_ok, ↓vbr_eq, ↓bz_01, bz_0, bz_1, is_app, mset_app, tnc_ok, wr_app, wr_ms, is59_app, vpn_ok, vpn_bz, Option.some.injEq, Sum.inl.injEq, getL, setL, Option.map_some, fvl_ok, mff_ok, jp, icm, inb_ok, ins_ok, zin_ok, rin_ok, vpi_ok, bip_ok, sip_ok, kcf_ok, vsw, vlk, Bool.false_eq_true, ↓reduceIte, true_and, and_true, and_self, Option.toList, List.cons_append, List.nil_append, Fin.isValue, forall_const, false_implies, implies_true, true_implies, reduceCtorEq, or_false, false_or, true_or, or_true, ne_eq, not_false_eq_true, not_true_eq_false, Classical.not_not, Bool.or_false, Bool.false_or, Bool.or_true, Bool.true_or, nat_int, Nat.reduceAdd, Nat.reduceBEq, Nat.reduceEqDiff, Int32.reduceLT, Int32.reduceLE, Int32.reduceAdd, Int32.reduceSub, Int.reduceAdd, Int.reduceToNat, Int.reduceLE, Int.reduceLT, Int.reduceNeg, Int.reduceSub, Int32.reduceOfInt, Nat.reduceMod, Fin.reduceFinMk, D_X8_days, rsf_8, i4, x0]
      rw [wr_mo (by decide), d1]
      exact ih ρ'
  · have e1 : rf_days μ n = -1 := if_neg ok
    have e2 : gf_days μ n = μ := if_neg ok
    rw [e1, e2]
    refine ⟨fun c => ⟨rfl, ρ, rfl⟩, fun c => ⟨fun c2 => absurd ⟨c, c2⟩ ok, fun c2 => ⟨rfl, ρ, rfl⟩⟩⟩
