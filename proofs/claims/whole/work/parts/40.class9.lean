/-! version, gives -/
abbrev oc_version (μ : Mem) (t w s : Int32) : Prop := (0 ≤ t ∧ t ≤ μ 1 3 - 1) ∧ (0 ≤ w ∧ w ≤ 1073741823) ∧ ((0 ≤ s ∧ s ≤ 5) ∧ (μ 0 12 >>> (s &&& 31)) &&& 1 = 0) ∧ μ 5 6 ≠ 120
def cf_version (μ : Mem) (t w s : Int32) : Int32 := if oc_version μ t w s then μ 5 6 else -1
def cg_version (μ : Mem) (t w s : Int32) : Mem := if oc_version μ t w s then cfs (cg_vadd μ t w (μ 0 13) (1 <<< (s &&& 31))) (μ 5 6).toNatClampNeg (cH μ) else μ
def KOk (μ : Mem) : Prop := ∀ i, i < (μ 1 3).toNatClampNeg → 0 ≤ μ 2 i ∧ μ 2 i < 6
theorem vadd_ne {μ : Mem} {t w d c : Int32} {a : Nat} (h : a ≠ 6 ∧ a ≠ 7 ∧ a ≠ 8 ∧ a ≠ 9 ∧ a ≠ 5) : cg_vadd μ t w d c a = μ a := by
  obtain ⟨h1, h2, h3, h4, h5⟩ := h
  rw [cg_vadd, mset_ne a h5, mset_ne a h4, mset_ne a h3, mset_ne a h2, mset_ne a h1]
set_option maxRecDepth 100000 in
set_option maxHeartbeats 1000000 in
theorem k7_version (μ : Mem) (t w s : Int32) (t0 : 0 ≤ μ 1 3) (t1 : μ 1 3 ≤ 40) (h2 : 0 ≤ μ 5 6) (h3 : μ 5 6 ≤ 120) (h4 : 0 ≤ μ 12 2) (h5 : μ 12 2 ≤ 12) (hK : KOk μ) (hT : ∀ i, i < cH μ → CTk μ i) : Ct yX7_version 5 cX7_version (some .int) 5 [.inr 0, .inl (t), .inl (w), .inl (s)] μ (Is (some (.inl (cf_version μ t w s))) (cg_version μ t w s)) := by
  refine Ct.of (oc := 7) [some (.inr 0), some (.inl (t)), some (.inl (w)), some (.inl (s)), none] (by decide +kernel) rfl (Nat.le_of_ble_eq_true rfl) rfl ?_
  refine X.vc (fun _ => false) 60 ?_
  simp only [↓vc_zero, ↓vc_succ, ↓vn_app, ↓vd_ok, ↓vx_iconst, ↓vx_bipush, ↓vx_sipush, ↓vx_ldc, ↓vx_iload_n, ↓vx_iload, ↓vx_aload_n, ↓vx_aload, ↓vx_istore_n, ↓vx_istore, ↓vx_iinc, ↓vx_iadd, ↓vx_isub, ↓vx_imul, ↓vx_iand, ↓vx_ior, ↓vx_ixor, ↓vx_ishl, ↓vx_ishr, ↓vx_iushr, ↓vx_dup, ↓vx_dup2, ↓vx_goto, ↓vx_if_icmp, ↓vx_ifCond, ↓vx_getfield, ↓vx_putfield, ↓vx_iaload, ↓vx_iastore, ↓vx_baload, ↓vx_bastore, ↓vx_aaload, ↓vx_ireturn, ↓vx_return, ↓vx_invokevirtual, ↓vx_invokestatic, ↓vx_table, ↓vx_lookup, ↓vld_ok, ↓vldr_ok, ↓vst_ok, ↓vic_ok, ↓vgf_ok, ↓vgo_ok, ↓vpf_f, ↓vpf_t, ↓vpo_ok, ↓vkc_ok, ↓vbr_eq, ↓bz_01, bz_0, bz_1, is_app, mset_app, tnc_ok, wr_app, wr_ms, is59_app, vpn_ok, vpn_bz, Option.some.injEq, Sum.inl.injEq, getL, setL, Option.map_some, fvl_ok, mff_ok, jp, icm, inb_ok, ins_ok, zin_ok, rin_ok, vpi_ok, bip_ok, sip_ok, kcf_ok, vsw, vlk, Bool.false_eq_true, ↓reduceIte, true_and, and_true, and_self, Option.toList, List.cons_append, List.nil_append, Fin.isValue, forall_const, false_implies, implies_true, true_implies, reduceCtorEq, or_false, false_or, true_or, or_true, ne_eq, not_false_eq_true, not_true_eq_false, Classical.not_not, Bool.or_false, Bool.false_or, Bool.or_true, Bool.true_or, nat_int, Nat.reduceAdd, Nat.reduceBEq, Nat.reduceEqDiff, Int32.reduceLT, Int32.reduceLE, Int32.reduceAdd, Int32.reduceSub, Int.reduceAdd, Int.reduceToNat, Int.reduceLE, Int.reduceLT, Int.reduceNeg, Int.reduceSub, Int32.reduceOfInt, Nat.reduceMod, Fin.reduceFinMk, D_X7_version, rsf_7]
  refine X.callS2 S_7_67 (by decide +kernel) (by decide) (by decide) (Nat.le_of_ble_eq_true rfl) (k7_isBelow _ _ _) ?_
  refine X.vc (fun _ => false) 60 ?_
  simp only [↓vc_zero, ↓vc_succ, ↓vn_app, ↓vd_ok, ↓vx_iconst, ↓vx_bipush, ↓vx_sipush, ↓vx_ldc, ↓vx_iload_n, ↓vx_iload, ↓vx_aload_n, ↓vx_aload, ↓vx_istore_n, ↓vx_istore, ↓vx_iinc, ↓vx_iadd, ↓vx_isub, ↓vx_imul, ↓vx_iand, ↓vx_ior, ↓vx_ixor, ↓vx_ishl, ↓vx_ishr, ↓vx_iushr, ↓vx_dup, ↓vx_dup2, ↓vx_goto, ↓vx_if_icmp, ↓vx_ifCond, ↓vx_getfield, ↓vx_putfield, ↓vx_iaload, ↓vx_iastore, ↓vx_baload, ↓vx_bastore, ↓vx_aaload, ↓vx_ireturn, ↓vx_return, ↓vx_invokevirtual, ↓vx_invokestatic, ↓vx_table, ↓vx_lookup, ↓vld_ok, ↓vldr_ok, ↓vst_ok, ↓vic_ok, ↓vgf_ok, ↓vgo_ok, ↓vpf_f, ↓vpf_t, ↓vpo_ok, ↓vkc_ok, ↓vbr_eq, ↓bz_01, bz_0, bz_1, is_app, mset_app, tnc_ok, wr_app, wr_ms, is59_app, vpn_ok, vpn_bz, Option.some.injEq, Sum.inl.injEq, getL, setL, Option.map_some, fvl_ok, mff_ok, jp, icm, inb_ok, ins_ok, zin_ok, rin_ok, vpi_ok, bip_ok, sip_ok, kcf_ok, vsw, vlk, Bool.false_eq_true, ↓reduceIte, true_and, and_true, and_self, Option.toList, List.cons_append, List.nil_append, Fin.isValue, forall_const, false_implies, implies_true, true_implies, reduceCtorEq, or_false, false_or, true_or, or_true, ne_eq, not_false_eq_true, not_true_eq_false, Classical.not_not, Bool.or_false, Bool.false_or, Bool.or_true, Bool.true_or, nat_int, Nat.reduceAdd, Nat.reduceBEq, Nat.reduceEqDiff, Int32.reduceLT, Int32.reduceLE, Int32.reduceAdd, Int32.reduceSub, Int.reduceAdd, Int.reduceToNat, Int.reduceLE, Int.reduceLT, Int.reduceNeg, Int.reduceSub, Int32.reduceOfInt, Nat.reduceMod, Fin.reduceFinMk, D_X7_version, rsf_7]
  by_cases c1 : 0 ≤ t ∧ t < μ 1 3
  case neg =>
    (refine ⟨fun z => ?_, fun z => ?_⟩ <;> first | exact absurd z c1 | exact absurd c1 z | skip)
    grind [cf_version, cg_version]
  (refine ⟨fun z => ?_, fun z => ?_⟩ <;> first | exact absurd z c1 | exact absurd c1 z | skip)
  refine X.callS2 S_7_67 (by decide +kernel) (by decide) (by decide) (Nat.le_of_ble_eq_true rfl) (k7_isBelow _ _ _) ?_
  refine X.vc (fun _ => false) 60 ?_
  simp only [↓vc_zero, ↓vc_succ, ↓vn_app, ↓vd_ok, ↓vx_iconst, ↓vx_bipush, ↓vx_sipush, ↓vx_ldc, ↓vx_iload_n, ↓vx_iload, ↓vx_aload_n, ↓vx_aload, ↓vx_istore_n, ↓vx_istore, ↓vx_iinc, ↓vx_iadd, ↓vx_isub, ↓vx_imul, ↓vx_iand, ↓vx_ior, ↓vx_ixor, ↓vx_ishl, ↓vx_ishr, ↓vx_iushr, ↓vx_dup, ↓vx_dup2, ↓vx_goto, ↓vx_if_icmp, ↓vx_ifCond, ↓vx_getfield, ↓vx_putfield, ↓vx_iaload, ↓vx_iastore, ↓vx_baload, ↓vx_bastore, ↓vx_aaload, ↓vx_ireturn, ↓vx_return, ↓vx_invokevirtual, ↓vx_invokestatic, ↓vx_table, ↓vx_lookup, ↓vld_ok, ↓vldr_ok, ↓vst_ok, ↓vic_ok, ↓vgf_ok, ↓vgo_ok, ↓vpf_f, ↓vpf_t, ↓vpo_ok, ↓vkc_ok, ↓vbr_eq, ↓bz_01, bz_0, bz_1, is_app, mset_app, tnc_ok, wr_app, wr_ms, is59_app, vpn_ok, vpn_bz, Option.some.injEq, Sum.inl.injEq, getL, setL, Option.map_some, fvl_ok, mff_ok, jp, icm, inb_ok, ins_ok, zin_ok, rin_ok, vpi_ok, bip_ok, sip_ok, kcf_ok, vsw, vlk, Bool.false_eq_true, ↓reduceIte, true_and, and_true, and_self, Option.toList, List.cons_append, List.nil_append, Fin.isValue, forall_const, false_implies, implies_true, true_implies, reduceCtorEq, or_false, false_or, true_or, or_true, ne_eq, not_false_eq_true, not_true_eq_false, Classical.not_not, Bool.or_false, Bool.false_or, Bool.or_true, Bool.true_or, nat_int, Nat.reduceAdd, Nat.reduceBEq, Nat.reduceEqDiff, Int32.reduceLT, Int32.reduceLE, Int32.reduceAdd, Int32.reduceSub, Int.reduceAdd, Int.reduceToNat, Int.reduceLE, Int.reduceLT, Int.reduceNeg, Int.reduceSub, Int32.reduceOfInt, Nat.reduceMod, Fin.reduceFinMk, D_X7_version, rsf_7]
  by_cases c2 : 0 ≤ w ∧ w < 1073741824
  case neg =>
    (refine ⟨fun z => ?_, fun z => ?_⟩ <;> first | exact absurd z c2 | exact absurd c2 z | skip)
    grind [cf_version, cg_version]
  (refine ⟨fun z => ?_, fun z => ?_⟩ <;> first | exact absurd z c2 | exact absurd c2 z | skip)
  refine X.callV1 S_7_80 (by decide +kernel) rcv_0 (by decide) (by decide) (Nat.le_of_ble_eq_true rfl) (k7_isWhole _ _) ?_
  refine X.vc (fun _ => false) 60 ?_
  simp only [↓vc_zero, ↓vc_succ, ↓vn_app, ↓vd_ok, ↓vx_iconst, ↓vx_bipush, ↓vx_sipush, ↓vx_ldc, ↓vx_iload_n, ↓vx_iload, ↓vx_aload_n, ↓vx_aload, ↓vx_istore_n, ↓vx_istore, ↓vx_iinc, ↓vx_iadd, ↓vx_isub, ↓vx_imul, ↓vx_iand, ↓vx_ior, ↓vx_ixor, ↓vx_ishl, ↓vx_ishr, ↓vx_iushr, ↓vx_dup, ↓vx_dup2, ↓vx_goto, ↓vx_if_icmp, ↓vx_ifCond, ↓vx_getfield, ↓vx_putfield, ↓vx_iaload, ↓vx_iastore, ↓vx_baload, ↓vx_bastore, ↓vx_aaload, ↓vx_ireturn, ↓vx_return, ↓vx_invokevirtual, ↓vx_invokestatic, ↓vx_table, ↓vx_lookup, ↓vld_ok, ↓vldr_ok, ↓vst_ok, ↓vic_ok, ↓vgf_ok, ↓vgo_ok, ↓vpf_f, ↓vpf_t, ↓vpo_ok, ↓vkc_ok, ↓vbr_eq, ↓bz_01, bz_0, bz_1, is_app, mset_app, tnc_ok, wr_app, wr_ms, is59_app, vpn_ok, vpn_bz, Option.some.injEq, Sum.inl.injEq, getL, setL, Option.map_some, fvl_ok, mff_ok, jp, icm, inb_ok, ins_ok, zin_ok, rin_ok, vpi_ok, bip_ok, sip_ok, kcf_ok, vsw, vlk, Bool.false_eq_true, ↓reduceIte, true_and, and_true, and_self, Option.toList, List.cons_append, List.nil_append, Fin.isValue, forall_const, false_implies, implies_true, true_implies, reduceCtorEq, or_false, false_or, true_or, or_true, ne_eq, not_false_eq_true, not_true_eq_false, Classical.not_not, Bool.or_false, Bool.false_or, Bool.or_true, Bool.true_or, nat_int, Nat.reduceAdd, Nat.reduceBEq, Nat.reduceEqDiff, Int32.reduceLT, Int32.reduceLE, Int32.reduceAdd, Int32.reduceSub, Int.reduceAdd, Int.reduceToNat, Int.reduceLE, Int.reduceLT, Int.reduceNeg, Int.reduceSub, Int32.reduceOfInt, Nat.reduceMod, Fin.reduceFinMk, D_X7_version, rsf_7]
  by_cases c3 : (0 ≤ s ∧ s ≤ 5) ∧ (μ 0 12 >>> (s &&& 31)) &&& 1 = 0
  case neg =>
    (refine ⟨fun z => ?_, fun z => ?_⟩ <;> first | exact absurd z c3 | exact absurd c3 z | skip)
    grind [cf_version, cg_version]
  (refine ⟨fun z => ?_, fun z => ?_⟩ <;> first | exact absurd z c3 | exact absurd c3 z | skip)
  refine X.callV4 S_7_87 (by decide +kernel) rcv_5 (by decide) (by decide) (Nat.le_of_ble_eq_true rfl) (k6_add _ _ _ _ _ (by first | assumption | grind) (by first | assumption | grind)) ?_
  refine X.vc (fun _ => false) 60 ?_
  simp only [↓vc_zero, ↓vc_succ, ↓vn_app, ↓vd_ok, ↓vx_iconst, ↓vx_bipush, ↓vx_sipush, ↓vx_ldc, ↓vx_iload_n, ↓vx_iload, ↓vx_aload_n, ↓vx_aload, ↓vx_istore_n, ↓vx_istore, ↓vx_iinc, ↓vx_iadd, ↓vx_isub, ↓vx_imul, ↓vx_iand, ↓vx_ior, ↓vx_ixor, ↓vx_ishl, ↓vx_ishr, ↓vx_iushr, ↓vx_dup, ↓vx_dup2, ↓vx_goto, ↓vx_if_icmp, ↓vx_ifCond, ↓vx_getfield, ↓vx_putfield, ↓vx_iaload, ↓vx_iastore, ↓vx_baload, ↓vx_bastore, ↓vx_aaload, ↓vx_ireturn, ↓vx_return, ↓vx_invokevirtual, ↓vx_invokestatic, ↓vx_table, ↓vx_lookup, ↓vld_ok, ↓vldr_ok, ↓vst_ok, ↓vic_ok, ↓vgf_ok, ↓vgo_ok, ↓vpf_f, ↓vpf_t, ↓vpo_ok, ↓vkc_ok, ↓vbr_eq, ↓bz_01, bz_0, bz_1, is_app, mset_app, tnc_ok, wr_app, wr_ms, is59_app, vpn_ok, vpn_bz, Option.some.injEq, Sum.inl.injEq, getL, setL, Option.map_some, fvl_ok, mff_ok, jp, icm, inb_ok, ins_ok, zin_ok, rin_ok, vpi_ok, bip_ok, sip_ok, kcf_ok, vsw, vlk, Bool.false_eq_true, ↓reduceIte, true_and, and_true, and_self, Option.toList, List.cons_append, List.nil_append, Fin.isValue, forall_const, false_implies, implies_true, true_implies, reduceCtorEq, or_false, false_or, true_or, or_true, ne_eq, not_false_eq_true, not_true_eq_false, Classical.not_not, Bool.or_false, Bool.false_or, Bool.or_true, Bool.true_or, nat_int, Nat.reduceAdd, Nat.reduceBEq, Nat.reduceEqDiff, Int32.reduceLT, Int32.reduceLE, Int32.reduceAdd, Int32.reduceSub, Int.reduceAdd, Int.reduceToNat, Int.reduceLE, Int.reduceLT, Int.reduceNeg, Int.reduceSub, Int32.reduceOfInt, Nat.reduceMod, Fin.reduceFinMk, D_X7_version, rsf_7]
  by_cases c4 : μ 5 6 < 120
  · have ok : oc_version μ t w s := ⟨by grind, by grind, c3, by grind⟩
    obtain ⟨V, hV, hVe⟩ := nIx (M := 119) (n := 119) rfl h2 (by grind : μ 5 6 ≤ 119)
    have hVc : (μ 5 6).toNatClampNeg = V := by rw [hVe]; exact nI_clamp (by omega)
    obtain ⟨T, hT1, hTe, hTl⟩ := below_ix (M := 40) (m := 40) rfl (by decide) t0 t1 c1
    have hTc : t.toNatClampNeg = T := by rw [hTe]; exact nI_clamp (by omega)
    have ne : ¬ μ 5 6 = -1 := by grind
    rw [cf_version, cg_version, if_pos ok, if_pos ok, if_pos c4, if_pos c4]
    (refine ⟨fun z => ?_, fun z => ?_⟩ <;> first | exact absurd z ne | exact absurd ne z | skip)
    have e12 : ∀ j, cg_vadd μ t w (μ 0 13) (1 <<< (s &&& 31)) 12 j = μ 12 j := fun j => by rw [vadd_ne (by decide)]
    have e34 : ∀ j, cg_vadd μ t w (μ 0 13) (1 <<< (s &&& 31)) 34 j = μ 34 j := fun j => by rw [vadd_ne (by decide)]
    have eH : cH (cg_vadd μ t w (μ 0 13) (1 <<< (s &&& 31))) = cH μ := by rw [cH, e12]; rfl
    have e6 : cg_vadd μ t w (μ 0 13) (1 <<< (s &&& 31)) 6 V = t := by
      rw [cg_vadd, ms_k (by decide), ms_k (by decide), ms_k (by decide), ms_k (by decide), hVc, ms_eq]
    have hc : COk (cg_vadd μ t w (μ 0 13) (1 <<< (s &&& 31))) V := by
      unfold COk
      rw [e6, hTc, vadd_ne (a := 2) (by decide)]
      exact ⟨c1.1, by grind, (hK T hTl).1, (hK T hTl).2⟩
    rw [hVc, hVe, ← eH]
    refine X.callV1 S_7_90 (by decide +kernel) rcv_0 (by decide) (by decide) (Nat.le_of_ble_eq_true rfl) (k7_fitToHolds _ V (by rw [e12]; exact h4) (by rw [e12]; exact h5) (by omega) hc (fun i hi => by rw [eH] at hi; obtain ⟨n, g1, g2⟩ := hT i hi; exact ⟨n, by rw [e34]; exact g1, g2⟩)) ?_
    refine X.vc (fun _ => false) 60 ?_
    simp only [↓vc_zero, ↓vc_succ, ↓vn_app, ↓vd_ok, ↓vx_iconst, ↓vx_bipush, ↓vx_sipush, ↓vx_ldc, ↓vx_iload_n, ↓vx_iload, ↓vx_aload_n, ↓vx_aload, ↓vx_istore_n, ↓vx_istore, ↓vx_iinc, ↓vx_iadd, ↓vx_isub, ↓vx_imul, ↓vx_iand, ↓vx_ior, ↓vx_ixor, ↓vx_ishl, ↓vx_ishr, ↓vx_iushr, ↓vx_dup, ↓vx_dup2, ↓vx_goto, ↓vx_if_icmp, ↓vx_ifCond, ↓vx_getfield, ↓vx_putfield, ↓vx_iaload, ↓vx_iastore, ↓vx_baload, ↓vx_bastore, ↓vx_aaload, ↓vx_ireturn, ↓vx_return, ↓vx_invokevirtual, ↓vx_invokestatic, ↓vx_table, ↓vx_lookup, ↓vld_ok, ↓vldr_ok, ↓vst_ok, ↓vic_ok, ↓vgf_ok, ↓vgo_ok, ↓vpf_f, ↓vpf_t, ↓vpo_ok, ↓vkc_ok, ↓vbr_eq, ↓bz_01, bz_0, bz_1, is_app, mset_app, tnc_ok, wr_app, wr_ms, is59_app, vpn_ok, vpn_bz, Option.some.injEq, Sum.inl.injEq, getL, setL, Option.map_some, fvl_ok, mff_ok, jp, icm, inb_ok, ins_ok, zin_ok, rin_ok, vpi_ok, bip_ok, sip_ok, kcf_ok, vsw, vlk, Bool.false_eq_true, ↓reduceIte, true_and, and_true, and_self, Option.toList, List.cons_append, List.nil_append, Fin.isValue, forall_const, false_implies, implies_true, true_implies, reduceCtorEq, or_false, false_or, true_or, or_true, ne_eq, not_false_eq_true, not_true_eq_false, Classical.not_not, Bool.or_false, Bool.false_or, Bool.or_true, Bool.true_or, nat_int, Nat.reduceAdd, Nat.reduceBEq, Nat.reduceEqDiff, Int32.reduceLT, Int32.reduceLE, Int32.reduceAdd, Int32.reduceSub, Int.reduceAdd, Int.reduceToNat, Int.reduceLE, Int.reduceLT, Int.reduceNeg, Int.reduceSub, Int32.reduceOfInt, Nat.reduceMod, Fin.reduceFinMk, D_X7_version, rsf_7]
  · have ok : ¬ oc_version μ t w s := fun z => z.2.2.2 (by grind)
    rw [cf_version, cg_version, if_neg ok, if_neg ok, if_neg c4, if_neg c4]
    have ne : (-1 : Int32) = -1 := rfl
    (refine ⟨fun z => ?_, fun z => ?_⟩ <;> first | exact absurd ne z | exact ⟨rfl, rfl⟩)
def cgg (μ : Mem) (n : Nat) : Nat → Mem
  | 0 => μ
  | k + 1 => cfs (cgg μ n k) k n
theorem cgg_r {μ : Mem} {n : Nat} : ∀ k, Cr μ (cgg μ n k)
  | 0 => fun _ _ => rfl
  | k + 1 => fun a h => by
    unfold cgg
    rw [cfs_r n a h, cgg_r k a h]
def cf_gives (μ : Mem) (p o : Int32) : Int32 := if ok_gives p o then cnt (cgf μ p) (μ 1 3).toNatClampNeg else -1
def cg_gives (μ : Mem) (p o : Int32) : Mem := if ok_gives p o then cgg (cgv μ p o (μ 1 3).toNatClampNeg) (cH μ) (μ 5 6).toNatClampNeg else μ
set_option maxRecDepth 100000 in
set_option maxHeartbeats 1000000 in
theorem k7_gives (μ : Mem) (p o : Int32) (t0 : 0 ≤ μ 1 3) (t1 : μ 1 3 ≤ 40) (h2 : 0 ≤ μ 5 6) (h3 : μ 5 6 ≤ 120) (h4 : 0 ≤ μ 12 2) (h5 : μ 12 2 ≤ 12) (hC : CsOk μ) (hT : ∀ i, i < cH μ → CTk μ i) : Ct yX7_gives 5 cX7_gives (some .int) 5 [.inr 0, .inl (p), .inl (o)] μ (Is (some (.inl (cf_gives μ p o))) (cg_gives μ p o)) := by
  refine Ct.of (oc := 7) [some (.inr 0), some (.inl (p)), some (.inl (o)), none, none] (by decide +kernel) rfl (Nat.le_of_ble_eq_true rfl) rfl ?_
  obtain ⟨N, hNb, hN⟩ := nIx (M := 120) (n := 120) rfl h2 h3
  have e := csix hN hNb
  refine X.vc (fun _ => false) 60 ?_
  simp only [↓vc_zero, ↓vc_succ, ↓vn_app, ↓vd_ok, ↓vx_iconst, ↓vx_bipush, ↓vx_sipush, ↓vx_ldc, ↓vx_iload_n, ↓vx_iload, ↓vx_aload_n, ↓vx_aload, ↓vx_istore_n, ↓vx_istore, ↓vx_iinc, ↓vx_iadd, ↓vx_isub, ↓vx_imul, ↓vx_iand, ↓vx_ior, ↓vx_ixor, ↓vx_ishl, ↓vx_ishr, ↓vx_iushr, ↓vx_dup, ↓vx_dup2, ↓vx_goto, ↓vx_if_icmp, ↓vx_ifCond, ↓vx_getfield, ↓vx_putfield, ↓vx_iaload, ↓vx_iastore, ↓vx_baload, ↓vx_bastore, ↓vx_aaload, ↓vx_ireturn, ↓vx_return, ↓vx_invokevirtual, ↓vx_invokestatic, ↓vx_table, ↓vx_lookup, ↓vld_ok, ↓vldr_ok, ↓vst_ok, ↓vic_ok, ↓vgf_ok, ↓vgo_ok, ↓vpf_f, ↓vpf_t, ↓vpo_ok, ↓vkc_ok, ↓vbr_eq, ↓bz_01, bz_0, bz_1, is_app, mset_app, tnc_ok, wr_app, wr_ms, is59_app, vpn_ok, vpn_bz, Option.some.injEq, Sum.inl.injEq, getL, setL, Option.map_some, fvl_ok, mff_ok, jp, icm, inb_ok, ins_ok, zin_ok, rin_ok, vpi_ok, bip_ok, sip_ok, kcf_ok, vsw, vlk, Bool.false_eq_true, ↓reduceIte, true_and, and_true, and_self, Option.toList, List.cons_append, List.nil_append, Fin.isValue, forall_const, false_implies, implies_true, true_implies, reduceCtorEq, or_false, false_or, true_or, or_true, ne_eq, not_false_eq_true, not_true_eq_false, Classical.not_not, Bool.or_false, Bool.false_or, Bool.or_true, Bool.true_or, nat_int, Nat.reduceAdd, Nat.reduceBEq, Nat.reduceEqDiff, Int32.reduceLT, Int32.reduceLE, Int32.reduceAdd, Int32.reduceSub, Int.reduceAdd, Int.reduceToNat, Int.reduceLE, Int.reduceLT, Int.reduceNeg, Int.reduceSub, Int32.reduceOfInt, Nat.reduceMod, Fin.reduceFinMk, D_X7_gives, rsf_7]
  refine X.callS2 S_7_67 (by decide +kernel) (by decide) (by decide) (Nat.le_of_ble_eq_true rfl) (k7_isBelow _ _ _) ?_
  refine X.vc (fun _ => false) 60 ?_
  simp only [↓vc_zero, ↓vc_succ, ↓vn_app, ↓vd_ok, ↓vx_iconst, ↓vx_bipush, ↓vx_sipush, ↓vx_ldc, ↓vx_iload_n, ↓vx_iload, ↓vx_aload_n, ↓vx_aload, ↓vx_istore_n, ↓vx_istore, ↓vx_iinc, ↓vx_iadd, ↓vx_isub, ↓vx_imul, ↓vx_iand, ↓vx_ior, ↓vx_ixor, ↓vx_ishl, ↓vx_ishr, ↓vx_iushr, ↓vx_dup, ↓vx_dup2, ↓vx_goto, ↓vx_if_icmp, ↓vx_ifCond, ↓vx_getfield, ↓vx_putfield, ↓vx_iaload, ↓vx_iastore, ↓vx_baload, ↓vx_bastore, ↓vx_aaload, ↓vx_ireturn, ↓vx_return, ↓vx_invokevirtual, ↓vx_invokestatic, ↓vx_table, ↓vx_lookup, ↓vld_ok, ↓vldr_ok, ↓vst_ok, ↓vic_ok, ↓vgf_ok, ↓vgo_ok, ↓vpf_f, ↓vpf_t, ↓vpo_ok, ↓vkc_ok, ↓vbr_eq, ↓bz_01, bz_0, bz_1, is_app, mset_app, tnc_ok, wr_app, wr_ms, is59_app, vpn_ok, vpn_bz, Option.some.injEq, Sum.inl.injEq, getL, setL, Option.map_some, fvl_ok, mff_ok, jp, icm, inb_ok, ins_ok, zin_ok, rin_ok, vpi_ok, bip_ok, sip_ok, kcf_ok, vsw, vlk, Bool.false_eq_true, ↓reduceIte, true_and, and_true, and_self, Option.toList, List.cons_append, List.nil_append, Fin.isValue, forall_const, false_implies, implies_true, true_implies, reduceCtorEq, or_false, false_or, true_or, or_true, ne_eq, not_false_eq_true, not_true_eq_false, Classical.not_not, Bool.or_false, Bool.false_or, Bool.or_true, Bool.true_or, nat_int, Nat.reduceAdd, Nat.reduceBEq, Nat.reduceEqDiff, Int32.reduceLT, Int32.reduceLE, Int32.reduceAdd, Int32.reduceSub, Int.reduceAdd, Int.reduceToNat, Int.reduceLE, Int.reduceLT, Int.reduceNeg, Int.reduceSub, Int32.reduceOfInt, Nat.reduceMod, Fin.reduceFinMk, D_X7_gives, rsf_7]
  by_cases c1 : 0 ≤ p ∧ p < 10
  case neg =>
    (refine ⟨fun z => ?_, fun z => ?_⟩ <;> first | exact absurd z c1 | exact absurd c1 z | skip)
    grind [cf_gives, cg_gives]
  (refine ⟨fun z => ?_, fun z => ?_⟩ <;> first | exact absurd z c1 | exact absurd c1 z | skip)
  refine X.callS2 S_7_67 (by decide +kernel) (by decide) (by decide) (Nat.le_of_ble_eq_true rfl) (k7_isBelow _ _ _) ?_
  refine X.vc (fun _ => false) 60 ?_
  simp only [↓vc_zero, ↓vc_succ, ↓vn_app, ↓vd_ok, ↓vx_iconst, ↓vx_bipush, ↓vx_sipush, ↓vx_ldc, ↓vx_iload_n, ↓vx_iload, ↓vx_aload_n, ↓vx_aload, ↓vx_istore_n, ↓vx_istore, ↓vx_iinc, ↓vx_iadd, ↓vx_isub, ↓vx_imul, ↓vx_iand, ↓vx_ior, ↓vx_ixor, ↓vx_ishl, ↓vx_ishr, ↓vx_iushr, ↓vx_dup, ↓vx_dup2, ↓vx_goto, ↓vx_if_icmp, ↓vx_ifCond, ↓vx_getfield, ↓vx_putfield, ↓vx_iaload, ↓vx_iastore, ↓vx_baload, ↓vx_bastore, ↓vx_aaload, ↓vx_ireturn, ↓vx_return, ↓vx_invokevirtual, ↓vx_invokestatic, ↓vx_table, ↓vx_lookup, ↓vld_ok, ↓vldr_ok, ↓vst_ok, ↓vic_ok, ↓vgf_ok, ↓vgo_ok, ↓vpf_f, ↓vpf_t, ↓vpo_ok, ↓vkc_ok, ↓vbr_eq, ↓bz_01, bz_0, bz_1, is_app, mset_app, tnc_ok, wr_app, wr_ms, is59_app, vpn_ok, vpn_bz, Option.some.injEq, Sum.inl.injEq, getL, setL, Option.map_some, fvl_ok, mff_ok, jp, icm, inb_ok, ins_ok, zin_ok, rin_ok, vpi_ok, bip_ok, sip_ok, kcf_ok, vsw, vlk, Bool.false_eq_true, ↓reduceIte, true_and, and_true, and_self, Option.toList, List.cons_append, List.nil_append, Fin.isValue, forall_const, false_implies, implies_true, true_implies, reduceCtorEq, or_false, false_or, true_or, or_true, ne_eq, not_false_eq_true, not_true_eq_false, Classical.not_not, Bool.or_false, Bool.false_or, Bool.or_true, Bool.true_or, nat_int, Nat.reduceAdd, Nat.reduceBEq, Nat.reduceEqDiff, Int32.reduceLT, Int32.reduceLE, Int32.reduceAdd, Int32.reduceSub, Int.reduceAdd, Int.reduceToNat, Int.reduceLE, Int.reduceLT, Int.reduceNeg, Int.reduceSub, Int32.reduceOfInt, Nat.reduceMod, Fin.reduceFinMk, D_X7_gives, rsf_7]
  by_cases c2 : 0 ≤ o ∧ o < 10
  case neg =>
    (refine ⟨fun z => ?_, fun z => ?_⟩ <;> first | exact absurd z c2 | exact absurd c2 z | skip)
    grind [cf_gives, cg_gives]
  (refine ⟨fun z => ?_, fun z => ?_⟩ <;> first | exact absurd z c2 | exact absurd c2 z | skip)
  by_cases c3 : ¬ p = o
  case neg =>
    (refine ⟨fun z => ?_, fun z => ?_⟩ <;> first | exact absurd z c3 | exact absurd c3 z | skip)
    grind [cf_gives, cg_gives]
  (refine ⟨fun z => ?_, fun z => ?_⟩ <;> first | exact absurd z c3 | exact absurd c3 z | skip)
  have ok : ok_gives p o := ⟨by grind, by grind, c3⟩
  rw [cf_gives, cg_gives, if_pos ok, if_pos ok, e]
  refine X.callV2 S_7_94 (by decide +kernel) rcv_1 (by decide) (by decide) (Nat.le_of_ble_eq_true rfl) (k5_give _ _ _ (by first | assumption | grind) (by first | assumption | grind)) ?_
  refine X.vc (fun q => q == 38) 60 ?_
  simp only [↓vc_zero, ↓vc_succ, ↓vn_app, ↓vd_ok, ↓vx_iconst, ↓vx_bipush, ↓vx_sipush, ↓vx_ldc, ↓vx_iload_n, ↓vx_iload, ↓vx_aload_n, ↓vx_aload, ↓vx_istore_n, ↓vx_istore, ↓vx_iinc, ↓vx_iadd, ↓vx_isub, ↓vx_imul, ↓vx_iand, ↓vx_ior, ↓vx_ixor, ↓vx_ishl, ↓vx_ishr, ↓vx_iushr, ↓vx_dup, ↓vx_dup2, ↓vx_goto, ↓vx_if_icmp, ↓vx_ifCond, ↓vx_getfield, ↓vx_putfield, ↓vx_iaload, ↓vx_iastore, ↓vx_baload, ↓vx_bastore, ↓vx_aaload, ↓vx_ireturn, ↓vx_return, ↓vx_invokevirtual, ↓vx_invokestatic, ↓vx_table, ↓vx_lookup, ↓vld_ok, ↓vldr_ok, ↓vst_ok, ↓vic_ok, ↓vgf_ok, ↓vgo_ok, ↓vpf_f, ↓vpf_t, ↓vpo_ok, ↓vkc_ok, ↓vbr_eq, ↓bz_01, bz_0, bz_1, is_app, mset_app, tnc_ok, wr_app, wr_ms, is59_app, vpn_ok, vpn_bz, Option.some.injEq, Sum.inl.injEq, getL, setL, Option.map_some, fvl_ok, mff_ok, jp, icm, inb_ok, ins_ok, zin_ok, rin_ok, vpi_ok, bip_ok, sip_ok, kcf_ok, vsw, vlk, Bool.false_eq_true, ↓reduceIte, true_and, and_true, and_self, Option.toList, List.cons_append, List.nil_append, Fin.isValue, forall_const, false_implies, implies_true, true_implies, reduceCtorEq, or_false, false_or, true_or, or_true, ne_eq, not_false_eq_true, not_true_eq_false, Classical.not_not, Bool.or_false, Bool.false_or, Bool.or_true, Bool.true_or, nat_int, Nat.reduceAdd, Nat.reduceBEq, Nat.reduceEqDiff, Int32.reduceLT, Int32.reduceLE, Int32.reduceAdd, Int32.reduceSub, Int.reduceAdd, Int.reduceToNat, Int.reduceLE, Int.reduceLT, Int.reduceNeg, Int.reduceSub, Int32.reduceOfInt, Nat.reduceMod, Fin.reduceFinMk, D_X7_gives, rsf_7]
  generalize hm : cgv μ p o (μ 1 3).toNatClampNeg = m
  have hr : ∀ a, a ≠ 3 → a ≠ 4 → m a = μ a := fun a x y => by rw [← hm]; exact cgv_row x y _
  have m5 : m 5 6 = nI N := by rw [hr 5 (by decide) (by decide)]; exact hN
  have m12 : m 12 2 = μ 12 2 := by rw [hr 12 (by decide) (by decide)]
  have eH : cH m = cH μ := by rw [cH, m12]; rfl
  refine dn (N := N) (P := fun k => X 7 5 cX7_gives (some .int) 5 (cgg m (cH μ) k) 38 [some (.inr 0), some (.inl p), some (.inl o), some (.inl (cnt (cgf μ p) (μ 1 3).toNatClampNeg)), some (.inl (nI k))] [] (Is (some (.inl (cnt (cgf μ p) (μ 1 3).toNatClampNeg))) (cgg m (cH μ) N))) ?_ ?_
  · have hr5 : cgg m (cH μ) N 5 6 = nI N := by rw [cgg_r N 5 (by decide)]; exact m5
    refine X.vc (fun _ => false) 60 ?_
    simp only [↓vc_zero, ↓vc_succ, ↓vn_app, ↓vd_ok, ↓vx_iconst, ↓vx_bipush, ↓vx_sipush, ↓vx_ldc, ↓vx_iload_n, ↓vx_iload, ↓vx_aload_n, ↓vx_aload, ↓vx_istore_n, ↓vx_istore, ↓vx_iinc, ↓vx_iadd, ↓vx_isub, ↓vx_imul, ↓vx_iand, ↓vx_ior, ↓vx_ixor, ↓vx_ishl, ↓vx_ishr, ↓vx_iushr, ↓vx_dup, ↓vx_dup2, ↓vx_goto, ↓vx_if_icmp, ↓vx_ifCond, ↓vx_getfield, ↓vx_putfield, ↓vx_iaload, ↓vx_iastore, ↓vx_baload, ↓vx_bastore, ↓vx_aaload, ↓vx_ireturn, ↓vx_return, ↓vx_invokevirtual, ↓vx_invokestatic, ↓vx_table, ↓vx_lookup, ↓vld_ok, ↓vldr_ok, ↓vst_ok, ↓vic_ok, ↓vgf_ok, ↓vgo_ok, ↓vpf_f, ↓vpf_t, ↓vpo_ok, ↓vkc_ok, ↓vbr_eq, ↓bz_01, bz_0, bz_1, is_app, mset_app, tnc_ok, wr_app, wr_ms, is59_app, vpn_ok, vpn_bz, Option.some.injEq, Sum.inl.injEq, getL, setL, Option.map_some, fvl_ok, mff_ok, jp, icm, inb_ok, ins_ok, zin_ok, rin_ok, vpi_ok, bip_ok, sip_ok, kcf_ok, vsw, vlk, Bool.false_eq_true, ↓reduceIte, true_and, and_true, and_self, Option.toList, List.cons_append, List.nil_append, Fin.isValue, forall_const, false_implies, implies_true, true_implies, reduceCtorEq, or_false, false_or, true_or, or_true, ne_eq, not_false_eq_true, not_true_eq_false, Classical.not_not, Bool.or_false, Bool.false_or, Bool.or_true, Bool.true_or, nat_int, Nat.reduceAdd, Nat.reduceBEq, Nat.reduceEqDiff, Int32.reduceLT, Int32.reduceLE, Int32.reduceAdd, Int32.reduceSub, Int.reduceAdd, Int.reduceToNat, Int.reduceLE, Int.reduceLT, Int.reduceNeg, Int.reduceSub, Int32.reduceOfInt, Nat.reduceMod, Fin.reduceFinMk, D_X7_gives, rsf_7, hr5, idx_end]
  · intro k hk ih
    obtain ⟨i0, i1, i2, i3, i4, i5⟩ := idx (m := 120) rfl hk hNb (by decide)
    have hr5 : cgg m (cH μ) k 5 6 = nI N := by rw [cgg_r k 5 (by decide)]; exact m5
    have hr12 : cgg m (cH μ) k 12 2 = μ 12 2 := by rw [cgg_r k 12 (by decide)]; exact m12
    have eHk : cH (cgg m (cH μ) k) = cH μ := by rw [cH, hr12]; rfl
    have hc : COk (cgg m (cH μ) k) k := by
      have h9 := hC k (by omega)
      refine COk_r (cgg_r k) ?_
      unfold COk at h9 ⊢
      rw [hr 6 (by decide) (by decide), hr 2 (by decide) (by decide)]
      exact h9
    have hT' : ∀ i, i < cH (cgg m (cH μ) k) → CTk (cgg m (cH μ) k) i := fun i hi => by
      rw [eHk] at hi
      obtain ⟨n, g1, g2⟩ := hT i hi
      refine CTk_r (cgg_r k) ⟨n, ?_, g2⟩
      rw [hr 34 (by decide) (by decide)]
      exact g1
    have h9 := k7_fitToHolds (cgg m (cH μ) k) k (by rw [hr12]; exact h4) (by rw [hr12]; exact h5) (by omega) hc hT'
    rw [eHk] at h9
    refine X.vc (fun q => q == 38) 60 ?_
    simp only [↓vc_zero, ↓vc_succ, ↓vn_app, ↓vd_ok, ↓vx_iconst, ↓vx_bipush, ↓vx_sipush, ↓vx_ldc, ↓vx_iload_n, ↓vx_iload, ↓vx_aload_n, ↓vx_aload, ↓vx_istore_n, ↓vx_istore, ↓vx_iinc, ↓vx_iadd, ↓vx_isub, ↓vx_imul, ↓vx_iand, ↓vx_ior, ↓vx_ixor, ↓vx_ishl, ↓vx_ishr, ↓vx_iushr, ↓vx_dup, ↓vx_dup2, ↓vx_goto, ↓vx_if_icmp, ↓vx_ifCond, ↓vx_getfield, ↓vx_putfield, ↓vx_iaload, ↓vx_iastore, ↓vx_baload, ↓vx_bastore, ↓vx_aaload, ↓vx_ireturn, ↓vx_return, ↓vx_invokevirtual, ↓vx_invokestatic, ↓vx_table, ↓vx_lookup, ↓vld_ok, ↓vldr_ok, ↓vst_ok, ↓vic_ok, ↓vgf_ok, ↓vgo_ok, ↓vpf_f, ↓vpf_t, ↓vpo_ok, ↓vkc_ok, ↓vbr_eq, ↓bz_01, bz_0, bz_1, is_app, mset_app, tnc_ok, wr_app, wr_ms, is59_app, vpn_ok, vpn_bz, Option.some.injEq, Sum.inl.injEq, getL, setL, Option.map_some, fvl_ok, mff_ok, jp, icm, inb_ok, ins_ok, zin_ok, rin_ok, vpi_ok, bip_ok, sip_ok, kcf_ok, vsw, vlk, Bool.false_eq_true, ↓reduceIte, true_and, and_true, and_self, Option.toList, List.cons_append, List.nil_append, Fin.isValue, forall_const, false_implies, implies_true, true_implies, reduceCtorEq, or_false, false_or, true_or, or_true, ne_eq, not_false_eq_true, not_true_eq_false, Classical.not_not, Bool.or_false, Bool.false_or, Bool.or_true, Bool.true_or, nat_int, Nat.reduceAdd, Nat.reduceBEq, Nat.reduceEqDiff, Int32.reduceLT, Int32.reduceLE, Int32.reduceAdd, Int32.reduceSub, Int.reduceAdd, Int.reduceToNat, Int.reduceLE, Int.reduceLT, Int.reduceNeg, Int.reduceSub, Int32.reduceOfInt, Nat.reduceMod, Fin.reduceFinMk, D_X7_gives, rsf_7, hr5, i2, i4]
    refine X.callV1 S_7_90 (by decide +kernel) rcv_0 (by decide) (by decide) (Nat.le_of_ble_eq_true rfl) (h9) ?_
    refine X.vc (fun q => q == 38) 60 ?_
    simp only [↓vc_zero, ↓vc_succ, ↓vn_app, ↓vd_ok, ↓vx_iconst, ↓vx_bipush, ↓vx_sipush, ↓vx_ldc, ↓vx_iload_n, ↓vx_iload, ↓vx_aload_n, ↓vx_aload, ↓vx_istore_n, ↓vx_istore, ↓vx_iinc, ↓vx_iadd, ↓vx_isub, ↓vx_imul, ↓vx_iand, ↓vx_ior, ↓vx_ixor, ↓vx_ishl, ↓vx_ishr, ↓vx_iushr, ↓vx_dup, ↓vx_dup2, ↓vx_goto, ↓vx_if_icmp, ↓vx_ifCond, ↓vx_getfield, ↓vx_putfield, ↓vx_iaload, ↓vx_iastore, ↓vx_baload, ↓vx_bastore, ↓vx_aaload, ↓vx_ireturn, ↓vx_return, ↓vx_invokevirtual, ↓vx_invokestatic, ↓vx_table, ↓vx_lookup, ↓vld_ok, ↓vldr_ok, ↓vst_ok, ↓vic_ok, ↓vgf_ok, ↓vgo_ok, ↓vpf_f, ↓vpf_t, ↓vpo_ok, ↓vkc_ok, ↓vbr_eq, ↓bz_01, bz_0, bz_1, is_app, mset_app, tnc_ok, wr_app, wr_ms, is59_app, vpn_ok, vpn_bz, Option.some.injEq, Sum.inl.injEq, getL, setL, Option.map_some, fvl_ok, mff_ok, jp, icm, inb_ok, ins_ok, zin_ok, rin_ok, vpi_ok, bip_ok, sip_ok, kcf_ok, vsw, vlk, Bool.false_eq_true, ↓reduceIte, true_and, and_true, and_self, Option.toList, List.cons_append, List.nil_append, Fin.isValue, forall_const, false_implies, implies_true, true_implies, reduceCtorEq, or_false, false_or, true_or, or_true, ne_eq, not_false_eq_true, not_true_eq_false, Classical.not_not, Bool.or_false, Bool.false_or, Bool.or_true, Bool.true_or, nat_int, Nat.reduceAdd, Nat.reduceBEq, Nat.reduceEqDiff, Int32.reduceLT, Int32.reduceLE, Int32.reduceAdd, Int32.reduceSub, Int.reduceAdd, Int.reduceToNat, Int.reduceLE, Int.reduceLT, Int.reduceNeg, Int.reduceSub, Int32.reduceOfInt, Nat.reduceMod, Fin.reduceFinMk, D_X7_gives, rsf_7, i4]
    exact ih
