/-! hold, change: their order of tests; what the text is, is said by irM and kpm -/
theorem kpm_39 {μ : Mem} {H n j : Nat} : kpm μ H n 39 j = μ 39 j := by rw [kpm_row (by decide) (by decide) (by decide) (by decide)]
abbrev ok_hold (μ : Mem) (d : Int32) : Prop := (μ 39 0 ≤ d ∧ d ≤ 5000) ∧ ¬ μ 39 20 = 12
def gf_hold1 (m : Mem) (d : Int32) : Mem := mset (mset (mset (kpm m (m 39 20).toNatClampNeg (m 54 12).toNatClampNeg) 52 (m 39 20).toNatClampNeg d) 53 (m 39 20).toNatClampNeg (-1)) 39 20 (m 39 20 + 1)
def rf_hold (μ : Mem) (d : Int32) : Int32 := if ok_hold μ d then (if (rdP μ).1 = 0 then μ 39 20 else -1) else -1
def gf_hold (μ : Mem) (d : Int32) : Mem := if ok_hold μ d then (if (rdP μ).1 = 0 then gf_hold1 (irM μ) d else irM μ) else μ
set_option maxRecDepth 100000 in
set_option maxHeartbeats 1000000 in
theorem k8_hold (μ : Mem) (d : Int32) (n : Nat) (t0 : 0 ≤ μ 39 19) (t1 : μ 39 19 ≤ 60) (h4 : 0 ≤ μ 39 20) (h5 : μ 39 20 ≤ 12) (k20 : irM μ 39 20 = μ 39 20) (k12 : irM μ 54 12 = nI n) (hn : n ≤ 60) : Ct yX8_hold 2 cX8_hold (some .int) 7 [.inr 39, .inl (d)] μ (Is (some (.inl (rf_hold μ d))) (gf_hold μ d)) := by
  refine Ct.of (oc := 8) [some (.inr 39), some (.inl (d))] (by decide +kernel) rfl (Nat.le_of_ble_eq_true rfl) rfl ?_
  refine X.vc (fun _ => false) 60 ?_
  simp only [↓vc_zero, ↓vc_succ, ↓vn_app, ↓vd_ok, ↓vx_iconst, ↓vx_bipush, ↓vx_sipush, ↓vx_ldc, ↓vx_iload_n, ↓vx_iload, ↓vx_aload_n, ↓vx_aload, ↓vx_istore_n, ↓vx_istore, ↓vx_iinc, ↓vx_iadd, ↓vx_isub, ↓vx_imul, ↓vx_iand, ↓vx_ior, ↓vx_ixor, ↓vx_ishl, ↓vx_ishr, ↓vx_iushr, ↓vx_dup, ↓vx_dup2, ↓vx_goto, ↓vx_if_icmp, ↓vx_ifCond, ↓vx_getfield, ↓vx_putfield, ↓vx_iaload, ↓vx_iastore, ↓vx_baload, ↓vx_bastore, ↓vx_aaload, ↓vx_ireturn, ↓vx_return, ↓vx_invokevirtual, ↓vx_invokestatic, ↓vx_table, ↓vx_lookup, ↓vld_ok, ↓vldr_ok, ↓vst_ok, ↓vic_ok, ↓vgf_ok, ↓vgo_ok, ↓vpf_f, ↓vpf_t, ↓vpo_ok, ↓vkc_ok, ↓vbr_eq, ↓bz_01, bz_0, bz_1, is_app, mset_app, tnc_ok, wr_app, wr_ms, is59_app, vpn_ok, vpn_bz, Option.some.injEq, Sum.inl.injEq, getL, setL, Option.map_some, fvl_ok, mff_ok, jp, icm, inb_ok, ins_ok, zin_ok, rin_ok, vpi_ok, bip_ok, sip_ok, kcf_ok, vsw, vlk, Bool.false_eq_true, ↓reduceIte, true_and, and_true, and_self, Option.toList, List.cons_append, List.nil_append, Fin.isValue, forall_const, false_implies, implies_true, true_implies, reduceCtorEq, or_false, false_or, true_or, or_true, ne_eq, not_false_eq_true, not_true_eq_false, Classical.not_not, Bool.or_false, Bool.false_or, Bool.or_true, Bool.true_or, nat_int, Nat.reduceAdd, Nat.reduceBEq, Nat.reduceEqDiff, Int32.reduceLT, Int32.reduceLE, Int32.reduceAdd, Int32.reduceSub, Int.reduceAdd, Int.reduceToNat, Int.reduceLE, Int.reduceLT, Int.reduceNeg, Int.reduceSub, Int32.reduceOfInt, Nat.reduceMod, Fin.reduceFinMk, D_X8_hold, rsf_8]
  refine X.callS3 S_8_93 (by decide +kernel) (by decide) (by decide) (Nat.le_of_ble_eq_true rfl) (k8_isIn _ _ _ _) ?_
  refine X.vc (fun _ => false) 60 ?_
  simp only [↓vc_zero, ↓vc_succ, ↓vn_app, ↓vd_ok, ↓vx_iconst, ↓vx_bipush, ↓vx_sipush, ↓vx_ldc, ↓vx_iload_n, ↓vx_iload, ↓vx_aload_n, ↓vx_aload, ↓vx_istore_n, ↓vx_istore, ↓vx_iinc, ↓vx_iadd, ↓vx_isub, ↓vx_imul, ↓vx_iand, ↓vx_ior, ↓vx_ixor, ↓vx_ishl, ↓vx_ishr, ↓vx_iushr, ↓vx_dup, ↓vx_dup2, ↓vx_goto, ↓vx_if_icmp, ↓vx_ifCond, ↓vx_getfield, ↓vx_putfield, ↓vx_iaload, ↓vx_iastore, ↓vx_baload, ↓vx_bastore, ↓vx_aaload, ↓vx_ireturn, ↓vx_return, ↓vx_invokevirtual, ↓vx_invokestatic, ↓vx_table, ↓vx_lookup, ↓vld_ok, ↓vldr_ok, ↓vst_ok, ↓vic_ok, ↓vgf_ok, ↓vgo_ok, ↓vpf_f, ↓vpf_t, ↓vpo_ok, ↓vkc_ok, ↓vbr_eq, ↓bz_01, bz_0, bz_1, is_app, mset_app, tnc_ok, wr_app, wr_ms, is59_app, vpn_ok, vpn_bz, Option.some.injEq, Sum.inl.injEq, getL, setL, Option.map_some, fvl_ok, mff_ok, jp, icm, inb_ok, ins_ok, zin_ok, rin_ok, vpi_ok, bip_ok, sip_ok, kcf_ok, vsw, vlk, Bool.false_eq_true, ↓reduceIte, true_and, and_true, and_self, Option.toList, List.cons_append, List.nil_append, Fin.isValue, forall_const, false_implies, implies_true, true_implies, reduceCtorEq, or_false, false_or, true_or, or_true, ne_eq, not_false_eq_true, not_true_eq_false, Classical.not_not, Bool.or_false, Bool.false_or, Bool.or_true, Bool.true_or, nat_int, Nat.reduceAdd, Nat.reduceBEq, Nat.reduceEqDiff, Int32.reduceLT, Int32.reduceLE, Int32.reduceAdd, Int32.reduceSub, Int.reduceAdd, Int.reduceToNat, Int.reduceLE, Int.reduceLT, Int.reduceNeg, Int.reduceSub, Int32.reduceOfInt, Nat.reduceMod, Fin.reduceFinMk, D_X8_hold, rsf_8]
  by_cases c1 : μ 39 0 ≤ d ∧ d ≤ 5000
  · refine ⟨fun z => absurd c1 z, fun _ => ?_⟩
    by_cases c2 : μ 39 20 = 12
    · have e1 : rf_hold μ d = -1 := if_neg (fun z => z.2 c2)
      have e2 : gf_hold μ d = μ := if_neg (fun z => z.2 c2)
      rw [e1, e2]
      exact ⟨fun _ => ⟨rfl, rfl⟩, fun z => absurd c2 z⟩
    · refine ⟨fun z => absurd z c2, fun _ => ?_⟩
      have e1 : rf_hold μ d = if (rdP μ).1 = 0 then μ 39 20 else -1 := if_pos ⟨c1, c2⟩
      have e2 : gf_hold μ d = if (rdP μ).1 = 0 then gf_hold1 (irM μ) d else irM μ := if_pos ⟨c1, c2⟩
      rw [e1, e2]
      refine X.callV0 S_8_176 (by decide +kernel) rcv_39 (by decide) (by decide) (Nat.le_of_ble_eq_true rfl) (k8_isRead _ (by first | assumption | grind) (by first | assumption | grind)) ?_
      refine X.vc (fun _ => false) 60 ?_
      simp only [↓vc_zero, ↓vc_succ, ↓vn_app, ↓vd_ok, ↓vx_iconst, ↓vx_bipush, ↓vx_sipush, ↓vx_ldc, ↓vx_iload_n, ↓vx_iload, ↓vx_aload_n, ↓vx_aload, ↓vx_istore_n, ↓vx_istore, ↓vx_iinc, ↓vx_iadd, ↓vx_isub, ↓vx_imul, ↓vx_iand, ↓vx_ior, ↓vx_ixor, ↓vx_ishl, ↓vx_ishr, ↓vx_iushr, ↓vx_dup, ↓vx_dup2, ↓vx_goto, ↓vx_if_icmp, ↓vx_ifCond, ↓vx_getfield, ↓vx_putfield, ↓vx_iaload, ↓vx_iastore, ↓vx_baload, ↓vx_bastore, ↓vx_aaload, ↓vx_ireturn, ↓vx_return, ↓vx_invokevirtual, ↓vx_invokestatic, ↓vx_table, ↓vx_lookup, ↓vld_ok, ↓vldr_ok, ↓vst_ok, ↓vic_ok, ↓vgf_ok, ↓vgo_ok, ↓vpf_f, ↓vpf_t, ↓vpo_ok, ↓vkc_ok, ↓vbr_eq, ↓bz_01, bz_0, bz_1, is_app, mset_app, tnc_ok, wr_app, wr_ms, is59_app, vpn_ok, vpn_bz, Option.some.injEq, Sum.inl.injEq, getL, setL, Option.map_some, fvl_ok, mff_ok, jp, icm, inb_ok, ins_ok, zin_ok, rin_ok, vpi_ok, bip_ok, sip_ok, kcf_ok, vsw, vlk, Bool.false_eq_true, ↓reduceIte, true_and, and_true, and_self, Option.toList, List.cons_append, List.nil_append, Fin.isValue, forall_const, false_implies, implies_true, true_implies, reduceCtorEq, or_false, false_or, true_or, or_true, ne_eq, not_false_eq_true, not_true_eq_false, Classical.not_not, Bool.or_false, Bool.false_or, Bool.or_true, Bool.true_or, nat_int, Nat.reduceAdd, Nat.reduceBEq, Nat.reduceEqDiff, Int32.reduceLT, Int32.reduceLE, Int32.reduceAdd, Int32.reduceSub, Int.reduceAdd, Int.reduceToNat, Int.reduceLE, Int.reduceLT, Int.reduceNeg, Int.reduceSub, Int32.reduceOfInt, Nat.reduceMod, Fin.reduceFinMk, D_X8_hold, rsf_8]
      by_cases c3 : (rdP μ).1 = 0
      · rw [if_pos c3, if_pos c3]
        refine ⟨fun _ => ?_, fun z => absurd c3 z⟩
        obtain ⟨H, hH, hHe⟩ := nIx (M := 11) (n := 11) rfl h4 (by grind : μ 39 20 ≤ 11)
        have hHc : (nI H).toNatClampNeg = H := nI_clamp (by omega)
        have hH0 : 0 ≤ nI H := nI_pos' (by omega)
        have hH1 : nI H < 12 := nI_lt (b := 12) (by omega) (by decide)
        have k20' : irM μ 39 20 = nI H := by rw [k20, hHe]
        have kk : ∀ j, kpm (irM μ) H n 39 j = irM μ 39 j := fun j => kpm_39
        rw [k20']
        refine X.callV1 S_8_180 (by decide +kernel) rcv_39 (by decide) (by decide) (Nat.le_of_ble_eq_true rfl) (k8_keep (irM μ) H n (by omega) k12 hn) ?_
        refine X.vc (fun _ => false) 60 ?_
        simp only [↓vc_zero, ↓vc_succ, ↓vn_app, ↓vd_ok, ↓vx_iconst, ↓vx_bipush, ↓vx_sipush, ↓vx_ldc, ↓vx_iload_n, ↓vx_iload, ↓vx_aload_n, ↓vx_aload, ↓vx_istore_n, ↓vx_istore, ↓vx_iinc, ↓vx_iadd, ↓vx_isub, ↓vx_imul, ↓vx_iand, ↓vx_ior, ↓vx_ixor, ↓vx_ishl, ↓vx_ishr, ↓vx_iushr, ↓vx_dup, ↓vx_dup2, ↓vx_goto, ↓vx_if_icmp, ↓vx_ifCond, ↓vx_getfield, ↓vx_putfield, ↓vx_iaload, ↓vx_iastore, ↓vx_baload, ↓vx_bastore, ↓vx_aaload, ↓vx_ireturn, ↓vx_return, ↓vx_invokevirtual, ↓vx_invokestatic, ↓vx_table, ↓vx_lookup, ↓vld_ok, ↓vldr_ok, ↓vst_ok, ↓vic_ok, ↓vgf_ok, ↓vgo_ok, ↓vpf_f, ↓vpf_t, ↓vpo_ok, ↓vkc_ok, ↓vbr_eq, ↓bz_01, bz_0, bz_1, is_app, mset_app, tnc_ok, wr_app, wr_ms, is59_app, vpn_ok, vpn_bz, Option.some.injEq, Sum.inl.injEq, getL, setL, Option.map_some, fvl_ok, mff_ok, jp, icm, inb_ok, ins_ok, zin_ok, rin_ok, vpi_ok, bip_ok, sip_ok, kcf_ok, vsw, vlk, Bool.false_eq_true, ↓reduceIte, true_and, and_true, and_self, Option.toList, List.cons_append, List.nil_append, Fin.isValue, forall_const, false_implies, implies_true, true_implies, reduceCtorEq, or_false, false_or, true_or, or_true, ne_eq, not_false_eq_true, not_true_eq_false, Classical.not_not, Bool.or_false, Bool.false_or, Bool.or_true, Bool.true_or, nat_int, Nat.reduceAdd, Nat.reduceBEq, Nat.reduceEqDiff, Int32.reduceLT, Int32.reduceLE, Int32.reduceAdd, Int32.reduceSub, Int.reduceAdd, Int.reduceToNat, Int.reduceLE, Int.reduceLT, Int.reduceNeg, Int.reduceSub, Int32.reduceOfInt, Nat.reduceMod, Fin.reduceFinMk, D_X8_hold, rsf_8, kk, k20', hHc, hH0, hH1]
        have ec : (irM μ 54 12).toNatClampNeg = n := by rw [k12]; exact nI_clamp (by omega)
        have e3 : gf_hold1 (irM μ) d = mset (mset (mset (kpm (irM μ) H n) 52 H d) 53 H (-1)) 39 20 (nI H + 1) := by rw [gf_hold1, k20', hHc, ec]
        rw [e3, hHe]
        refine ⟨by grind, rfl⟩
      · rw [if_neg c3, if_neg c3]
        exact ⟨fun z => absurd z c3, fun _ => ⟨rfl, rfl⟩⟩
  · have e1 : rf_hold μ d = -1 := if_neg (fun z => c1 z.1)
    have e2 : gf_hold μ d = μ := if_neg (fun z => c1 z.1)
    rw [e1, e2]
    exact ⟨fun _ => ⟨rfl, rfl⟩, fun z => absurd z c1⟩
