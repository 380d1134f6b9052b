/-! switches -/
theorem tolist_arr {α : Type} (l : List α) : l.toArray.toList = l := by simp
theorem ti_eq {x m : Int32} {n : Int} (h : m.toInt = n) : (x.toInt = n) = (x = m) := by
  apply propext
  rw [← h]
  exact ⟨fun q => Int32.toInt_inj.mp q, fun q => by rw [q]⟩
theorem ti_lt {x m : Int32} {n : Int} (h : m.toInt = n) : (x.toInt < n) = (x < m) := by
  rw [← h, Int32.lt_iff_toInt_lt]
theorem ti_gt {x m : Int32} {n : Int} (h : m.toInt = n) : (n < x.toInt) = (m < x) := by
  rw [← h, Int32.lt_iff_toInt_lt]
theorem ti_ok (x : Int32) : ((x.toInt = 0) = (x = 0)) ∧ ((x.toInt = 1) = (x = 1)) ∧ ((x.toInt = 2) = (x = 2)) ∧ ((x.toInt = 3) = (x = 3)) ∧ ((x.toInt = 4) = (x = 4)) ∧ ((x.toInt = 5) = (x = 5)) ∧ ((x.toInt = 6) = (x = 6)) ∧ ((x.toInt = 7) = (x = 7)) ∧ ((x.toInt = 8) = (x = 8)) ∧ ((x.toInt = 9) = (x = 9)) ∧ ((x.toInt = 10) = (x = 10)) ∧ ((x.toInt = 11) = (x = 11)) ∧ ((x.toInt = 12) = (x = 12)) ∧ ((x.toInt = 13) = (x = 13)) ∧ ((x.toInt = 14) = (x = 14)) ∧ ((x.toInt = 15) = (x = 15)) ∧ ((x.toInt = 16) = (x = 16)) ∧ ((x.toInt = 17) = (x = 17)) ∧ ((x.toInt = 18) = (x = 18)) ∧ ((x.toInt = 19) = (x = 19)) ∧ ((x.toInt = 20) = (x = 20)) ∧ ((x.toInt = 21) = (x = 21)) ∧ ((x.toInt = 22) = (x = 22)) ∧ ((x.toInt = 23) = (x = 23)) ∧ ((x.toInt = 24) = (x = 24)) ∧ ((x.toInt = 33) = (x = 33)) ∧ ((x.toInt = 38) = (x = 38)) ∧ ((x.toInt = 40) = (x = 40)) ∧ ((x.toInt = 41) = (x = 41)) ∧ ((x.toInt = 100) = (x = 100)) ∧ ((x.toInt = 107) = (x = 107)) ∧ ((x.toInt = 112) = (x = 112)) ∧ ((x.toInt = 119) = (x = 119)) ∧ ((x.toInt = 124) = (x = 124)) ∧ ((x.toInt < 0) = (x < 0)) ∧ ((2 < x.toInt) = (2 < x)) ∧ ((5 < x.toInt) = (5 < x)) ∧ ((7 < x.toInt) = (7 < x)) ∧ ((10 < x.toInt) = (10 < x)) ∧ ((24 < x.toInt) = (24 < x)) := ⟨ti_eq rfl, ti_eq rfl, ti_eq rfl, ti_eq rfl, ti_eq rfl, ti_eq rfl, ti_eq rfl, ti_eq rfl, ti_eq rfl, ti_eq rfl, ti_eq rfl, ti_eq rfl, ti_eq rfl, ti_eq rfl, ti_eq rfl, ti_eq rfl, ti_eq rfl, ti_eq rfl, ti_eq rfl, ti_eq rfl, ti_eq rfl, ti_eq rfl, ti_eq rfl, ti_eq rfl, ti_eq rfl, ti_eq rfl, ti_eq rfl, ti_eq rfl, ti_eq rfl, ti_eq rfl, ti_eq rfl, ti_eq rfl, ti_eq rfl, ti_eq rfl, ti_lt rfl, ti_gt rfl, ti_gt rfl, ti_gt rfl, ti_gt rfl, ti_gt rfl⟩
/-! counts -/
def cnt (f : Nat → Bool) : Nat → Int32
  | 0 => 0
  | k + 1 => cnt f k + (if f k = true then 1 else 0)
theorem cnt_s {f : Nat → Bool} {k : Nat} : cnt f (k + 1) = cnt f k + (if f k = true then 1 else 0) := rfl
theorem v_ix {μ : Mem} {v : Int32} (c : 0 ≤ v ∧ v ≤ μ 39 5 - 1) (h4 : 0 ≤ μ 39 5) (h5 : μ 39 5 ≤ 120) : ∃ V : Nat, V < 120 ∧ v = nI V ∧ V < (μ 39 5).toNatClampNeg := by
  obtain ⟨V, hV, hVe⟩ := nIx (x := v) (M := 119) (n := 119) rfl c.1 (by grind)
  obtain ⟨Z, hZ, hZe⟩ := nIx (M := 120) (n := 120) rfl h4 h5
  have h9 : nI V < nI Z := by rw [← hZe, ← hVe]; grind
  have h10 := (nI_ltI (a := V) (b := Z) (by omega) (by omega)).mp h9
  refine ⟨V, by omega, hVe, ?_⟩
  rw [hZe, nI_clamp (by omega)]
  exact h10
/-! would -/
def fwd (μ : Mem) (d w : Int32) (k : Nat) : Bool := decide (¬ μ 46 k = 0 ∧ rf_due μ (nI k) d ∧ (w = 0 ∨ rf_goes μ (nI k) < 0 ∨ d < rf_goes μ (nI k)))
def rf_would (μ : Mem) (d w : Int32) : Int32 := if (μ 39 0 ≤ d ∧ d ≤ 5000) ∧ (0 ≤ w ∧ w ≤ 1) then cnt (fwd μ d w) (μ 39 5).toNatClampNeg else -1
def T9 (μ : Mem) : Prop := ∀ i, i < (μ 39 5).toNatClampNeg → rf_term μ (nI i) ≤ 9000
set_option maxRecDepth 100000 in
set_option maxHeartbeats 1000000 in
theorem k8_would (μ : Mem) (ρ : Nat → Int32) (d w : Int32) (h2 : 0 ≤ μ 39 5) (h3 : μ 39 5 ≤ 120) (hV : VsOk μ) (h4 : 0 ≤ μ 39 20) (h5 : μ 39 20 ≤ 12) (hT : TsOk μ) (r4 : 0 ≤ μ 39 12) (r5 : μ 39 12 ≤ 20) (t9 : T9 μ) (q0 : 0 ≤ μ 39 0) (q1 : μ 39 0 ≤ 5000) : Ct yX8_would 6 cX8_would (some .int) 5 [.inr 39, .inl (d), .inl (w)] (wr μ ρ) (Is59 (some (.inl (rf_would μ d w))) μ) := by
  refine Ct.of (oc := 8) [some (.inr 39), some (.inl (d)), some (.inl (w)), none, none, none] (by decide +kernel) rfl (Nat.le_of_ble_eq_true rfl) rfl ?_
  obtain ⟨N, hNb, hN⟩ := nIx (M := 120) (n := 120) rfl h2 h3
  have e : (μ 39 5).toNatClampNeg = N := by rw [hN]; exact nI_clamp (by omega)
  refine X.vc (fun _ => false) 60 ?_
  simp only [↓vc_zero, ↓vc_succ, ↓vn_app, ↓vd_ok, ↓vx_iconst, ↓vx_bipush, ↓vx_sipush, ↓vx_ldc, ↓vx_iload_n, ↓vx_iload, ↓vx_aload_n, ↓vx_aload, ↓vx_istore_n, ↓vx_istore, ↓vx_iinc, ↓vx_iadd, ↓vx_isub, ↓vx_imul, ↓vx_iand, ↓vx_ior, ↓vx_ixor, ↓vx_ishl, ↓vx_ishr, ↓vx_iushr, ↓vx_dup, ↓vx_dup2, ↓vx_goto, ↓vx_if_icmp, ↓vx_ifCond, ↓vx_getfield, ↓vx_putfield, ↓vx_iaload, ↓vx_iastore, ↓vx_baload, ↓vx_bastore, ↓vx_aaload, ↓vx_ireturn, ↓vx_return, ↓vx_invokevirtual, ↓vx_invokestatic, ↓vx_table, ↓vx_lookup, ↓vld_ok, ↓vldr_ok, ↓vst_ok, ↓vic_ok, ↓vgf_ok, ↓vgo_ok, ↓vpf_f, ↓vpf_t, ↓vpo_ok, ↓vkc_ok, ↓vbr_eq, ↓bz_01, bz_0, bz_1, is_app, mset_app, tnc_ok, wr_app, wr_ms, is59_app, vpn_ok, vpn_bz, Option.some.injEq, Sum.inl.injEq, getL, setL, Option.map_some, fvl_ok, mff_ok, jp, icm, inb_ok, ins_ok, zin_ok, rin_ok, vpi_ok, bip_ok, sip_ok, kcf_ok, vsw, vlk, Bool.false_eq_true, ↓reduceIte, true_and, and_true, and_self, Option.toList, List.cons_append, List.nil_append, Fin.isValue, forall_const, false_implies, implies_true, true_implies, reduceCtorEq, or_false, false_or, true_or, or_true, ne_eq, not_false_eq_true, not_true_eq_false, Classical.not_not, Bool.or_false, Bool.false_or, Bool.or_true, Bool.true_or, nat_int, Nat.reduceAdd, Nat.reduceBEq, Nat.reduceEqDiff, Int32.reduceLT, Int32.reduceLE, Int32.reduceAdd, Int32.reduceSub, Int.reduceAdd, Int.reduceToNat, Int.reduceLE, Int.reduceLT, Int.reduceNeg, Int.reduceSub, Int32.reduceOfInt, Nat.reduceMod, Fin.reduceFinMk, D_X8_would, rsf_8]
  refine X.callS3 S_8_93 (by decide +kernel) (by decide) (by decide) (Nat.le_of_ble_eq_true rfl) (k8_isIn _ _ _ _) ?_
  refine X.vc (fun _ => false) 60 ?_
  simp only [↓vc_zero, ↓vc_succ, ↓vn_app, ↓vd_ok, ↓vx_iconst, ↓vx_bipush, ↓vx_sipush, ↓vx_ldc, ↓vx_iload_n, ↓vx_iload, ↓vx_aload_n, ↓vx_aload, ↓vx_istore_n, ↓vx_istore, ↓vx_iinc, ↓vx_iadd, ↓vx_isub, ↓vx_imul, ↓vx_iand, ↓vx_ior, ↓vx_ixor, ↓vx_ishl, ↓vx_ishr, ↓vx_iushr, ↓vx_dup, ↓vx_dup2, ↓vx_goto, ↓vx_if_icmp, ↓vx_ifCond, ↓vx_getfield, ↓vx_putfield, ↓vx_iaload, ↓vx_iastore, ↓vx_baload, ↓vx_bastore, ↓vx_aaload, ↓vx_ireturn, ↓vx_return, ↓vx_invokevirtual, ↓vx_invokestatic, ↓vx_table, ↓vx_lookup, ↓vld_ok, ↓vldr_ok, ↓vst_ok, ↓vic_ok, ↓vgf_ok, ↓vgo_ok, ↓vpf_f, ↓vpf_t, ↓vpo_ok, ↓vkc_ok, ↓vbr_eq, ↓bz_01, bz_0, bz_1, is_app, mset_app, tnc_ok, wr_app, wr_ms, is59_app, vpn_ok, vpn_bz, Option.some.injEq, Sum.inl.injEq, getL, setL, Option.map_some, fvl_ok, mff_ok, jp, icm, inb_ok, ins_ok, zin_ok, rin_ok, vpi_ok, bip_ok, sip_ok, kcf_ok, vsw, vlk, Bool.false_eq_true, ↓reduceIte, true_and, and_true, and_self, Option.toList, List.cons_append, List.nil_append, Fin.isValue, forall_const, false_implies, implies_true, true_implies, reduceCtorEq, or_false, false_or, true_or, or_true, ne_eq, not_false_eq_true, not_true_eq_false, Classical.not_not, Bool.or_false, Bool.false_or, Bool.or_true, Bool.true_or, nat_int, Nat.reduceAdd, Nat.reduceBEq, Nat.reduceEqDiff, Int32.reduceLT, Int32.reduceLE, Int32.reduceAdd, Int32.reduceSub, Int.reduceAdd, Int.reduceToNat, Int.reduceLE, Int.reduceLT, Int.reduceNeg, Int.reduceSub, Int32.reduceOfInt, Nat.reduceMod, Fin.reduceFinMk, D_X8_would, rsf_8]
  refine ⟨fun c => ?_, fun c => ?_⟩
  · rw [rf_would, if_neg (fun z => c z.1)]
    exact ⟨rfl, ρ, rfl⟩
  refine X.callS3 S_8_93 (by decide +kernel) (by decide) (by decide) (Nat.le_of_ble_eq_true rfl) (k8_isIn _ _ _ _) ?_
  refine X.vc (fun q => q == 30) 60 ?_
  simp only [↓vc_zero, ↓vc_succ, ↓vn_app, ↓vd_ok, ↓vx_iconst, ↓vx_bipush, ↓vx_sipush, ↓vx_ldc, ↓vx_iload_n, ↓vx_iload, ↓vx_aload_n, ↓vx_aload, ↓vx_istore_n, ↓vx_istore, ↓vx_iinc, ↓vx_iadd, ↓vx_isub, ↓vx_imul, ↓vx_iand, ↓vx_ior, ↓vx_ixor, ↓vx_ishl, ↓vx_ishr, ↓vx_iushr, ↓vx_dup, ↓vx_dup2, ↓vx_goto, ↓vx_if_icmp, ↓vx_ifCond, ↓vx_getfield, ↓vx_putfield, ↓vx_iaload, ↓vx_iastore, ↓vx_baload, ↓vx_bastore, ↓vx_aaload, ↓vx_ireturn, ↓vx_return, ↓vx_invokevirtual, ↓vx_invokestatic, ↓vx_table, ↓vx_lookup, ↓vld_ok, ↓vldr_ok, ↓vst_ok, ↓vic_ok, ↓vgf_ok, ↓vgo_ok, ↓vpf_f, ↓vpf_t, ↓vpo_ok, ↓vkc_ok, ↓vbr_eq, ↓bz_01, bz_0, bz_1, is_app, mset_app, tnc_ok, wr_app, wr_ms, is59_app, vpn_ok, vpn_bz, Option.some.injEq, Sum.inl.injEq, getL, setL, Option.map_some, fvl_ok, mff_ok, jp, icm, inb_ok, ins_ok, zin_ok, rin_ok, vpi_ok, bip_ok, sip_ok, kcf_ok, vsw, vlk, Bool.false_eq_true, ↓reduceIte, true_and, and_true, and_self, Option.toList, List.cons_append, List.nil_append, Fin.isValue, forall_const, false_implies, implies_true, true_implies, reduceCtorEq, or_false, false_or, true_or, or_true, ne_eq, not_false_eq_true, not_true_eq_false, Classical.not_not, Bool.or_false, Bool.false_or, Bool.or_true, Bool.true_or, nat_int, Nat.reduceAdd, Nat.reduceBEq, Nat.reduceEqDiff, Int32.reduceLT, Int32.reduceLE, Int32.reduceAdd, Int32.reduceSub, Int.reduceAdd, Int.reduceToNat, Int.reduceLE, Int.reduceLT, Int.reduceNeg, Int.reduceSub, Int32.reduceOfInt, Nat.reduceMod, Fin.reduceFinMk, D_X8_would, rsf_8]
  refine ⟨fun c2 => ?_, fun c2 => ?_⟩
  rotate_left
  · rw [rf_would, if_neg (fun z => c2 z.2)]
    exact ⟨rfl, ρ, rfl⟩
  have er : rf_would μ d w = cnt (fwd μ d w) N := by rw [rf_would, if_pos ⟨c, c2⟩, e]
  rw [er]
  refine dn (N := N) (P := fun k => ∀ ρ, X 8 6 cX8_would (some .int) 5 (wr μ ρ) 30 [some (.inr 39), some (.inl d), some (.inl w), some (.inl (cnt (fwd μ d w) k)), some (.inl (nI k)), none] [] (Is59 (some (.inl (cnt (fwd μ d w) N))) μ)) ?_ ?_ ρ
  · intro ρ
    refine X.vc (fun _ => false) 60 ?_
    simp only [↓vc_zero, ↓vc_succ, ↓vn_app, ↓vd_ok, ↓vx_iconst, ↓vx_bipush, ↓vx_sipush, ↓vx_ldc, ↓vx_iload_n, ↓vx_iload, ↓vx_aload_n, ↓vx_aload, ↓vx_istore_n, ↓vx_istore, ↓vx_iinc, ↓vx_iadd, ↓vx_isub, ↓vx_imul, ↓vx_iand, ↓vx_ior, ↓vx_ixor, ↓vx_ishl, ↓vx_ishr, ↓vx_iushr, ↓vx_dup, ↓vx_dup2, ↓vx_goto, ↓vx_if_icmp, ↓vx_ifCond, ↓vx_getfield, ↓vx_putfield, ↓vx_iaload, ↓vx_iastore, ↓vx_baload, ↓vx_bastore, ↓vx_aaload, ↓vx_ireturn, ↓vx_return, ↓vx_invokevirtual, ↓vx_invokestatic, ↓vx_table, ↓vx_lookup, ↓vld_ok, ↓vldr_ok, ↓vst_ok, ↓vic_ok, ↓vgf_ok, ↓vgo_ok, ↓vpf_f, ↓vpf_t, ↓vpo_ok, ↓vkc_ok, ↓vbr_eq, ↓bz_01, bz_0, bz_1, is_app, mset_app, tnc_ok, wr_app, wr_ms, is59_app, vpn_ok, vpn_bz, Option.some.injEq, Sum.inl.injEq, getL, setL, Option.map_some, fvl_ok, mff_ok, jp, icm, inb_ok, ins_ok, zin_ok, rin_ok, vpi_ok, bip_ok, sip_ok, kcf_ok, vsw, vlk, Bool.false_eq_true, ↓reduceIte, true_and, and_true, and_self, Option.toList, List.cons_append, List.nil_append, Fin.isValue, forall_const, false_implies, implies_true, true_implies, reduceCtorEq, or_false, false_or, true_or, or_true, ne_eq, not_false_eq_true, not_true_eq_false, Classical.not_not, Bool.or_false, Bool.false_or, Bool.or_true, Bool.true_or, nat_int, Nat.reduceAdd, Nat.reduceBEq, Nat.reduceEqDiff, Int32.reduceLT, Int32.reduceLE, Int32.reduceAdd, Int32.reduceSub, Int.reduceAdd, Int.reduceToNat, Int.reduceLE, Int.reduceLT, Int.reduceNeg, Int.reduceSub, Int32.reduceOfInt, Nat.reduceMod, Fin.reduceFinMk, D_X8_would, rsf_8, hN, idx_end]
    exact ⟨rfl, ρ, rfl⟩
  · intro k hk ih ρ
    obtain ⟨i0, i1, i2, i3, i4, i5⟩ := idx (m := 120) rfl hk hNb (by decide)
    obtain ⟨v0, v1, v2, v3⟩ := idv (μ := μ) (v := k) (by omega) (hV k (by omega))
    simp only [cnt_s] at ih
    refine X.vc (fun q => q == 30) 60 ?_
    simp only [↓vc_zero, ↓vc_succ, ↓vn_app, ↓vd_ok, ↓vx_iconst, ↓vx_bipush, ↓vx_sipush, ↓vx_ldc, ↓vx_iload_n, ↓vx_iload, ↓vx_aload_n, ↓vx_aload, ↓vx_istore_n, ↓vx_istore, ↓vx_iinc, ↓vx_iadd, ↓vx_isub, ↓vx_imul, ↓vx_iand, ↓vx_ior, ↓vx_ixor, ↓vx_ishl, ↓vx_ishr, ↓vx_iushr, ↓vx_dup, ↓vx_dup2, ↓vx_goto, ↓vx_if_icmp, ↓vx_ifCond, ↓vx_getfield, ↓vx_putfield, ↓vx_iaload, ↓vx_iastore, ↓vx_baload, ↓vx_bastore, ↓vx_aaload, ↓vx_ireturn, ↓vx_return, ↓vx_invokevirtual, ↓vx_invokestatic, ↓vx_table, ↓vx_lookup, ↓vld_ok, ↓vldr_ok, ↓vst_ok, ↓vic_ok, ↓vgf_ok, ↓vgo_ok, ↓vpf_f, ↓vpf_t, ↓vpo_ok, ↓vkc_ok, ↓vbr_eq, ↓bz_01, bz_0, bz_1, is_app, mset_app, tnc_ok, wr_app, wr_ms, is59_app, vpn_ok, vpn_bz, Option.some.injEq, Sum.inl.injEq, getL, setL, Option.map_some, fvl_ok, mff_ok, jp, icm, inb_ok, ins_ok, zin_ok, rin_ok, vpi_ok, bip_ok, sip_ok, kcf_ok, vsw, vlk, Bool.false_eq_true, ↓reduceIte, true_and, and_true, and_self, Option.toList, List.cons_append, List.nil_append, Fin.isValue, forall_const, false_implies, implies_true, true_implies, reduceCtorEq, or_false, false_or, true_or, or_true, ne_eq, not_false_eq_true, not_true_eq_false, Classical.not_not, Bool.or_false, Bool.false_or, Bool.or_true, Bool.true_or, nat_int, Nat.reduceAdd, Nat.reduceBEq, Nat.reduceEqDiff, Int32.reduceLT, Int32.reduceLE, Int32.reduceAdd, Int32.reduceSub, Int.reduceAdd, Int.reduceToNat, Int.reduceLE, Int.reduceLT, Int.reduceNeg, Int.reduceSub, Int32.reduceOfInt, Nat.reduceMod, Fin.reduceFinMk, D_X8_would, rsf_8, hN, i2, i3, i4, i0, i1]
    refine ⟨fun c => ?_, fun c => ?_⟩
    · have hf : ¬ fwd μ d w k = true := by
        simp only [fwd, decide_eq_true_eq]
        exact fun z => z.1 c
      rw [if_neg hf, Int32.add_zero] at ih
      exact ih ρ
    · refine X.callV2 S_8_216 (by decide +kernel) rcv_39 (by decide) (by decide) (Nat.le_of_ble_eq_true rfl) (k8_isDue (wr μ ρ) (nI k) d v0 v1 v2 v3 r4 r5) ?_
      refine X.vc (fun q => q == 30) 60 ?_
      simp only [↓vc_zero, ↓vc_succ, ↓vn_app, ↓vd_ok, ↓vx_iconst, ↓vx_bipush, ↓vx_sipush, ↓vx_ldc, ↓vx_iload_n, ↓vx_iload, ↓vx_aload_n, ↓vx_aload, ↓vx_istore_n, ↓vx_istore, ↓vx_iinc, ↓vx_iadd, ↓vx_isub, ↓vx_imul, ↓vx_iand, ↓vx_ior, ↓vx_ixor, ↓vx_ishl, ↓vx_ishr, ↓vx_iushr, ↓vx_dup, ↓vx_dup2, ↓vx_goto, ↓vx_if_icmp, ↓vx_ifCond, ↓vx_getfield, ↓vx_putfield, ↓vx_iaload, ↓vx_iastore, ↓vx_baload, ↓vx_bastore, ↓vx_aaload, ↓vx_ireturn, ↓vx_return, ↓vx_invokevirtual, ↓vx_invokestatic, ↓vx_table, ↓vx_lookup, ↓vld_ok, ↓vldr_ok, ↓vst_ok, ↓vic_ok, ↓vgf_ok, ↓vgo_ok, ↓vpf_f, ↓vpf_t, ↓vpo_ok, ↓vkc_ok, ↓vbr_eq, ↓bz_01, bz_0, bz_1, is_app, mset_app, tnc_ok, wr_app, wr_ms, is59_app, vpn_ok, vpn_bz, Option.some.injEq, Sum.inl.injEq, getL, setL, Option.map_some, fvl_ok, mff_ok, jp, icm, inb_ok, ins_ok, zin_ok, rin_ok, vpi_ok, bip_ok, sip_ok, kcf_ok, vsw, vlk, Bool.false_eq_true, ↓reduceIte, true_and, and_true, and_self, Option.toList, List.cons_append, List.nil_append, Fin.isValue, forall_const, false_implies, implies_true, true_implies, reduceCtorEq, or_false, false_or, true_or, or_true, ne_eq, not_false_eq_true, not_true_eq_false, Classical.not_not, Bool.or_false, Bool.false_or, Bool.or_true, Bool.true_or, nat_int, Nat.reduceAdd, Nat.reduceBEq, Nat.reduceEqDiff, Int32.reduceLT, Int32.reduceLE, Int32.reduceAdd, Int32.reduceSub, Int.reduceAdd, Int.reduceToNat, Int.reduceLE, Int.reduceLT, Int.reduceNeg, Int.reduceSub, Int32.reduceOfInt, Nat.reduceMod, Fin.reduceFinMk, D_X8_would, rsf_8, i4, rf_due_wr]
      refine ⟨fun c3 => ⟨fun c4 => ?_, fun c4 => ?_⟩, fun c3 => ?_⟩
      · refine X.callV1g S_8_228 (by decide +kernel) rcv_39 (by decide) (by decide) (Nat.le_of_ble_eq_true rfl) (k8_goesOn μ ρ k (by omega) (hV k (by omega)) h4 h5 hT r4 r5 (t9 k (by omega)) q0 q1) ?_
        rintro r μ' ⟨rfl, ρ', rfl⟩
        refine X.vc (fun q => q == 30) 60 ?_
        simp only [↓vc_zero, ↓vc_succ, ↓vn_app, ↓vd_ok, ↓vx_iconst, ↓vx_bipush, ↓vx_sipush, ↓vx_ldc, ↓vx_iload_n, ↓vx_iload, ↓vx_aload_n, ↓vx_aload, ↓vx_istore_n, ↓vx_istore, ↓vx_iinc, ↓vx_iadd, ↓vx_isub, ↓vx_imul, ↓vx_iand, ↓vx_ior, ↓vx_ixor, ↓vx_ishl, ↓vx_ishr, ↓vx_iushr, ↓vx_dup, ↓vx_dup2, ↓vx_goto, ↓vx_if_icmp, ↓vx_ifCond, ↓vx_getfield, ↓vx_putfield, ↓vx_iaload, ↓vx_iastore, ↓vx_baload, ↓vx_bastore, ↓vx_aaload, ↓vx_ireturn, ↓vx_return, ↓vx_invokevirtual, ↓vx_invokestatic, ↓vx_table, ↓vx_lookup, ↓vld_ok, ↓vldr_ok, ↓vst_ok, ↓vic_ok, ↓vgf_ok, ↓vgo_ok, ↓vpf_f, ↓vpf_t, ↓vpo_ok, ↓vkc_ok, ↓vbr_eq, ↓bz_01, bz_0, bz_1, is_app, mset_app, tnc_ok, wr_app, wr_ms, is59_app, vpn_ok, vpn_bz, Option.some.injEq, Sum.inl.injEq, getL, setL, Option.map_some, fvl_ok, mff_ok, jp, icm, inb_ok, ins_ok, zin_ok, rin_ok, vpi_ok, bip_ok, sip_ok, kcf_ok, vsw, vlk, Bool.false_eq_true, ↓reduceIte, true_and, and_true, and_self, Option.toList, List.cons_append, List.nil_append, Fin.isValue, forall_const, false_implies, implies_true, true_implies, reduceCtorEq, or_false, false_or, true_or, or_true, ne_eq, not_false_eq_true, not_true_eq_false, Classical.not_not, Bool.or_false, Bool.false_or, Bool.or_true, Bool.true_or, nat_int, Nat.reduceAdd, Nat.reduceBEq, Nat.reduceEqDiff, Int32.reduceLT, Int32.reduceLE, Int32.reduceAdd, Int32.reduceSub, Int.reduceAdd, Int.reduceToNat, Int.reduceLE, Int.reduceLT, Int.reduceNeg, Int.reduceSub, Int32.reduceOfInt, Nat.reduceMod, Fin.reduceFinMk, D_X8_would, rsf_8, i4, c4]
        refine ⟨fun c5 => ?_, fun c5 => ⟨fun c6 => ?_, fun c6 => ?_⟩⟩
        · rw [if_pos (by simp only [fwd, decide_eq_true_eq]; exact ⟨c, c3, Or.inr (Or.inl c5)⟩)] at ih
          exact X.drop 5 (ih ρ')
        · have hf : ¬ fwd μ d w k = true := by
            simp only [fwd, decide_eq_true_eq]
            rintro ⟨-, -, z | z | z⟩
            · exact c4 z
            · exact c5 z
            · grind
          rw [if_neg hf] at ih
          exact X.drop 5 (ih ρ')
        · rw [if_pos (by simp only [fwd, decide_eq_true_eq]; exact ⟨c, c3, Or.inr (Or.inr (by grind))⟩)] at ih
          exact X.drop 5 (ih ρ')
      · rw [if_pos (by simp only [fwd, decide_eq_true_eq]; exact ⟨c, c3, Or.inl c4⟩)] at ih
        exact ⟨fun _ => X.drop 5 (ih ρ), fun z => absurd c4 z⟩
      · have hf : ¬ fwd μ d w k = true := by
          simp only [fwd, decide_eq_true_eq]
          exact fun z => c3 z.2.1
        rw [if_neg hf, Int32.add_zero] at ih
        exact ih ρ
