/-! touch: the reference, both sides -/
def fth (n : Mem) (H : Nat) (w : Int32) (k : Nat) : Bool := decide (¬ n 46 k = 0 ∧ ¬ rf_fit n 12 (nI k) = rf_fit n H (nI k) ∧ rf_fit n 12 (nI k) = decide (w = 0))
abbrev ok_touch (μ : Mem) (h w : Int32) : Prop := (0 ≤ h ∧ h ≤ μ 39 20 - 1) ∧ (0 ≤ w ∧ w ≤ 1)
def rf_touch (μ : Mem) (h w : Int32) : Int32 := if ok_touch μ h w then (if (rdP μ).1 = 0 then cnt (fth (irM μ) h.toNatClampNeg w) (μ 39 5).toNatClampNeg else -1) else -1
def gf_touch (μ : Mem) (h w : Int32) : Mem := if ok_touch μ h w then irM μ else μ
theorem bz_b {a b : Bool} : (bz (a = true) = bz (b = true)) ↔ a = b := by
  cases a <;> cases b <;> decide
theorem bz_1b {a : Bool} : (bz (a = true) = 1) ↔ a = true := by cases a <;> decide
theorem bz_0b {a : Bool} : (bz (a = true) = 0) ↔ a = false := by cases a <;> decide
set_option maxRecDepth 100000 in
set_option maxHeartbeats 1000000 in
theorem tc_loop (n : Mem) (H : Nat) (w : Int32) (N : Nat) (hH : H < 12) (hNb : N ≤ 120) (hN : n 39 5 = nI N) (hV : ∀ k, k < N → VOk n k) (hT : TOk n H) (hT2 : TOk n 12) : ∀ ρ, X 8 5 cX8_touch (some .int) 7 (wr n ρ) 31 [some (.inr 39), some (.inl (nI H)), some (.inl w), some (.inl (cnt (fth n H w) 0)), some (.inl (nI 0))] [] (Is59 (some (.inl (cnt (fth n H w) N))) n) := by

  refine dn (N := N) (P := fun k => ∀ ρ, X 8 5 cX8_touch (some .int) 7 (wr n ρ) 31 [some (.inr 39), some (.inl (nI H)), some (.inl w), some (.inl (cnt (fth n H w) k)), some (.inl (nI k))] [] (Is59 (some (.inl (cnt (fth n H w) N))) n)) ?_ ?_
  · intro ρ
    refine X.vc (fun _ => false) 60 ?_
    simp only [↓vc_zero, ↓vc_succ, ↓vn_app, ↓vd_ok, ↓vx_iconst, ↓vx_bipush, ↓vx_sipush, ↓vx_ldc, ↓vx_iload_n, ↓vx_iload, ↓vx_aload_n, ↓vx_aload, ↓vx_istore_n, ↓vx_istore, ↓vx_iinc, ↓vx_iadd, ↓vx_isub, ↓vx_imul, ↓vx_iand, ↓vx_ior, ↓vx_ixor, ↓vx_ishl, ↓vx_ishr, ↓vx_iushr, ↓vx_dup, ↓vx_dup2, ↓vx_goto, ↓vx_if_icmp, ↓vx_ifCond, ↓vx_getfield, ↓vx_putfield, ↓vx_iaload, ↓vx_iastore, ↓vx_baload, ↓vx_bastore, ↓vx_aaload, ↓vx_ireturn, ↓vx_return, ↓vx_invokevirtual, ↓vx_invokestatic, ↓vx_table, ↓vx_lookup, ↓vld_ok, ↓vldr_ok, ↓vst_ok, ↓vic_ok, ↓vgf_ok, ↓vgo_ok, ↓vpf_f, ↓vpf_t, ↓vpo_ok, ↓vkc_ok, ↓vbr_eq, ↓bz_01, bz_0, bz_1, is_app, mset_app, tnc_ok, wr_app, wr_ms, is59_app, vpn_ok, vpn_bz, Option.some.injEq, Sum.inl.injEq, getL, setL, Option.map_some, fvl_ok, mff_ok, jp, icm, inb_ok, ins_ok, zin_ok, rin_ok, vpi_ok, bip_ok, sip_ok, kcf_ok, vsw, vlk, Bool.false_eq_true, ↓reduceIte, true_and, and_true, and_self, Option.toList, List.cons_append, List.nil_append, Fin.isValue, forall_const, false_implies, implies_true, true_implies, reduceCtorEq, or_false, false_or, true_or, or_true, ne_eq, not_false_eq_true, not_true_eq_false, Classical.not_not, Bool.or_false, Bool.false_or, Bool.or_true, Bool.true_or, nat_int, Nat.reduceAdd, Nat.reduceBEq, Nat.reduceEqDiff, Int32.reduceLT, Int32.reduceLE, Int32.reduceAdd, Int32.reduceSub, Int.reduceAdd, Int.reduceToNat, Int.reduceLE, Int.reduceLT, Int.reduceNeg, Int.reduceSub, Int32.reduceOfInt, Nat.reduceMod, Fin.reduceFinMk, D_X8_touch, rsf_8, hN, idx_end]
    exact ⟨rfl, ρ, rfl⟩
  · intro k hk ih ρ
    obtain ⟨i0, i1, i2, i3, i4, i5⟩ := idx (m := 120) rfl hk hNb (by decide)
    simp only [cnt_s] at ih
    have no : ∀ ρ, ¬ fth n H w k = true → X 8 5 cX8_touch (some .int) 7 (wr n ρ) 31 [some (.inr 39), some (.inl (nI H)), some (.inl w), some (.inl (cnt (fth n H w) k)), some (.inl (nI (k + 1)))] [] (Is59 (some (.inl (cnt (fth n H w) N))) n) := fun ρ hf => by
      have := ih ρ
      rw [if_neg hf, Int32.add_zero] at this
      exact this
    have yes : ∀ ρ, fth n H w k = true → X 8 5 cX8_touch (some .int) 7 (wr n ρ) 31 [some (.inr 39), some (.inl (nI H)), some (.inl w), some (.inl (cnt (fth n H w) k + 1)), some (.inl (nI (k + 1)))] [] (Is59 (some (.inl (cnt (fth n H w) N))) n) := fun ρ hf => by
      have := ih ρ
      rw [if_pos hf] at this
      exact this
    refine X.vc (fun q => q == 31) 60 ?_
    simp only [↓vc_zero, ↓vc_succ, ↓vn_app, ↓vd_ok, ↓vx_iconst, ↓vx_bipush, ↓vx_sipush, ↓vx_ldc, ↓vx_iload_n, ↓vx_iload, ↓vx_aload_n, ↓vx_aload, ↓vx_istore_n, ↓vx_istore, ↓vx_iinc, ↓vx_iadd, ↓vx_isub, ↓vx_imul, ↓vx_iand, ↓vx_ior, ↓vx_ixor, ↓vx_ishl, ↓vx_ishr, ↓vx_iushr, ↓vx_dup, ↓vx_dup2, ↓vx_goto, ↓vx_if_icmp, ↓vx_ifCond, ↓vx_getfield, ↓vx_putfield, ↓vx_iaload, ↓vx_iastore, ↓vx_baload, ↓vx_bastore, ↓vx_aaload, ↓vx_ireturn, ↓vx_return, ↓vx_invokevirtual, ↓vx_invokestatic, ↓vx_table, ↓vx_lookup, ↓vld_ok, ↓vldr_ok, ↓vst_ok, ↓vic_ok, ↓vgf_ok, ↓vgo_ok, ↓vpf_f, ↓vpf_t, ↓vpo_ok, ↓vkc_ok, ↓vbr_eq, ↓bz_01, bz_0, bz_1, is_app, mset_app, tnc_ok, wr_app, wr_ms, is59_app, vpn_ok, vpn_bz, Option.some.injEq, Sum.inl.injEq, getL, setL, Option.map_some, fvl_ok, mff_ok, jp, icm, inb_ok, ins_ok, zin_ok, rin_ok, vpi_ok, bip_ok, sip_ok, kcf_ok, vsw, vlk, Bool.false_eq_true, ↓reduceIte, true_and, and_true, and_self, Option.toList, List.cons_append, List.nil_append, Fin.isValue, forall_const, false_implies, implies_true, true_implies, reduceCtorEq, or_false, false_or, true_or, or_true, ne_eq, not_false_eq_true, not_true_eq_false, Classical.not_not, Bool.or_false, Bool.false_or, Bool.or_true, Bool.true_or, nat_int, Nat.reduceAdd, Nat.reduceBEq, Nat.reduceEqDiff, Int32.reduceLT, Int32.reduceLE, Int32.reduceAdd, Int32.reduceSub, Int.reduceAdd, Int.reduceToNat, Int.reduceLE, Int.reduceLT, Int.reduceNeg, Int.reduceSub, Int32.reduceOfInt, Nat.reduceMod, Fin.reduceFinMk, D_X8_touch, rsf_8, hN, i2, i3, i4, i0, i1]
    by_cases c1 : n 46 k = 0
    · (refine ⟨fun z => ?_, fun z => ?_⟩ <;> first | exact absurd z c1 | exact absurd c1 z | exact no ρ (by simp only [fth, decide_eq_true_eq]; exact fun y => y.1 c1))
    (refine ⟨fun z => ?_, fun z => ?_⟩ <;> first | exact absurd z c1 | exact absurd c1 z | skip)
    refine X.callV2g S_8_193 (by decide +kernel) rcv_39 (by decide) (by decide) (Nat.le_of_ble_eq_true rfl) (k8_isFitw n ρ 12 k (by decide) (by omega) (hV k hk) hT2) ?_
    rintro r μ' ⟨rfl, ρ2, rfl⟩
    refine X.vc (fun q => q == 31) 60 ?_
    simp only [↓vc_zero, ↓vc_succ, ↓vn_app, ↓vd_ok, ↓vx_iconst, ↓vx_bipush, ↓vx_sipush, ↓vx_ldc, ↓vx_iload_n, ↓vx_iload, ↓vx_aload_n, ↓vx_aload, ↓vx_istore_n, ↓vx_istore, ↓vx_iinc, ↓vx_iadd, ↓vx_isub, ↓vx_imul, ↓vx_iand, ↓vx_ior, ↓vx_ixor, ↓vx_ishl, ↓vx_ishr, ↓vx_iushr, ↓vx_dup, ↓vx_dup2, ↓vx_goto, ↓vx_if_icmp, ↓vx_ifCond, ↓vx_getfield, ↓vx_putfield, ↓vx_iaload, ↓vx_iastore, ↓vx_baload, ↓vx_bastore, ↓vx_aaload, ↓vx_ireturn, ↓vx_return, ↓vx_invokevirtual, ↓vx_invokestatic, ↓vx_table, ↓vx_lookup, ↓vld_ok, ↓vldr_ok, ↓vst_ok, ↓vic_ok, ↓vgf_ok, ↓vgo_ok, ↓vpf_f, ↓vpf_t, ↓vpo_ok, ↓vkc_ok, ↓vbr_eq, ↓bz_01, bz_0, bz_1, is_app, mset_app, tnc_ok, wr_app, wr_ms, is59_app, vpn_ok, vpn_bz, Option.some.injEq, Sum.inl.injEq, getL, setL, Option.map_some, fvl_ok, mff_ok, jp, icm, inb_ok, ins_ok, zin_ok, rin_ok, vpi_ok, bip_ok, sip_ok, kcf_ok, vsw, vlk, Bool.false_eq_true, ↓reduceIte, true_and, and_true, and_self, Option.toList, List.cons_append, List.nil_append, Fin.isValue, forall_const, false_implies, implies_true, true_implies, reduceCtorEq, or_false, false_or, true_or, or_true, ne_eq, not_false_eq_true, not_true_eq_false, Classical.not_not, Bool.or_false, Bool.false_or, Bool.or_true, Bool.true_or, nat_int, Nat.reduceAdd, Nat.reduceBEq, Nat.reduceEqDiff, Int32.reduceLT, Int32.reduceLE, Int32.reduceAdd, Int32.reduceSub, Int.reduceAdd, Int.reduceToNat, Int.reduceLE, Int.reduceLT, Int.reduceNeg, Int.reduceSub, Int32.reduceOfInt, Nat.reduceMod, Fin.reduceFinMk, D_X8_touch, rsf_8]
    refine X.callV2g S_8_193 (by decide +kernel) rcv_39 (by decide) (by decide) (Nat.le_of_ble_eq_true rfl) (k8_isFitw n ρ2 H k (by omega) (by omega) (hV k hk) hT) ?_
    rintro r μ' ⟨rfl, ρ3, rfl⟩
    refine X.vc (fun q => q == 31) 60 ?_
    simp only [↓vc_zero, ↓vc_succ, ↓vn_app, ↓vd_ok, ↓vx_iconst, ↓vx_bipush, ↓vx_sipush, ↓vx_ldc, ↓vx_iload_n, ↓vx_iload, ↓vx_aload_n, ↓vx_aload, ↓vx_istore_n, ↓vx_istore, ↓vx_iinc, ↓vx_iadd, ↓vx_isub, ↓vx_imul, ↓vx_iand, ↓vx_ior, ↓vx_ixor, ↓vx_ishl, ↓vx_ishr, ↓vx_iushr, ↓vx_dup, ↓vx_dup2, ↓vx_goto, ↓vx_if_icmp, ↓vx_ifCond, ↓vx_getfield, ↓vx_putfield, ↓vx_iaload, ↓vx_iastore, ↓vx_baload, ↓vx_bastore, ↓vx_aaload, ↓vx_ireturn, ↓vx_return, ↓vx_invokevirtual, ↓vx_invokestatic, ↓vx_table, ↓vx_lookup, ↓vld_ok, ↓vldr_ok, ↓vst_ok, ↓vic_ok, ↓vgf_ok, ↓vgo_ok, ↓vpf_f, ↓vpf_t, ↓vpo_ok, ↓vkc_ok, ↓vbr_eq, ↓bz_01, bz_0, bz_1, is_app, mset_app, tnc_ok, wr_app, wr_ms, is59_app, vpn_ok, vpn_bz, Option.some.injEq, Sum.inl.injEq, getL, setL, Option.map_some, fvl_ok, mff_ok, jp, icm, inb_ok, ins_ok, zin_ok, rin_ok, vpi_ok, bip_ok, sip_ok, kcf_ok, vsw, vlk, Bool.false_eq_true, ↓reduceIte, true_and, and_true, and_self, Option.toList, List.cons_append, List.nil_append, Fin.isValue, forall_const, false_implies, implies_true, true_implies, reduceCtorEq, or_false, false_or, true_or, or_true, ne_eq, not_false_eq_true, not_true_eq_false, Classical.not_not, Bool.or_false, Bool.false_or, Bool.or_true, Bool.true_or, nat_int, Nat.reduceAdd, Nat.reduceBEq, Nat.reduceEqDiff, Int32.reduceLT, Int32.reduceLE, Int32.reduceAdd, Int32.reduceSub, Int.reduceAdd, Int.reduceToNat, Int.reduceLE, Int.reduceLT, Int.reduceNeg, Int.reduceSub, Int32.reduceOfInt, Nat.reduceMod, Fin.reduceFinMk, D_X8_touch, rsf_8, i4]
    by_cases c2 : rf_fit n 12 (nI k) = rf_fit n H (nI k)
    · have c2' := bz_b.mpr c2
      (refine ⟨fun z => ?_, fun z => ?_⟩ <;> first | exact absurd z c2' | exact absurd c2' z | exact no ρ3 (by simp only [fth, decide_eq_true_eq]; exact fun y => y.2.1 c2))
    have c2' : ¬ bz (rf_fit n 12 (nI k) = true) = bz (rf_fit n H (nI k) = true) := fun z => c2 (bz_b.mp z)
    (refine ⟨fun z => ?_, fun z => ?_⟩ <;> first | exact absurd z c2' | exact absurd c2' z | skip)
    refine X.callV2g S_8_193 (by decide +kernel) rcv_39 (by decide) (by decide) (Nat.le_of_ble_eq_true rfl) (k8_isFitw n ρ3 12 k (by decide) (by omega) (hV k hk) hT2) ?_
    rintro r μ' ⟨rfl, ρ4, rfl⟩
    refine X.vc (fun q => q == 31) 60 ?_
    simp only [↓vc_zero, ↓vc_succ, ↓vn_app, ↓vd_ok, ↓vx_iconst, ↓vx_bipush, ↓vx_sipush, ↓vx_ldc, ↓vx_iload_n, ↓vx_iload, ↓vx_aload_n, ↓vx_aload, ↓vx_istore_n, ↓vx_istore, ↓vx_iinc, ↓vx_iadd, ↓vx_isub, ↓vx_imul, ↓vx_iand, ↓vx_ior, ↓vx_ixor, ↓vx_ishl, ↓vx_ishr, ↓vx_iushr, ↓vx_dup, ↓vx_dup2, ↓vx_goto, ↓vx_if_icmp, ↓vx_ifCond, ↓vx_getfield, ↓vx_putfield, ↓vx_iaload, ↓vx_iastore, ↓vx_baload, ↓vx_bastore, ↓vx_aaload, ↓vx_ireturn, ↓vx_return, ↓vx_invokevirtual, ↓vx_invokestatic, ↓vx_table, ↓vx_lookup, ↓vld_ok, ↓vldr_ok, ↓vst_ok, ↓vic_ok, ↓vgf_ok, ↓vgo_ok, ↓vpf_f, ↓vpf_t, ↓vpo_ok, ↓vkc_ok, ↓vbr_eq, ↓bz_01, bz_0, bz_1, is_app, mset_app, tnc_ok, wr_app, wr_ms, is59_app, vpn_ok, vpn_bz, Option.some.injEq, Sum.inl.injEq, getL, setL, Option.map_some, fvl_ok, mff_ok, jp, icm, inb_ok, ins_ok, zin_ok, rin_ok, vpi_ok, bip_ok, sip_ok, kcf_ok, vsw, vlk, Bool.false_eq_true, ↓reduceIte, true_and, and_true, and_self, Option.toList, List.cons_append, List.nil_append, Fin.isValue, forall_const, false_implies, implies_true, true_implies, reduceCtorEq, or_false, false_or, true_or, or_true, ne_eq, not_false_eq_true, not_true_eq_false, Classical.not_not, Bool.or_false, Bool.false_or, Bool.or_true, Bool.true_or, nat_int, Nat.reduceAdd, Nat.reduceBEq, Nat.reduceEqDiff, Int32.reduceLT, Int32.reduceLE, Int32.reduceAdd, Int32.reduceSub, Int.reduceAdd, Int.reduceToNat, Int.reduceLE, Int.reduceLT, Int.reduceNeg, Int.reduceSub, Int32.reduceOfInt, Nat.reduceMod, Fin.reduceFinMk, D_X8_touch, rsf_8, i4]
    by_cases w0 : w = 0
    · (refine ⟨fun z => ?_, fun z => ?_⟩ <;> first | exact absurd z w0 | exact absurd w0 z | skip)
      by_cases c3 : rf_fit n 12 (nI k) = true
      · have hf : fth n H w k = true := by simp only [fth, decide_eq_true_eq]; exact ⟨c1, c2, by rw [c3, decide_eq_true w0]⟩
        (refine ⟨fun z => ?_, fun z => ?_⟩ <;> first | exact absurd c3 z | exact absurd (bz_1b.mpr c3) z | exact yes ρ4 hf)
      · have hf : ¬ fth n H w k = true := by simp only [fth, decide_eq_true_eq]; exact fun y => c3 (by rw [y.2.2, decide_eq_true w0])
        (refine ⟨fun z => ?_, fun z => ?_⟩ <;> first | exact absurd z c3 | exact absurd (bz_1b.mp z) c3 | exact no ρ4 hf)
    · (refine ⟨fun z => ?_, fun z => ?_⟩ <;> first | exact absurd z w0 | exact absurd w0 z | skip)
      by_cases c3 : rf_fit n 12 (nI k) = true
      · have hf : ¬ fth n H w k = true := by simp only [fth, decide_eq_true_eq]; exact fun y => by rw [y.2.2, decide_eq_false w0] at c3; cases c3
        (refine ⟨fun z => ?_, fun z => ?_⟩ <;> first | exact absurd c3 z | exact absurd (bz_0b.mp z) (by rw [c3]; decide) | exact no ρ4 hf)
      · have c4 : rf_fit n 12 (nI k) = false := by cases hb : rf_fit n 12 (nI k) <;> simp_all
        have hf : fth n H w k = true := by simp only [fth, decide_eq_true_eq]; exact ⟨c1, c2, by rw [c4, decide_eq_false w0]⟩
        (refine ⟨fun z => ?_, fun z => ?_⟩ <;> first | exact absurd z c3 | exact absurd (bz_0b.mpr c4) z | exact yes ρ4 hf)
set_option maxRecDepth 100000 in
set_option maxHeartbeats 1000000 in
theorem k8_touch (μ : Mem) (h w : Int32) (t0 : 0 ≤ μ 39 19) (t1 : μ 39 19 ≤ 60) (h2 : 0 ≤ μ 39 5) (h3 : μ 39 5 ≤ 120) (h4 : 0 ≤ μ 39 20) (h5 : μ 39 20 ≤ 12) (e5 : irM μ 39 5 = μ 39 5) (e20 : irM μ 39 20 = μ 39 20) (hV : VsOk (irM μ)) (hT : TsOk (irM μ)) (hT2 : (rdP μ).1 = 0 → TOk (irM μ) 12) : Ct yX8_touch 5 cX8_touch (some .int) 7 [.inr 39, .inl (h), .inl (w)] μ (Is59 (some (.inl (rf_touch μ h w))) (gf_touch μ h w)) := by
  refine Ct.of (oc := 8) [some (.inr 39), some (.inl (h)), some (.inl (w)), none, none] (by decide +kernel) rfl (Nat.le_of_ble_eq_true rfl) rfl ?_
  obtain ⟨N, hNb, hN⟩ := nIx (M := 120) (n := 120) rfl h2 h3
  have eN : (μ 39 5).toNatClampNeg = N := by rw [hN]; exact nI_clamp (by omega)
  have fin0 : ∀ m : Mem, Is59 (some (.inl (-1 : Int32))) m (some (.inl (-1))) m := fun m => ⟨rfl, m 59, (wr_self m).symm⟩
  refine X.vc (fun _ => false) 60 ?_
  simp only [↓vc_zero, ↓vc_succ, ↓vn_app, ↓vd_ok, ↓vx_iconst, ↓vx_bipush, ↓vx_sipush, ↓vx_ldc, ↓vx_iload_n, ↓vx_iload, ↓vx_aload_n, ↓vx_aload, ↓vx_istore_n, ↓vx_istore, ↓vx_iinc, ↓vx_iadd, ↓vx_isub, ↓vx_imul, ↓vx_iand, ↓vx_ior, ↓vx_ixor, ↓vx_ishl, ↓vx_ishr, ↓vx_iushr, ↓vx_dup, ↓vx_dup2, ↓vx_goto, ↓vx_if_icmp, ↓vx_ifCond, ↓vx_getfield, ↓vx_putfield, ↓vx_iaload, ↓vx_iastore, ↓vx_baload, ↓vx_bastore, ↓vx_aaload, ↓vx_ireturn, ↓vx_return, ↓vx_invokevirtual, ↓vx_invokestatic, ↓vx_table, ↓vx_lookup, ↓vld_ok, ↓vldr_ok, ↓vst_ok, ↓vic_ok, ↓vgf_ok, ↓vgo_ok, ↓vpf_f, ↓vpf_t, ↓vpo_ok, ↓vkc_ok, ↓vbr_eq, ↓bz_01, bz_0, bz_1, is_app, mset_app, tnc_ok, wr_app, wr_ms, is59_app, vpn_ok, vpn_bz, Option.some.injEq, Sum.inl.injEq, getL, setL, Option.map_some, fvl_ok, mff_ok, jp, icm, inb_ok, ins_ok, zin_ok, rin_ok, vpi_ok, bip_ok, sip_ok, kcf_ok, vsw, vlk, Bool.false_eq_true, ↓reduceIte, true_and, and_true, and_self, Option.toList, List.cons_append, List.nil_append, Fin.isValue, forall_const, false_implies, implies_true, true_implies, reduceCtorEq, or_false, false_or, true_or, or_true, ne_eq, not_false_eq_true, not_true_eq_false, Classical.not_not, Bool.or_false, Bool.false_or, Bool.or_true, Bool.true_or, nat_int, Nat.reduceAdd, Nat.reduceBEq, Nat.reduceEqDiff, Int32.reduceLT, Int32.reduceLE, Int32.reduceAdd, Int32.reduceSub, Int.reduceAdd, Int.reduceToNat, Int.reduceLE, Int.reduceLT, Int.reduceNeg, Int.reduceSub, Int32.reduceOfInt, Nat.reduceMod, Fin.reduceFinMk, D_X8_touch, rsf_8]
  refine X.callV1 S_8_183 (by decide +kernel) rcv_39 (by decide) (by decide) (Nat.le_of_ble_eq_true rfl) (k8_isHold _ _) ?_
  refine X.vc (fun _ => false) 60 ?_
  simp only [↓vc_zero, ↓vc_succ, ↓vn_app, ↓vd_ok, ↓vx_iconst, ↓vx_bipush, ↓vx_sipush, ↓vx_ldc, ↓vx_iload_n, ↓vx_iload, ↓vx_aload_n, ↓vx_aload, ↓vx_istore_n, ↓vx_istore, ↓vx_iinc, ↓vx_iadd, ↓vx_isub, ↓vx_imul, ↓vx_iand, ↓vx_ior, ↓vx_ixor, ↓vx_ishl, ↓vx_ishr, ↓vx_iushr, ↓vx_dup, ↓vx_dup2, ↓vx_goto, ↓vx_if_icmp, ↓vx_ifCond, ↓vx_getfield, ↓vx_putfield, ↓vx_iaload, ↓vx_iastore, ↓vx_baload, ↓vx_bastore, ↓vx_aaload, ↓vx_ireturn, ↓vx_return, ↓vx_invokevirtual, ↓vx_invokestatic, ↓vx_table, ↓vx_lookup, ↓vld_ok, ↓vldr_ok, ↓vst_ok, ↓vic_ok, ↓vgf_ok, ↓vgo_ok, ↓vpf_f, ↓vpf_t, ↓vpo_ok, ↓vkc_ok, ↓vbr_eq, ↓bz_01, bz_0, bz_1, is_app, mset_app, tnc_ok, wr_app, wr_ms, is59_app, vpn_ok, vpn_bz, Option.some.injEq, Sum.inl.injEq, getL, setL, Option.map_some, fvl_ok, mff_ok, jp, icm, inb_ok, ins_ok, zin_ok, rin_ok, vpi_ok, bip_ok, sip_ok, kcf_ok, vsw, vlk, Bool.false_eq_true, ↓reduceIte, true_and, and_true, and_self, Option.toList, List.cons_append, List.nil_append, Fin.isValue, forall_const, false_implies, implies_true, true_implies, reduceCtorEq, or_false, false_or, true_or, or_true, ne_eq, not_false_eq_true, not_true_eq_false, Classical.not_not, Bool.or_false, Bool.false_or, Bool.or_true, Bool.true_or, nat_int, Nat.reduceAdd, Nat.reduceBEq, Nat.reduceEqDiff, Int32.reduceLT, Int32.reduceLE, Int32.reduceAdd, Int32.reduceSub, Int.reduceAdd, Int.reduceToNat, Int.reduceLE, Int.reduceLT, Int.reduceNeg, Int.reduceSub, Int32.reduceOfInt, Nat.reduceMod, Fin.reduceFinMk, D_X8_touch, rsf_8]
  by_cases a1 : 0 ≤ h ∧ h ≤ μ 39 20 - 1
  case neg =>
    (refine ⟨fun z => ?_, fun z => ?_⟩ <;> first | exact absurd z a1 | exact absurd a1 z | skip)
    (rw [rf_touch, gf_touch, if_neg (fun z => a1 z.1), if_neg (fun z => a1 z.1)]; exact ⟨rfl, μ 59, (wr_self μ).symm⟩)
  (refine ⟨fun z => ?_, fun z => ?_⟩ <;> first | exact absurd z a1 | exact absurd a1 z | skip)
  refine X.callS3 S_8_93 (by decide +kernel) (by decide) (by decide) (Nat.le_of_ble_eq_true rfl) (k8_isIn _ _ _ _) ?_
  refine X.vc (fun _ => false) 60 ?_
  simp only [↓vc_zero, ↓vc_succ, ↓vn_app, ↓vd_ok, ↓vx_iconst, ↓vx_bipush, ↓vx_sipush, ↓vx_ldc, ↓vx_iload_n, ↓vx_iload, ↓vx_aload_n, ↓vx_aload, ↓vx_istore_n, ↓vx_istore, ↓vx_iinc, ↓vx_iadd, ↓vx_isub, ↓vx_imul, ↓vx_iand, ↓vx_ior, ↓vx_ixor, ↓vx_ishl, ↓vx_ishr, ↓vx_iushr, ↓vx_dup, ↓vx_dup2, ↓vx_goto, ↓vx_if_icmp, ↓vx_ifCond, ↓vx_getfield, ↓vx_putfield, ↓vx_iaload, ↓vx_iastore, ↓vx_baload, ↓vx_bastore, ↓vx_aaload, ↓vx_ireturn, ↓vx_return, ↓vx_invokevirtual, ↓vx_invokestatic, ↓vx_table, ↓vx_lookup, ↓vld_ok, ↓vldr_ok, ↓vst_ok, ↓vic_ok, ↓vgf_ok, ↓vgo_ok, ↓vpf_f, ↓vpf_t, ↓vpo_ok, ↓vkc_ok, ↓vbr_eq, ↓bz_01, bz_0, bz_1, is_app, mset_app, tnc_ok, wr_app, wr_ms, is59_app, vpn_ok, vpn_bz, Option.some.injEq, Sum.inl.injEq, getL, setL, Option.map_some, fvl_ok, mff_ok, jp, icm, inb_ok, ins_ok, zin_ok, rin_ok, vpi_ok, bip_ok, sip_ok, kcf_ok, vsw, vlk, Bool.false_eq_true, ↓reduceIte, true_and, and_true, and_self, Option.toList, List.cons_append, List.nil_append, Fin.isValue, forall_const, false_implies, implies_true, true_implies, reduceCtorEq, or_false, false_or, true_or, or_true, ne_eq, not_false_eq_true, not_true_eq_false, Classical.not_not, Bool.or_false, Bool.false_or, Bool.or_true, Bool.true_or, nat_int, Nat.reduceAdd, Nat.reduceBEq, Nat.reduceEqDiff, Int32.reduceLT, Int32.reduceLE, Int32.reduceAdd, Int32.reduceSub, Int.reduceAdd, Int.reduceToNat, Int.reduceLE, Int.reduceLT, Int.reduceNeg, Int.reduceSub, Int32.reduceOfInt, Nat.reduceMod, Fin.reduceFinMk, D_X8_touch, rsf_8]
  by_cases a2 : 0 ≤ w ∧ w ≤ 1
  case neg =>
    (refine ⟨fun z => ?_, fun z => ?_⟩ <;> first | exact absurd z a2 | exact absurd a2 z | skip)
    (rw [rf_touch, gf_touch, if_neg (fun z => a2 z.2), if_neg (fun z => a2 z.2)]; exact ⟨rfl, μ 59, (wr_self μ).symm⟩)
  (refine ⟨fun z => ?_, fun z => ?_⟩ <;> first | exact absurd z a2 | exact absurd a2 z | skip)
  have ok : ok_touch μ h w := ⟨a1, a2⟩
  rw [rf_touch, gf_touch, if_pos ok, if_pos ok, eN]
  refine X.callV0 S_8_176 (by decide +kernel) rcv_39 (by decide) (by decide) (Nat.le_of_ble_eq_true rfl) (k8_isRead _ (by first | assumption | grind) (by first | assumption | grind)) ?_
  refine X.vc (fun q => q == 31) 60 ?_
  simp only [↓vc_zero, ↓vc_succ, ↓vn_app, ↓vd_ok, ↓vx_iconst, ↓vx_bipush, ↓vx_sipush, ↓vx_ldc, ↓vx_iload_n, ↓vx_iload, ↓vx_aload_n, ↓vx_aload, ↓vx_istore_n, ↓vx_istore, ↓vx_iinc, ↓vx_iadd, ↓vx_isub, ↓vx_imul, ↓vx_iand, ↓vx_ior, ↓vx_ixor, ↓vx_ishl, ↓vx_ishr, ↓vx_iushr, ↓vx_dup, ↓vx_dup2, ↓vx_goto, ↓vx_if_icmp, ↓vx_ifCond, ↓vx_getfield, ↓vx_putfield, ↓vx_iaload, ↓vx_iastore, ↓vx_baload, ↓vx_bastore, ↓vx_aaload, ↓vx_ireturn, ↓vx_return, ↓vx_invokevirtual, ↓vx_invokestatic, ↓vx_table, ↓vx_lookup, ↓vld_ok, ↓vldr_ok, ↓vst_ok, ↓vic_ok, ↓vgf_ok, ↓vgo_ok, ↓vpf_f, ↓vpf_t, ↓vpo_ok, ↓vkc_ok, ↓vbr_eq, ↓bz_01, bz_0, bz_1, is_app, mset_app, tnc_ok, wr_app, wr_ms, is59_app, vpn_ok, vpn_bz, Option.some.injEq, Sum.inl.injEq, getL, setL, Option.map_some, fvl_ok, mff_ok, jp, icm, inb_ok, ins_ok, zin_ok, rin_ok, vpi_ok, bip_ok, sip_ok, kcf_ok, vsw, vlk, Bool.false_eq_true, ↓reduceIte, true_and, and_true, and_self, Option.toList, List.cons_append, List.nil_append, Fin.isValue, forall_const, false_implies, implies_true, true_implies, reduceCtorEq, or_false, false_or, true_or, or_true, ne_eq, not_false_eq_true, not_true_eq_false, Classical.not_not, Bool.or_false, Bool.false_or, Bool.or_true, Bool.true_or, nat_int, Nat.reduceAdd, Nat.reduceBEq, Nat.reduceEqDiff, Int32.reduceLT, Int32.reduceLE, Int32.reduceAdd, Int32.reduceSub, Int.reduceAdd, Int.reduceToNat, Int.reduceLE, Int.reduceLT, Int.reduceNeg, Int.reduceSub, Int32.reduceOfInt, Nat.reduceMod, Fin.reduceFinMk, D_X8_touch, rsf_8]
  by_cases a3 : (rdP μ).1 = 0
  case neg =>
    (refine ⟨fun z => ?_, fun z => ?_⟩ <;> first | exact absurd z a3 | exact absurd a3 z | skip)
    (rw [if_neg a3]; exact ⟨rfl, irM μ 59, (wr_self (irM μ)).symm⟩)
  (refine ⟨fun z => ?_, fun z => ?_⟩ <;> first | exact absurd z a3 | exact absurd a3 z | skip)
  rw [if_pos a3]
  obtain ⟨H, hH, hHe, hHT⟩ := hold_ix (μ := irM μ) (h := h) (by rw [e20]; exact a1) (by rw [e20]; exact h4) (by rw [e20]; exact h5) hT
  have hHc : h.toNatClampNeg = H := by rw [hHe]; exact nI_clamp (by omega)
  have q := tc_loop (irM μ) H w N hH hNb (by rw [e5]; exact hN) (fun k hk => hV k (by rw [e5, eN]; exact hk)) hHT (hT2 a3) (irM μ 59)
  rw [wr_self] at q
  rw [hHc, hHe]
  exact q
theorem s_touch {μ ν : Mem} (h : RLL μ ν) (x w : Int32) : cf_touch μ x w = rf_touch ν x w ∧ RLL (cg_touch μ x w) (gf_touch ν x w) := by
  obtain ⟨r, re, rt, -⟩ := s_read h
  obtain ⟨h1, h2, h3, h4, h5, h6, h7, h8, h9, h10, h11, h12, h13, h14⟩ := id h
  obtain ⟨a1, a2, a3, a4, a5, a6, a7, a8, a9, a10, a11⟩ := id h1
  obtain ⟨b1, b2, b3, b4, b5, b6, b7, b8, b9, b10, b11⟩ := id h2
  obtain ⟨nt, nv, nr, nb, nh, et, ev, er, eb, eh⟩ := IA_12 h9
  have e : oc_touch μ x w ↔ ok_touch ν x w := by unfold oc_touch ok_touch; rw [a8]
  rw [cf_touch, rf_touch, cg_touch, gf_touch, re]
  by_cases ok : ok_touch ν x w
  · rw [if_pos (e.mpr ok), if_pos ok, if_pos (e.mpr ok), if_pos ok]
    refine ⟨?_, r⟩
    by_cases z : (rdP ν).1 = 0
    · rw [if_pos z, if_pos z, a7]
      obtain ⟨H, hH, he, hc⟩ := h_lt h9 ok.1
      have eH : nH (irM ν) = nH ν := by rw [nH, irM_39 (by decide)]; rfl
      have eV : nV (irM ν) = nV ν := by rw [nV, irM_39 (by decide)]; rfl
      refine cnt_eq _ (fun k hk => ?_)
      have hk' : k < nV (irM ν) := by rw [eV]; exact hk
      obtain ⟨r1, ⟨u1, u2, u3, u4, u5, u6, u7, u8⟩, -⟩ := id r
      have f12 : ctb (ctt μ) 12 k = rf_fit (irM ν) 12 (nI k) := fit_sim (by have : k < nV ν := hk; omega) (rt z) u5 u3 u4 u1 u6
      have fH : ((ctt μ 10 k >>> (nI H &&& 31)) &&& 1 = 1) ↔ rf_fit (irM ν) H (nI k) = true := fit_bit r (by rw [eH]; exact hH) hk'
      unfold cth fth
      rw [hc, he, u7, f12]
      generalize rf_fit (irM ν) 12 (nI k) = g1 at *
      generalize rf_fit (irM ν) H (nI k) = g2 at *
      apply decide_eq_decide.mpr
      by_cases w0 : w = 0
      · rw [if_pos w0, decide_eq_true w0, fH]
        cases g1 <;> cases g2 <;> simp
      · rw [if_neg w0, decide_eq_false w0, fH]
        cases g1 <;> cases g2 <;> simp
    · rw [if_neg z, if_neg z]
  · rw [if_neg (fun z => ok (e.mp z)), if_neg ok, if_neg (fun z => ok (e.mp z)), if_neg ok]
    exact ⟨rfl, h⟩
