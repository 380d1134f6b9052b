def abc (μ : Mem) (w : Int32) : Int32 := if w = 0 then μ 39 1 else if w = 1 then μ 39 5 else if w = 2 then μ 39 0 else if w = 3 then μ 39 20 else if w = 4 then μ 39 12 else if w = 5 then μ 39 35 else if w = 6 then cnt (fab6 μ) (μ 39 5).toNatClampNeg else if w = 7 then cnt (fab7 μ) (μ 39 5).toNatClampNeg else if w = 8 then cnt (fab8 μ) (μ 39 5).toNatClampNeg else if w = 9 then μ 39 19 else if w = 10 then μ 39 10 else -1
def rf_about (μ : Mem) (w : Int32) : Int32 := if 20 ≤ w ∧ w ≤ 19 + μ 39 1 then μ 41 (w - 20).toNatClampNeg else if 60 ≤ w ∧ w ≤ 59 + μ 39 1 then μ 42 (w - 60).toNatClampNeg else abc μ w
theorem abx {w T : Int32} (c : 20 ≤ w ∧ w ≤ 19 + T) (t2 : 0 ≤ T) (t3 : T ≤ 40) : 0 ≤ w - 20 ∧ w - 20 < 40 := by
  obtain ⟨c1, c2⟩ := c
  simp only [Int32.le_iff_toInt_le, Int32.lt_iff_toInt_lt, Int32.toInt_sub, Int32.toInt_add, Int32.reduceToInt, Int.bmod_def] at *
  omega
theorem abx2 {w T : Int32} (c : 60 ≤ w ∧ w ≤ 59 + T) (t2 : 0 ≤ T) (t3 : T ≤ 40) : 0 ≤ w - 60 ∧ w - 60 < 40 := by
  obtain ⟨c1, c2⟩ := c
  simp only [Int32.le_iff_toInt_le, Int32.lt_iff_toInt_lt, Int32.toInt_sub, Int32.toInt_add, Int32.reduceToInt, Int.bmod_def] at *
  omega
set_option maxRecDepth 100000 in
set_option maxHeartbeats 1000000 in
theorem k8_about (μ : Mem) (ρ : Nat → Int32) (w : Int32) (t2 : 0 ≤ μ 39 1) (t3 : μ 39 1 ≤ 40) (h2 : 0 ≤ μ 39 5) (h3 : μ 39 5 ≤ 120) (hV : VsOk μ) (h4 : 0 ≤ μ 39 20) (h5 : μ 39 20 ≤ 12) (hT : TsOk μ) (r4 : 0 ≤ μ 39 12) (r5 : μ 39 12 ≤ 20) : Ct yX8_about 4 cX8_about (some .int) 5 [.inr 39, .inl (w)] (wr μ ρ) (Is59 (some (.inl (rf_about μ w))) μ) := by
  refine Ct.of (oc := 8) [some (.inr 39), some (.inl (w)), none, none] (by decide +kernel) rfl (Nat.le_of_ble_eq_true rfl) rfl ?_
  obtain ⟨N, hNb, hN⟩ := nIx (M := 120) (n := 120) rfl h2 h3
  have e : (μ 39 5).toNatClampNeg = N := by rw [hN]; exact nI_clamp (by omega)
  refine X.vc (fun _ => false) 60 ?_
  simp only [↓vc_zero, ↓vc_succ, ↓vn_app, ↓vd_ok, ↓vx_iconst, ↓vx_bipush, ↓vx_sipush, ↓vx_ldc, ↓vx_iload_n, ↓vx_iload, ↓vx_aload_n, ↓vx_aload, ↓vx_istore_n, ↓vx_istore, ↓vx_iinc, ↓vx_iadd, ↓vx_isub, ↓vx_imul, ↓vx_iand, ↓vx_ior, ↓vx_ixor, ↓vx_ishl, ↓vx_ishr, ↓vx_iushr, ↓vx_dup, ↓vx_dup2, ↓vx_goto, ↓vx_if_icmp, ↓vx_ifCond, ↓vx_getfield, ↓vx_putfield, ↓vx_iaload, ↓vx_iastore, ↓vx_baload, ↓vx_bastore, ↓vx_aaload, ↓vx_ireturn, ↓vx_return, ↓vx_invokevirtual, ↓vx_invokestatic, ↓vx_table, ↓vx_lookup, ↓vld_ok, ↓vldr_ok, ↓vst_ok, ↓vic_ok, ↓vgf_ok, ↓vgo_ok, ↓vpf_f, ↓vpf_t, ↓vpo_ok, ↓vkc_ok, ↓vbr_eq, ↓bz_01, bz_0, bz_1, is_app, mset_app, tnc_ok, wr_app, wr_ms, is59_app, vpn_ok, vpn_bz, Option.some.injEq, Sum.inl.injEq, getL, setL, Option.map_some, fvl_ok, mff_ok, jp, icm, inb_ok, ins_ok, zin_ok, rin_ok, vpi_ok, bip_ok, sip_ok, kcf_ok, vsw, vlk, Bool.false_eq_true, ↓reduceIte, true_and, and_true, and_self, Option.toList, List.cons_append, List.nil_append, Fin.isValue, forall_const, false_implies, implies_true, true_implies, reduceCtorEq, or_false, false_or, true_or, or_true, ne_eq, not_false_eq_true, not_true_eq_false, Classical.not_not, Bool.or_false, Bool.false_or, Bool.or_true, Bool.true_or, nat_int, Nat.reduceAdd, Nat.reduceBEq, Nat.reduceEqDiff, Int32.reduceLT, Int32.reduceLE, Int32.reduceAdd, Int32.reduceSub, Int.reduceAdd, Int.reduceToNat, Int.reduceLE, Int.reduceLT, Int.reduceNeg, Int.reduceSub, Int32.reduceOfInt, Nat.reduceMod, Fin.reduceFinMk, D_X8_about, rsf_8]
  refine X.callS3 S_8_93 (by decide +kernel) (by decide) (by decide) (Nat.le_of_ble_eq_true rfl) (k8_isIn _ _ _ _) ?_
  refine X.vc (fun _ => false) 60 ?_
  simp only [↓vc_zero, ↓vc_succ, ↓vn_app, ↓vd_ok, ↓vx_iconst, ↓vx_bipush, ↓vx_sipush, ↓vx_ldc, ↓vx_iload_n, ↓vx_iload, ↓vx_aload_n, ↓vx_aload, ↓vx_istore_n, ↓vx_istore, ↓vx_iinc, ↓vx_iadd, ↓vx_isub, ↓vx_imul, ↓vx_iand, ↓vx_ior, ↓vx_ixor, ↓vx_ishl, ↓vx_ishr, ↓vx_iushr, ↓vx_dup, ↓vx_dup2, ↓vx_goto, ↓vx_if_icmp, ↓vx_ifCond, ↓vx_getfield, ↓vx_putfield, ↓vx_iaload, ↓vx_iastore, ↓vx_baload, ↓vx_bastore, ↓vx_aaload, ↓vx_ireturn, ↓vx_return, ↓vx_invokevirtual, ↓vx_invokestatic, ↓vx_table, ↓vx_lookup, ↓vld_ok, ↓vldr_ok, ↓vst_ok, ↓vic_ok, ↓vgf_ok, ↓vgo_ok, ↓vpf_f, ↓vpf_t, ↓vpo_ok, ↓vkc_ok, ↓vbr_eq, ↓bz_01, bz_0, bz_1, is_app, mset_app, tnc_ok, wr_app, wr_ms, is59_app, vpn_ok, vpn_bz, Option.some.injEq, Sum.inl.injEq, getL, setL, Option.map_some, fvl_ok, mff_ok, jp, icm, inb_ok, ins_ok, zin_ok, rin_ok, vpi_ok, bip_ok, sip_ok, kcf_ok, vsw, vlk, Bool.false_eq_true, ↓reduceIte, true_and, and_true, and_self, Option.toList, List.cons_append, List.nil_append, Fin.isValue, forall_const, false_implies, implies_true, true_implies, reduceCtorEq, or_false, false_or, true_or, or_true, ne_eq, not_false_eq_true, not_true_eq_false, Classical.not_not, Bool.or_false, Bool.false_or, Bool.or_true, Bool.true_or, nat_int, Nat.reduceAdd, Nat.reduceBEq, Nat.reduceEqDiff, Int32.reduceLT, Int32.reduceLE, Int32.reduceAdd, Int32.reduceSub, Int.reduceAdd, Int.reduceToNat, Int.reduceLE, Int.reduceLT, Int.reduceNeg, Int.reduceSub, Int32.reduceOfInt, Nat.reduceMod, Fin.reduceFinMk, D_X8_about, rsf_8]
  refine ⟨fun c => ?_, fun c => ?_⟩
  rotate_left
  · have er : rf_about μ w = μ 41 (w - 20).toNatClampNeg := if_pos c
    rw [er]
    exact ⟨abx c t2 t3, rfl, ρ, rfl⟩
  refine X.callS3 S_8_93 (by decide +kernel) (by decide) (by decide) (Nat.le_of_ble_eq_true rfl) (k8_isIn _ _ _ _) ?_
  refine X.vc (fun q => q == 55) 60 ?_
  simp only [↓vc_zero, ↓vc_succ, ↓vn_app, ↓vd_ok, ↓vx_iconst, ↓vx_bipush, ↓vx_sipush, ↓vx_ldc, ↓vx_iload_n, ↓vx_iload, ↓vx_aload_n, ↓vx_aload, ↓vx_istore_n, ↓vx_istore, ↓vx_iinc, ↓vx_iadd, ↓vx_isub, ↓vx_imul, ↓vx_iand, ↓vx_ior, ↓vx_ixor, ↓vx_ishl, ↓vx_ishr, ↓vx_iushr, ↓vx_dup, ↓vx_dup2, ↓vx_goto, ↓vx_if_icmp, ↓vx_ifCond, ↓vx_getfield, ↓vx_putfield, ↓vx_iaload, ↓vx_iastore, ↓vx_baload, ↓vx_bastore, ↓vx_aaload, ↓vx_ireturn, ↓vx_return, ↓vx_invokevirtual, ↓vx_invokestatic, ↓vx_table, ↓vx_lookup, ↓vld_ok, ↓vldr_ok, ↓vst_ok, ↓vic_ok, ↓vgf_ok, ↓vgo_ok, ↓vpf_f, ↓vpf_t, ↓vpo_ok, ↓vkc_ok, ↓vbr_eq, ↓bz_01, bz_0, bz_1, is_app, mset_app, tnc_ok, wr_app, wr_ms, is59_app, vpn_ok, vpn_bz, Option.some.injEq, Sum.inl.injEq, getL, setL, Option.map_some, fvl_ok, mff_ok, jp, icm, inb_ok, ins_ok, zin_ok, rin_ok, vpi_ok, bip_ok, sip_ok, kcf_ok, vsw, vlk, Bool.false_eq_true, ↓reduceIte, true_and, and_true, and_self, Option.toList, List.cons_append, List.nil_append, Fin.isValue, forall_const, false_implies, implies_true, true_implies, reduceCtorEq, or_false, false_or, true_or, or_true, ne_eq, not_false_eq_true, not_true_eq_false, Classical.not_not, Bool.or_false, Bool.false_or, Bool.or_true, Bool.true_or, nat_int, Nat.reduceAdd, Nat.reduceBEq, Nat.reduceEqDiff, Int32.reduceLT, Int32.reduceLE, Int32.reduceAdd, Int32.reduceSub, Int.reduceAdd, Int.reduceToNat, Int.reduceLE, Int.reduceLT, Int.reduceNeg, Int.reduceSub, Int32.reduceOfInt, Nat.reduceMod, Fin.reduceFinMk, D_X8_about, rsf_8]
  refine ⟨fun c2 => ?_, fun c2 => ?_⟩
  rotate_left
  · have er : rf_about μ w = μ 42 (w - 60).toNatClampNeg := (if_neg c).trans (if_pos c2)
    rw [er]
    exact ⟨abx2 c2 t2 t3, rfl, ρ, rfl⟩
  have er : rf_about μ w = abc μ w := (if_neg c).trans (if_neg c2)
  rw [er]
  refine X.vc (fun q => q == 144 || q == 179 || q == 254) 60 ?_
  simp only [↓vc_zero, ↓vc_succ, ↓vn_app, ↓vd_ok, ↓vx_iconst, ↓vx_bipush, ↓vx_sipush, ↓vx_ldc, ↓vx_iload_n, ↓vx_iload, ↓vx_aload_n, ↓vx_aload, ↓vx_istore_n, ↓vx_istore, ↓vx_iinc, ↓vx_iadd, ↓vx_isub, ↓vx_imul, ↓vx_iand, ↓vx_ior, ↓vx_ixor, ↓vx_ishl, ↓vx_ishr, ↓vx_iushr, ↓vx_dup, ↓vx_dup2, ↓vx_goto, ↓vx_if_icmp, ↓vx_ifCond, ↓vx_getfield, ↓vx_putfield, ↓vx_iaload, ↓vx_iastore, ↓vx_baload, ↓vx_bastore, ↓vx_aaload, ↓vx_ireturn, ↓vx_return, ↓vx_invokevirtual, ↓vx_invokestatic, ↓vx_table, ↓vx_lookup, ↓vld_ok, ↓vldr_ok, ↓vst_ok, ↓vic_ok, ↓vgf_ok, ↓vgo_ok, ↓vpf_f, ↓vpf_t, ↓vpo_ok, ↓vkc_ok, ↓vbr_eq, ↓bz_01, bz_0, bz_1, is_app, mset_app, tnc_ok, wr_app, wr_ms, is59_app, vpn_ok, vpn_bz, Option.some.injEq, Sum.inl.injEq, getL, setL, Option.map_some, fvl_ok, mff_ok, jp, icm, inb_ok, ins_ok, zin_ok, rin_ok, vpi_ok, bip_ok, sip_ok, kcf_ok, vsw, vlk, Bool.false_eq_true, ↓reduceIte, true_and, and_true, and_self, Option.toList, List.cons_append, List.nil_append, Fin.isValue, forall_const, false_implies, implies_true, true_implies, reduceCtorEq, or_false, false_or, true_or, or_true, ne_eq, not_false_eq_true, not_true_eq_false, Classical.not_not, Bool.or_false, Bool.false_or, Bool.or_true, Bool.true_or, nat_int, Nat.reduceAdd, Nat.reduceBEq, Nat.reduceEqDiff, Int32.reduceLT, Int32.reduceLE, Int32.reduceAdd, Int32.reduceSub, Int.reduceAdd, Int.reduceToNat, Int.reduceLE, Int.reduceLT, Int.reduceNeg, Int.reduceSub, Int32.reduceOfInt, Nat.reduceMod, Fin.reduceFinMk, D_X8_about, rsf_8, tolist_arr, ti_ok, List.length_cons, List.length_nil]
  refine ⟨⟨fun c0 => ?_, fun c0 => ?_, fun c0 => ?_, fun c0 => ?_, fun c0 => ?_, fun c0 => ?_, fun c0 => ?_, fun c0 => ?_, fun c0 => ?_, fun c0 => ?_, fun c0 => ?_⟩, fun c0 => ?_⟩
  · exact ⟨by grind (splits := 30) [abc], ρ, rfl⟩
  · exact ⟨by grind (splits := 30) [abc], ρ, rfl⟩
  · exact ⟨by grind (splits := 30) [abc], ρ, rfl⟩
  · exact ⟨by grind (splits := 30) [abc], ρ, rfl⟩
  · exact ⟨by grind (splits := 30) [abc], ρ, rfl⟩
  · exact ⟨by grind (splits := 30) [abc], ρ, rfl⟩
  · have e6 : abc μ w = cnt (fab6 μ) N := by rw [← e]; grind (splits := 30) [abc]
    rw [e6]
    exact ab6 μ w N hNb hN _ ρ ⟨rfl, ρ, rfl⟩
  · have e6 : abc μ w = cnt (fab7 μ) N := by rw [← e]; grind (splits := 30) [abc]
    rw [e6]
    exact ab7 μ w N hNb hN hV h4 h5 hT r4 r5 _ (fun ρ => ⟨rfl, ρ, rfl⟩) ρ
  · have e6 : abc μ w = cnt (fab8 μ) N := by rw [← e]; grind (splits := 30) [abc]
    rw [e6]
    exact ab8 μ w N hNb hN hV h4 h5 hT _ (fun ρ => ⟨rfl, ρ, rfl⟩) ρ
  · exact ⟨by grind (splits := 30) [abc], ρ, rfl⟩
  · exact ⟨by grind (splits := 30) [abc], ρ, rfl⟩
  · exact ⟨by grind (splits := 30) [abc], ρ, rfl⟩
/-! what a day's end leaves alone -/
def Agr (μ m : Mem) : Prop := (∀ a, a ≠ 39 → a ≠ 46 → a ≠ 60 → a ≠ 61 → a ≠ 62 → m a = μ a) ∧ ∀ j, j ≠ 35 → j ≠ 36 → m 39 j = μ 39 j
theorem mMost_ag {μ m : Mem} (h : Agr μ m) {kd : Int32} : ∀ n, mMost m kd n = mMost μ kd n
  | 0 => rfl
  | n + 1 => by simp only [mMost, mMost_ag h n, h.1 47 (by decide) (by decide) (by decide) (by decide) (by decide), h.1 48 (by decide) (by decide) (by decide) (by decide) (by decide)]
theorem rf_term_ag {μ m : Mem} (h : Agr μ m) {v : Int32} : rf_term m v = rf_term μ v := by
  simp only [rf_term, mMost_ag h, h.1 40 (by decide) (by decide) (by decide) (by decide) (by decide), h.1 43 (by decide) (by decide) (by decide) (by decide) (by decide), h.1 45 (by decide) (by decide) (by decide) (by decide) (by decide), h.2 12 (by decide) (by decide)]
theorem rf_due_ag {μ m : Mem} (h : Agr μ m) {v d : Int32} : rf_due m v d = rf_due μ v d := by
  simp only [rf_due, rf_term_ag h, h.1 41 (by decide) (by decide) (by decide) (by decide) (by decide), h.1 43 (by decide) (by decide) (by decide) (by decide) (by decide), h.2 11 (by decide) (by decide)]
theorem liv_ag {μ m : Mem} (h : Agr μ m) {set d : Int32} : ∀ n, liv m set d n = liv μ set d n
  | 0 => rfl
  | n + 1 => by simp only [liv, liv_ag h n, livP, h.1 52 (by decide) (by decide) (by decide) (by decide) (by decide), h.1 53 (by decide) (by decide) (by decide) (by decide) (by decide)]
theorem rf_living_ag {μ m : Mem} (h : Agr μ m) {set d : Int32} : rf_living m set d = rf_living μ set d := by
  simp only [rf_living, liv_ag h, h.2 20 (by decide) (by decide)]
theorem dpt_ag {μ m : Mem} (h : Agr μ m) {B : Nat} : ∀ n, dpt m B n = dpt μ B n
  | 0 => rfl
  | n + 1 => by simp only [dpt, dpt_ag h n, h.1 55 (by decide) (by decide) (by decide) (by decide) (by decide)]
theorem rf_atom_ag {μ m : Mem} (h : Agr μ m) {w a b v : Int32} : rf_atom m w a b v = rf_atom μ w a b v := by
  simp only [rf_atom, h.1 44 (by decide) (by decide) (by decide) (by decide) (by decide), h.1 42 (by decide) (by decide) (by decide) (by decide) (by decide), h.1 43 (by decide) (by decide) (by decide) (by decide) (by decide), h.1 40 (by decide) (by decide) (by decide) (by decide) (by decide), h.1 45 (by decide) (by decide) (by decide) (by decide) (by decide)]
theorem tv_ag {μ m : Mem} (h : Agr μ m) {v : Int32} {B : Nat} : ∀ n i, tv m v B n i = tv μ v B n i
  | 0, _ => rfl
  | n + 1, i => by simp only [tv, tv_ag h n, dpt_ag h, rf_atom_ag h, h.1 55 (by decide) (by decide) (by decide) (by decide) (by decide), h.1 56 (by decide) (by decide) (by decide) (by decide) (by decide), h.1 57 (by decide) (by decide) (by decide) (by decide) (by decide)]
theorem rf_fit_ag {μ m : Mem} (h : Agr μ m) {H : Nat} {v : Int32} : rf_fit m H v = rf_fit μ H v := by
  simp only [rf_fit, tv_ag h, h.1 54 (by decide) (by decide) (by decide) (by decide) (by decide)]
theorem fts_ag {μ m : Mem} (h : Agr μ m) {v : Int32} : ∀ n, fts m v n = fts μ v n
  | 0 => rfl
  | n + 1 => by simp only [fts, fts_ag h n, rf_fit_ag h]
theorem rf_fitting_ag {μ m : Mem} (h : Agr μ m) {v : Int32} : rf_fitting m v = rf_fitting μ v := by
  simp only [rf_fitting, fts_ag h, h.2 20 (by decide) (by decide)]
theorem rf_held_ag {μ m : Mem} (h : Agr μ m) {v d : Int32} : rf_held m v d = rf_held μ v d := by
  simp only [rf_held, rf_living_ag h, rf_fitting_ag h]
theorem Wf_ag {μ m : Mem} (h : Agr μ m) {B n : Nat} (hw : Wf μ B n) : Wf m B n := by
  unfold Wf at hw ⊢
  simp only [dpt_ag h, h.1 55 (by decide) (by decide) (by decide) (by decide) (by decide)]
  exact hw
theorem TsOk_ag {μ m : Mem} (h : Agr μ m) (ht : TsOk μ) : TsOk m := by
  intro i hi
  rw [h.2 20 (by decide) (by decide)] at hi
  obtain ⟨n, h1, h2⟩ := ht i hi
  exact ⟨n, by rw [h.1 54 (by decide) (by decide) (by decide) (by decide) (by decide)]; exact h1, Wf_ag h h2⟩
theorem VOk_ag {μ m : Mem} (h : Agr μ m) {i : Nat} (hv : VOk μ i) : VOk m i := by
  unfold VOk at hv ⊢
  rw [h.1 43 (by decide) (by decide) (by decide) (by decide) (by decide)]
  exact hv
