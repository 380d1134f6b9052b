/-! memory but for row 59 (truth, a row of scratch) -/
def wr (μ : Mem) (ρ : Nat → Int32) : Mem := fun a => if a = 59 then ρ else μ a
theorem wr_app {μ : Mem} {ρ : Nat → Int32} {a : Nat} : wr μ ρ a = if a = 59 then ρ else μ a := rfl
theorem wr_ms {μ : Mem} {ρ : Nat → Int32} {j : Nat} {x : Int32} : mset (wr μ ρ) 59 j x = wr μ (upd ρ j x) := by
  funext a b
  by_cases h : a = 59
  · simp [mset, wr, upd, h]
  · simp [mset, wr, h]
theorem wr_self (μ : Mem) : wr μ (μ 59) = μ := by
  funext a b
  by_cases h : a = 59
  · subst h; simp [wr]
  · simp [wr, h]
theorem wr_wr {μ : Mem} {ρ ρ' : Nat → Int32} : wr (wr μ ρ) ρ' = wr μ ρ' := by
  funext a b
  by_cases h : a = 59
  · simp [wr, h]
  · simp [wr, h]
theorem wr_mo {μ : Mem} {ρ : Nat → Int32} {k j : Nat} {x : Int32} (h : k ≠ 59) : mset (wr μ ρ) k j x = wr (mset μ k j x) ρ := by
  funext a b
  by_cases h1 : a = 59
  · subst h1
    simp [mset, wr, show ¬ 59 = k from fun q => h q.symm]
  · simp [mset, wr, h1]
abbrev Is59 (r0 : Option Vl) (μ0 : Mem) : Option Vl → Mem → Prop := fun r μ' => r = r0 ∧ ∃ ρ, μ' = wr μ0 ρ
theorem is59_app {r0 r : Option Vl} {μ0 μ : Mem} {ρ : Nat → Int32} : Is59 r0 μ0 r (wr μ0 ρ) = (r = r0) := by
  apply propext
  exact ⟨fun h => h.1, fun h => ⟨h, ρ, rfl⟩⟩
theorem vpn_ok : vp_nar .boolean 1 = 1 ∧ vp_nar .boolean 0 = 0 := ⟨rfl, rfl⟩
theorem vpn_bz {p : Prop} [Decidable p] : vp_nar .boolean (bz p) = bz p := by unfold bz; split <;> rfl
theorem rf_atom_wr {μ : Mem} {ρ : Nat → Int32} {w a b v : Int32} : rf_atom (wr μ ρ) w a b v = rf_atom μ w a b v := rfl
theorem X.drop {oc nL : Nat} {cc : ByteArray} {ret : Option FieldType} {d : Nat} {Q : Option Vl → Mem → Prop} {μ : Mem} {pc : Nat} {L : Lc} {st : List Vl} (i : Nat) (h : X oc nL cc ret d μ pc (L.set i none) st Q) : X oc nL cc ret d μ pc L st Q := by
  refine X.weak (L.set i none) (by simp) (fun j v hj => ?_) h
  rw [List.getElem?_set] at hj
  split at hj
  · split at hj <;> cases hj
  · exact hj
/-! isDue -/
set_option maxRecDepth 100000 in
set_option maxHeartbeats 4000000 in
theorem k8_isDue (μ : Mem) (v d : Int32) (h0 : 0 ≤ v) (h1 : v < 120) (h2 : 0 ≤ μ 43 v.toNatClampNeg) (h3 : μ 43 v.toNatClampNeg < 40) (h4 : 0 ≤ μ 39 12) (h5 : μ 39 12 ≤ 20) : Ct yX8_isDue 3 cX8_isDue (some .boolean) 1 [.inr 39, .inl (v), .inl (d)] μ (Is (some (.inl (bz (rf_due μ v d)))) μ) := by
  refine Ct.of (oc := 8) [some (.inr 39), some (.inl (v)), some (.inl (d))] (by decide +kernel) rfl (Nat.le_of_ble_eq_true rfl) rfl ?_
  refine X.vc (fun _ => false) 60 ?_
  simp only [↓vc_zero, ↓vc_succ, ↓vn_app, ↓vd_ok, ↓vx_iconst, ↓vx_bipush, ↓vx_sipush, ↓vx_ldc, ↓vx_iload_n, ↓vx_iload, ↓vx_aload_n, ↓vx_aload, ↓vx_istore_n, ↓vx_istore, ↓vx_iinc, ↓vx_iadd, ↓vx_isub, ↓vx_imul, ↓vx_iand, ↓vx_ior, ↓vx_ixor, ↓vx_ishl, ↓vx_ishr, ↓vx_iushr, ↓vx_dup, ↓vx_dup2, ↓vx_goto, ↓vx_if_icmp, ↓vx_ifCond, ↓vx_getfield, ↓vx_putfield, ↓vx_iaload, ↓vx_iastore, ↓vx_baload, ↓vx_bastore, ↓vx_aaload, ↓vx_ireturn, ↓vx_return, ↓vx_invokevirtual, ↓vx_invokestatic, ↓vx_table, ↓vx_lookup, ↓vld_ok, ↓vldr_ok, ↓vst_ok, ↓vic_ok, ↓vgf_ok, ↓vgo_ok, ↓vpf_f, ↓vpf_t, ↓vpo_ok, ↓vkc_ok, ↓vbr_eq, ↓bz_01, bz_0, bz_1, is_app, mset_app, tnc_ok, wr_app, wr_ms, is59_app, vpn_ok, vpn_bz, Option.some.injEq, Sum.inl.injEq, getL, setL, Option.map_some, fvl_ok, mff_ok, jp, icm, inb_ok, ins_ok, zin_ok, rin_ok, vpi_ok, bip_ok, sip_ok, kcf_ok, vsw, vlk, Bool.false_eq_true, ↓reduceIte, true_and, and_true, and_self, Option.toList, List.cons_append, List.nil_append, Fin.isValue, forall_const, false_implies, implies_true, true_implies, reduceCtorEq, or_false, false_or, true_or, or_true, ne_eq, not_false_eq_true, not_true_eq_false, Classical.not_not, Bool.or_false, Bool.false_or, Bool.or_true, Bool.true_or, nat_int, Nat.reduceAdd, Nat.reduceBEq, Nat.reduceEqDiff, Int32.reduceLT, Int32.reduceLE, Int32.reduceAdd, Int32.reduceSub, Int.reduceAdd, Int.reduceToNat, Int.reduceLE, Int.reduceLT, Int.reduceNeg, Int.reduceSub, Int32.reduceOfInt, Nat.reduceMod, Fin.reduceFinMk, D_X8_isDue, rsf_8, h0, h1, h2, h3]
  refine ⟨by grind [bz], fun c0 => ?_⟩
  refine X.callV1 S_8_203 (by decide +kernel) rcv_39 (by decide) (by decide) (Nat.le_of_ble_eq_true rfl) (k8_term _ _ (by first | assumption | grind) (by first | assumption | grind) (by first | assumption | grind) (by first | assumption | grind) (by first | assumption | grind) (by first | assumption | grind)) ?_
  refine X.vc (fun _ => false) 60 ?_
  simp only [↓vc_zero, ↓vc_succ, ↓vn_app, ↓vd_ok, ↓vx_iconst, ↓vx_bipush, ↓vx_sipush, ↓vx_ldc, ↓vx_iload_n, ↓vx_iload, ↓vx_aload_n, ↓vx_aload, ↓vx_istore_n, ↓vx_istore, ↓vx_iinc, ↓vx_iadd, ↓vx_isub, ↓vx_imul, ↓vx_iand, ↓vx_ior, ↓vx_ixor, ↓vx_ishl, ↓vx_ishr, ↓vx_iushr, ↓vx_dup, ↓vx_dup2, ↓vx_goto, ↓vx_if_icmp, ↓vx_ifCond, ↓vx_getfield, ↓vx_putfield, ↓vx_iaload, ↓vx_iastore, ↓vx_baload, ↓vx_bastore, ↓vx_aaload, ↓vx_ireturn, ↓vx_return, ↓vx_invokevirtual, ↓vx_invokestatic, ↓vx_table, ↓vx_lookup, ↓vld_ok, ↓vldr_ok, ↓vst_ok, ↓vic_ok, ↓vgf_ok, ↓vgo_ok, ↓vpf_f, ↓vpf_t, ↓vpo_ok, ↓vkc_ok, ↓vbr_eq, ↓bz_01, bz_0, bz_1, is_app, mset_app, tnc_ok, wr_app, wr_ms, is59_app, vpn_ok, vpn_bz, Option.some.injEq, Sum.inl.injEq, getL, setL, Option.map_some, fvl_ok, mff_ok, jp, icm, inb_ok, ins_ok, zin_ok, rin_ok, vpi_ok, bip_ok, sip_ok, kcf_ok, vsw, vlk, Bool.false_eq_true, ↓reduceIte, true_and, and_true, and_self, Option.toList, List.cons_append, List.nil_append, Fin.isValue, forall_const, false_implies, implies_true, true_implies, reduceCtorEq, or_false, false_or, true_or, or_true, ne_eq, not_false_eq_true, not_true_eq_false, Classical.not_not, Bool.or_false, Bool.false_or, Bool.or_true, Bool.true_or, nat_int, Nat.reduceAdd, Nat.reduceBEq, Nat.reduceEqDiff, Int32.reduceLT, Int32.reduceLE, Int32.reduceAdd, Int32.reduceSub, Int.reduceAdd, Int.reduceToNat, Int.reduceLE, Int.reduceLT, Int.reduceNeg, Int.reduceSub, Int32.reduceOfInt, Nat.reduceMod, Fin.reduceFinMk, D_X8_isDue, rsf_8]
  refine ⟨by grind [bz], fun c1 => ?_⟩
  refine X.callV1 S_8_203 (by decide +kernel) rcv_39 (by decide) (by decide) (Nat.le_of_ble_eq_true rfl) (k8_term _ _ (by first | assumption | grind) (by first | assumption | grind) (by first | assumption | grind) (by first | assumption | grind) (by first | assumption | grind) (by first | assumption | grind)) ?_
  refine X.vc (fun _ => false) 60 ?_
  simp only [↓vc_zero, ↓vc_succ, ↓vn_app, ↓vd_ok, ↓vx_iconst, ↓vx_bipush, ↓vx_sipush, ↓vx_ldc, ↓vx_iload_n, ↓vx_iload, ↓vx_aload_n, ↓vx_aload, ↓vx_istore_n, ↓vx_istore, ↓vx_iinc, ↓vx_iadd, ↓vx_isub, ↓vx_imul, ↓vx_iand, ↓vx_ior, ↓vx_ixor, ↓vx_ishl, ↓vx_ishr, ↓vx_iushr, ↓vx_dup, ↓vx_dup2, ↓vx_goto, ↓vx_if_icmp, ↓vx_ifCond, ↓vx_getfield, ↓vx_putfield, ↓vx_iaload, ↓vx_iastore, ↓vx_baload, ↓vx_bastore, ↓vx_aaload, ↓vx_ireturn, ↓vx_return, ↓vx_invokevirtual, ↓vx_invokestatic, ↓vx_table, ↓vx_lookup, ↓vld_ok, ↓vldr_ok, ↓vst_ok, ↓vic_ok, ↓vgf_ok, ↓vgo_ok, ↓vpf_f, ↓vpf_t, ↓vpo_ok, ↓vkc_ok, ↓vbr_eq, ↓bz_01, bz_0, bz_1, is_app, mset_app, tnc_ok, wr_app, wr_ms, is59_app, vpn_ok, vpn_bz, Option.some.injEq, Sum.inl.injEq, getL, setL, Option.map_some, fvl_ok, mff_ok, jp, icm, inb_ok, ins_ok, zin_ok, rin_ok, vpi_ok, bip_ok, sip_ok, kcf_ok, vsw, vlk, Bool.false_eq_true, ↓reduceIte, true_and, and_true, and_self, Option.toList, List.cons_append, List.nil_append, Fin.isValue, forall_const, false_implies, implies_true, true_implies, reduceCtorEq, or_false, false_or, true_or, or_true, ne_eq, not_false_eq_true, not_true_eq_false, Classical.not_not, Bool.or_false, Bool.false_or, Bool.or_true, Bool.true_or, nat_int, Nat.reduceAdd, Nat.reduceBEq, Nat.reduceEqDiff, Int32.reduceLT, Int32.reduceLE, Int32.reduceAdd, Int32.reduceSub, Int.reduceAdd, Int.reduceToNat, Int.reduceLE, Int.reduceLT, Int.reduceNeg, Int.reduceSub, Int32.reduceOfInt, Nat.reduceMod, Fin.reduceFinMk, D_X8_isDue, rsf_8]
  grind [bz]
/-! living -/
abbrev livP (μ : Mem) (k : Nat) (d : Int32) : Prop := μ 52 k ≤ d ∧ (μ 53 k < 0 ∨ d < μ 53 k)
def liv (μ : Mem) (set d : Int32) : Nat → Int32
  | 0 => 0
  | k + 1 => liv μ set d k ||| (if (set >>> (nI k &&& 31)) &&& 1 = 1 ∧ livP μ k d then (1 : Int32) <<< (nI k &&& 31) else 0)
def rf_living (μ : Mem) (set d : Int32) : Int32 := liv μ set d (μ 39 20).toNatClampNeg
set_option maxRecDepth 100000 in
set_option maxHeartbeats 4000000 in
theorem k8_living (μ : Mem) (set d : Int32) (h4 : 0 ≤ μ 39 20) (h5 : μ 39 20 ≤ 12) : Ct yX8_living 5 cX8_living (some .int) 1 [.inr 39, .inl (set), .inl (d)] μ (Is (some (.inl (rf_living μ set d))) μ) := by
  refine Ct.of (oc := 8) [some (.inr 39), some (.inl (set)), some (.inl (d)), none, none] (by decide +kernel) rfl (Nat.le_of_ble_eq_true rfl) rfl ?_
  obtain ⟨N, hNb, hN⟩ := nIx (M := 12) (n := 12) rfl h4 h5
  refine X.vc (fun q => q == 5) 60 ?_
  simp only [↓vc_zero, ↓vc_succ, ↓vn_app, ↓vd_ok, ↓vx_iconst, ↓vx_bipush, ↓vx_sipush, ↓vx_ldc, ↓vx_iload_n, ↓vx_iload, ↓vx_aload_n, ↓vx_aload, ↓vx_istore_n, ↓vx_istore, ↓vx_iinc, ↓vx_iadd, ↓vx_isub, ↓vx_imul, ↓vx_iand, ↓vx_ior, ↓vx_ixor, ↓vx_ishl, ↓vx_ishr, ↓vx_iushr, ↓vx_dup, ↓vx_dup2, ↓vx_goto, ↓vx_if_icmp, ↓vx_ifCond, ↓vx_getfield, ↓vx_putfield, ↓vx_iaload, ↓vx_iastore, ↓vx_baload, ↓vx_bastore, ↓vx_aaload, ↓vx_ireturn, ↓vx_return, ↓vx_invokevirtual, ↓vx_invokestatic, ↓vx_table, ↓vx_lookup, ↓vld_ok, ↓vldr_ok, ↓vst_ok, ↓vic_ok, ↓vgf_ok, ↓vgo_ok, ↓vpf_f, ↓vpf_t, ↓vpo_ok, ↓vkc_ok, ↓vbr_eq, ↓bz_01, bz_0, bz_1, is_app, mset_app, tnc_ok, wr_app, wr_ms, is59_app, vpn_ok, vpn_bz, Option.some.injEq, Sum.inl.injEq, getL, setL, Option.map_some, fvl_ok, mff_ok, jp, icm, inb_ok, ins_ok, zin_ok, rin_ok, vpi_ok, bip_ok, sip_ok, kcf_ok, vsw, vlk, Bool.false_eq_true, ↓reduceIte, true_and, and_true, and_self, Option.toList, List.cons_append, List.nil_append, Fin.isValue, forall_const, false_implies, implies_true, true_implies, reduceCtorEq, or_false, false_or, true_or, or_true, ne_eq, not_false_eq_true, not_true_eq_false, Classical.not_not, Bool.or_false, Bool.false_or, Bool.or_true, Bool.true_or, nat_int, Nat.reduceAdd, Nat.reduceBEq, Nat.reduceEqDiff, Int32.reduceLT, Int32.reduceLE, Int32.reduceAdd, Int32.reduceSub, Int.reduceAdd, Int.reduceToNat, Int.reduceLE, Int.reduceLT, Int.reduceNeg, Int.reduceSub, Int32.reduceOfInt, Nat.reduceMod, Fin.reduceFinMk, D_X8_living, rsf_8]
  refine dn (N := N) (P := fun k => X 8 5 cX8_living (some .int) 1 (μ) 5 [some (.inr 39), some (.inl (set)), some (.inl (d)), some (.inl (liv μ set d k)), some (.inl (nI k))] [] (Is (some (.inl (rf_living μ set d))) μ)) ?_ ?_
  · refine X.vc (fun _ => false) 60 ?_
    simp only [↓vc_zero, ↓vc_succ, ↓vn_app, ↓vd_ok, ↓vx_iconst, ↓vx_bipush, ↓vx_sipush, ↓vx_ldc, ↓vx_iload_n, ↓vx_iload, ↓vx_aload_n, ↓vx_aload, ↓vx_istore_n, ↓vx_istore, ↓vx_iinc, ↓vx_iadd, ↓vx_isub, ↓vx_imul, ↓vx_iand, ↓vx_ior, ↓vx_ixor, ↓vx_ishl, ↓vx_ishr, ↓vx_iushr, ↓vx_dup, ↓vx_dup2, ↓vx_goto, ↓vx_if_icmp, ↓vx_ifCond, ↓vx_getfield, ↓vx_putfield, ↓vx_iaload, ↓vx_iastore, ↓vx_baload, ↓vx_bastore, ↓vx_aaload, ↓vx_ireturn, ↓vx_return, ↓vx_invokevirtual, ↓vx_invokestatic, ↓vx_table, ↓vx_lookup, ↓vld_ok, ↓vldr_ok, ↓vst_ok, ↓vic_ok, ↓vgf_ok, ↓vgo_ok, ↓vpf_f, ↓vpf_t, ↓vpo_ok, ↓vkc_ok, ↓vbr_eq, ↓bz_01, bz_0, bz_1, is_app, mset_app, tnc_ok, wr_app, wr_ms, is59_app, vpn_ok, vpn_bz, Option.some.injEq, Sum.inl.injEq, getL, setL, Option.map_some, fvl_ok, mff_ok, jp, icm, inb_ok, ins_ok, zin_ok, rin_ok, vpi_ok, bip_ok, sip_ok, kcf_ok, vsw, vlk, Bool.false_eq_true, ↓reduceIte, true_and, and_true, and_self, Option.toList, List.cons_append, List.nil_append, Fin.isValue, forall_const, false_implies, implies_true, true_implies, reduceCtorEq, or_false, false_or, true_or, or_true, ne_eq, not_false_eq_true, not_true_eq_false, Classical.not_not, Bool.or_false, Bool.false_or, Bool.or_true, Bool.true_or, nat_int, Nat.reduceAdd, Nat.reduceBEq, Nat.reduceEqDiff, Int32.reduceLT, Int32.reduceLE, Int32.reduceAdd, Int32.reduceSub, Int.reduceAdd, Int.reduceToNat, Int.reduceLE, Int.reduceLT, Int.reduceNeg, Int.reduceSub, Int32.reduceOfInt, Nat.reduceMod, Fin.reduceFinMk, D_X8_living, rsf_8, hN, idx_end]
    have e : (μ 39 20).toNatClampNeg = N := by rw [hN]; exact nI_clamp (by omega)
    rw [rf_living, e]
  · intro k hk ih
    obtain ⟨i0, i1, i2, i3, i4, i5⟩ := idx (m := 12) rfl hk hNb (by decide)
    have e : liv μ set d (k + 1) = liv μ set d k ||| (if (set >>> (nI k &&& 31)) &&& 1 = 1 ∧ livP μ k d then (1 : Int32) <<< (nI k &&& 31) else 0) := rfl
    rw [e] at ih
    refine X.vc (fun q => q == 5) 60 ?_
    simp only [↓vc_zero, ↓vc_succ, ↓vn_app, ↓vd_ok, ↓vx_iconst, ↓vx_bipush, ↓vx_sipush, ↓vx_ldc, ↓vx_iload_n, ↓vx_iload, ↓vx_aload_n, ↓vx_aload, ↓vx_istore_n, ↓vx_istore, ↓vx_iinc, ↓vx_iadd, ↓vx_isub, ↓vx_imul, ↓vx_iand, ↓vx_ior, ↓vx_ixor, ↓vx_ishl, ↓vx_ishr, ↓vx_iushr, ↓vx_dup, ↓vx_dup2, ↓vx_goto, ↓vx_if_icmp, ↓vx_ifCond, ↓vx_getfield, ↓vx_putfield, ↓vx_iaload, ↓vx_iastore, ↓vx_baload, ↓vx_bastore, ↓vx_aaload, ↓vx_ireturn, ↓vx_return, ↓vx_invokevirtual, ↓vx_invokestatic, ↓vx_table, ↓vx_lookup, ↓vld_ok, ↓vldr_ok, ↓vst_ok, ↓vic_ok, ↓vgf_ok, ↓vgo_ok, ↓vpf_f, ↓vpf_t, ↓vpo_ok, ↓vkc_ok, ↓vbr_eq, ↓bz_01, bz_0, bz_1, is_app, mset_app, tnc_ok, wr_app, wr_ms, is59_app, vpn_ok, vpn_bz, Option.some.injEq, Sum.inl.injEq, getL, setL, Option.map_some, fvl_ok, mff_ok, jp, icm, inb_ok, ins_ok, zin_ok, rin_ok, vpi_ok, bip_ok, sip_ok, kcf_ok, vsw, vlk, Bool.false_eq_true, ↓reduceIte, true_and, and_true, and_self, Option.toList, List.cons_append, List.nil_append, Fin.isValue, forall_const, false_implies, implies_true, true_implies, reduceCtorEq, or_false, false_or, true_or, or_true, ne_eq, not_false_eq_true, not_true_eq_false, Classical.not_not, Bool.or_false, Bool.false_or, Bool.or_true, Bool.true_or, nat_int, Nat.reduceAdd, Nat.reduceBEq, Nat.reduceEqDiff, Int32.reduceLT, Int32.reduceLE, Int32.reduceAdd, Int32.reduceSub, Int.reduceAdd, Int.reduceToNat, Int.reduceLE, Int.reduceLT, Int.reduceNeg, Int.reduceSub, Int32.reduceOfInt, Nat.reduceMod, Fin.reduceFinMk, D_X8_living, rsf_8, hN, i2, i3, i4]
    refine ⟨fun c => ?_, fun c => ?_⟩
    · simpa [c] using ih
    · refine X.callV2 S_8_206 (by decide +kernel) rcv_39 (by decide) (by decide) (Nat.le_of_ble_eq_true rfl) (k8_lives _ _ _ (by first | assumption | grind) (by first | assumption | grind)) ?_
      refine X.vc (fun q => q == 5) 60 ?_
      simp only [↓vc_zero, ↓vc_succ, ↓vn_app, ↓vd_ok, ↓vx_iconst, ↓vx_bipush, ↓vx_sipush, ↓vx_ldc, ↓vx_iload_n, ↓vx_iload, ↓vx_aload_n, ↓vx_aload, ↓vx_istore_n, ↓vx_istore, ↓vx_iinc, ↓vx_iadd, ↓vx_isub, ↓vx_imul, ↓vx_iand, ↓vx_ior, ↓vx_ixor, ↓vx_ishl, ↓vx_ishr, ↓vx_iushr, ↓vx_dup, ↓vx_dup2, ↓vx_goto, ↓vx_if_icmp, ↓vx_ifCond, ↓vx_getfield, ↓vx_putfield, ↓vx_iaload, ↓vx_iastore, ↓vx_baload, ↓vx_bastore, ↓vx_aaload, ↓vx_ireturn, ↓vx_return, ↓vx_invokevirtual, ↓vx_invokestatic, ↓vx_table, ↓vx_lookup, ↓vld_ok, ↓vldr_ok, ↓vst_ok, ↓vic_ok, ↓vgf_ok, ↓vgo_ok, ↓vpf_f, ↓vpf_t, ↓vpo_ok, ↓vkc_ok, ↓vbr_eq, ↓bz_01, bz_0, bz_1, is_app, mset_app, tnc_ok, wr_app, wr_ms, is59_app, vpn_ok, vpn_bz, Option.some.injEq, Sum.inl.injEq, getL, setL, Option.map_some, fvl_ok, mff_ok, jp, icm, inb_ok, ins_ok, zin_ok, rin_ok, vpi_ok, bip_ok, sip_ok, kcf_ok, vsw, vlk, Bool.false_eq_true, ↓reduceIte, true_and, and_true, and_self, Option.toList, List.cons_append, List.nil_append, Fin.isValue, forall_const, false_implies, implies_true, true_implies, reduceCtorEq, or_false, false_or, true_or, or_true, ne_eq, not_false_eq_true, not_true_eq_false, Classical.not_not, Bool.or_false, Bool.false_or, Bool.or_true, Bool.true_or, nat_int, Nat.reduceAdd, Nat.reduceBEq, Nat.reduceEqDiff, Int32.reduceLT, Int32.reduceLE, Int32.reduceAdd, Int32.reduceSub, Int.reduceAdd, Int.reduceToNat, Int.reduceLE, Int.reduceLT, Int.reduceNeg, Int.reduceSub, Int32.reduceOfInt, Nat.reduceMod, Fin.reduceFinMk, D_X8_living, rsf_8, hN, i3, i4]
      refine ⟨fun c2 => ?_, fun c2 => ?_⟩
      · rw [if_neg (fun z => c2 z.2)] at ih
        exact ih
      · rw [if_pos ⟨c, c2⟩] at ih
        exact ih
/-! texts -/
def dpt (μ : Mem) (B : Nat) : Nat → Nat
  | 0 => 0
  | k + 1 => if μ 55 (B + k) = 4 then dpt μ B k else if 4 < μ 55 (B + k) then dpt μ B k - 1 else dpt μ B k + 1
def tv (μ : Mem) (v : Int32) (B : Nat) : Nat → Nat → Bool
  | 0, _ => false
  | k + 1, i => if μ 55 (B + k) = 4 then (if i = dpt μ B k - 1 then !(tv μ v B k i) else tv μ v B k i)
    else if 4 < μ 55 (B + k) then (if i = dpt μ B k - 2 then (if μ 55 (B + k) = 5 then tv μ v B k i && tv μ v B k (i + 1) else tv μ v B k i || tv μ v B k (i + 1)) else tv μ v B k i)
    else (if i = dpt μ B k then rf_atom μ (μ 55 (B + k)) (μ 56 (B + k)) (μ 57 (B + k)) v else tv μ v B k i)
def Wf (μ : Mem) (B n : Nat) : Prop := n ≤ 60 ∧ 1 ≤ dpt μ B n ∧ ∀ k, k < n → dpt μ B k ≤ 30 ∧ (μ 55 (B + k) = 4 → 1 ≤ dpt μ B k) ∧ (4 < μ 55 (B + k) → 2 ≤ dpt μ B k)
def rf_fit (μ : Mem) (H : Nat) (v : Int32) : Bool := tv μ v (64 * H) (μ 54 H).toNatClampNeg 0
theorem nI_sub1 {d : Nat} (h : 1 ≤ d) : nI d - 1 = nI (d - 1) := by
  have := nI_pred (d - 1)
  rwa [Nat.sub_add_cancel h] at this
theorem nI_subm {d : Nat} (h : 1 ≤ d) : nI d + -1 = nI (d - 1) := by
  have := pk_m1 (d - 1)
  rwa [Nat.sub_add_cancel h] at this
theorem idx64 {d : Nat} (h : d < 64) : 0 ≤ nI d ∧ nI d < 64 ∧ (nI d).toNatClampNeg = d := ⟨nI_pos' (by omega), nI_lt (b := 64) h (by decide), nI_clamp (by omega)⟩
set_option maxRecDepth 100000 in
set_option maxHeartbeats 4000000 in
theorem k8_isFit (μ : Mem) (H : Nat) (v : Int32) (hH : H ≤ 12) (h0 : 0 ≤ v) (h1 : v < 120) (h2 : 0 ≤ μ 43 v.toNatClampNeg) (h3 : μ 43 v.toNatClampNeg < 40) (n : Nat) (hn : μ 54 H = nI n) (hw : Wf μ (64 * H) n) : Ct yX8_isFit 6 cX8_isFit (some .boolean) 2 [.inr 39, .inl (nI H), .inl (v)] μ (Is59 (some (.inl (bz (rf_fit μ H v = true)))) μ) := by
  refine Ct.of (oc := 8) [some (.inr 39), some (.inl (nI H)), some (.inl (v)), none, none, none] (by decide +kernel) rfl (Nat.le_of_ble_eq_true rfl) rfl ?_
  obtain ⟨hn60, hfin, hwf⟩ := hw
  have hHc : (nI H).toNatClampNeg = H := nI_clamp (by omega)
  have hH0 : 0 ≤ nI H := nI_pos' (by omega)
  have hH1 : nI H < 13 := nI_lt (b := 13) (by omega) (by decide)
  have hm : (64 : Int32) * nI H = nI (64 * H) := pk_mul 64 H
  refine X.vc (fun q => q == 8) 60 ?_
  simp only [↓vc_zero, ↓vc_succ, ↓vn_app, ↓vd_ok, ↓vx_iconst, ↓vx_bipush, ↓vx_sipush, ↓vx_ldc, ↓vx_iload_n, ↓vx_iload, ↓vx_aload_n, ↓vx_aload, ↓vx_istore_n, ↓vx_istore, ↓vx_iinc, ↓vx_iadd, ↓vx_isub, ↓vx_imul, ↓vx_iand, ↓vx_ior, ↓vx_ixor, ↓vx_ishl, ↓vx_ishr, ↓vx_iushr, ↓vx_dup, ↓vx_dup2, ↓vx_goto, ↓vx_if_icmp, ↓vx_ifCond, ↓vx_getfield, ↓vx_putfield, ↓vx_iaload, ↓vx_iastore, ↓vx_baload, ↓vx_bastore, ↓vx_aaload, ↓vx_ireturn, ↓vx_return, ↓vx_invokevirtual, ↓vx_invokestatic, ↓vx_table, ↓vx_lookup, ↓vld_ok, ↓vldr_ok, ↓vst_ok, ↓vic_ok, ↓vgf_ok, ↓vgo_ok, ↓vpf_f, ↓vpf_t, ↓vpo_ok, ↓vkc_ok, ↓vbr_eq, ↓bz_01, bz_0, bz_1, is_app, mset_app, tnc_ok, wr_app, wr_ms, is59_app, vpn_ok, vpn_bz, Option.some.injEq, Sum.inl.injEq, getL, setL, Option.map_some, fvl_ok, mff_ok, jp, icm, inb_ok, ins_ok, zin_ok, rin_ok, vpi_ok, bip_ok, sip_ok, kcf_ok, vsw, vlk, Bool.false_eq_true, ↓reduceIte, true_and, and_true, and_self, Option.toList, List.cons_append, List.nil_append, Fin.isValue, forall_const, false_implies, implies_true, true_implies, reduceCtorEq, or_false, false_or, true_or, or_true, ne_eq, not_false_eq_true, not_true_eq_false, Classical.not_not, Bool.or_false, Bool.false_or, Bool.or_true, Bool.true_or, nat_int, Nat.reduceAdd, Nat.reduceBEq, Nat.reduceEqDiff, Int32.reduceLT, Int32.reduceLE, Int32.reduceAdd, Int32.reduceSub, Int.reduceAdd, Int.reduceToNat, Int.reduceLE, Int.reduceLT, Int.reduceNeg, Int.reduceSub, Int32.reduceOfInt, Nat.reduceMod, Fin.reduceFinMk, D_X8_isFit, rsf_8, hm]
  have key : ∀ ρ : Nat → Int32, (∀ i, i < dpt μ (64 * H) 0 → ρ i = bz (tv μ v (64 * H) 0 i = true)) → X 8 6 cX8_isFit (some .boolean) 2 (wr μ ρ) 8 [some (.inr 39), some (.inl (nI H)), some (.inl (v)), some (.inl (nI (dpt μ (64 * H) 0))), some (.inl (nI (64 * H + 0))), none] [] (Is59 (some (.inl (bz (rf_fit μ H v = true)))) μ) := by
    refine dn (N := n) (P := fun k => ∀ ρ : Nat → Int32, (∀ i, i < dpt μ (64 * H) k → ρ i = bz (tv μ v (64 * H) k i = true)) → X 8 6 cX8_isFit (some .boolean) 2 (wr μ ρ) 8 [some (.inr 39), some (.inl (nI H)), some (.inl (v)), some (.inl (nI (dpt μ (64 * H) k))), some (.inl (nI (64 * H + k))), none] [] (Is59 (some (.inl (bz (rf_fit μ H v = true)))) μ)) ?_ ?_
    · intro ρ hρ
      have ha : nI (64 * H) + nI n = nI (64 * H + n) := nI_add _ _
      have hz := hρ 0 (by omega)
      refine X.vc (fun _ => false) 60 ?_
      simp only [↓vc_zero, ↓vc_succ, ↓vn_app, ↓vd_ok, ↓vx_iconst, ↓vx_bipush, ↓vx_sipush, ↓vx_ldc, ↓vx_iload_n, ↓vx_iload, ↓vx_aload_n, ↓vx_aload, ↓vx_istore_n, ↓vx_istore, ↓vx_iinc, ↓vx_iadd, ↓vx_isub, ↓vx_imul, ↓vx_iand, ↓vx_ior, ↓vx_ixor, ↓vx_ishl, ↓vx_ishr, ↓vx_iushr, ↓vx_dup, ↓vx_dup2, ↓vx_goto, ↓vx_if_icmp, ↓vx_ifCond, ↓vx_getfield, ↓vx_putfield, ↓vx_iaload, ↓vx_iastore, ↓vx_baload, ↓vx_bastore, ↓vx_aaload, ↓vx_ireturn, ↓vx_return, ↓vx_invokevirtual, ↓vx_invokestatic, ↓vx_table, ↓vx_lookup, ↓vld_ok, ↓vldr_ok, ↓vst_ok, ↓vic_ok, ↓vgf_ok, ↓vgo_ok, ↓vpf_f, ↓vpf_t, ↓vpo_ok, ↓vkc_ok, ↓vbr_eq, ↓bz_01, bz_0, bz_1, is_app, mset_app, tnc_ok, wr_app, wr_ms, is59_app, vpn_ok, vpn_bz, Option.some.injEq, Sum.inl.injEq, getL, setL, Option.map_some, fvl_ok, mff_ok, jp, icm, inb_ok, ins_ok, zin_ok, rin_ok, vpi_ok, bip_ok, sip_ok, kcf_ok, vsw, vlk, Bool.false_eq_true, ↓reduceIte, true_and, and_true, and_self, Option.toList, List.cons_append, List.nil_append, Fin.isValue, forall_const, false_implies, implies_true, true_implies, reduceCtorEq, or_false, false_or, true_or, or_true, ne_eq, not_false_eq_true, not_true_eq_false, Classical.not_not, Bool.or_false, Bool.false_or, Bool.or_true, Bool.true_or, nat_int, Nat.reduceAdd, Nat.reduceBEq, Nat.reduceEqDiff, Int32.reduceLT, Int32.reduceLE, Int32.reduceAdd, Int32.reduceSub, Int.reduceAdd, Int.reduceToNat, Int.reduceLE, Int.reduceLT, Int.reduceNeg, Int.reduceSub, Int32.reduceOfInt, Nat.reduceMod, Fin.reduceFinMk, D_X8_isFit, rsf_8, hm, hHc, hH0, hH1, hn, ha, idx_end, hz]
      have e : (μ 54 H).toNatClampNeg = n := by rw [hn]; exact nI_clamp (by omega)
      rw [rf_fit, e]
      exact ⟨rfl, ρ, rfl⟩
    · intro k hk ih ρ hρ
      obtain ⟨hd30, hd4, hd5⟩ := hwf k hk
      have ha : nI (64 * H) + nI n = nI (64 * H + n) := nI_add _ _
      have hlt : (nI (64 * H + n) ≤ nI (64 * H + k)) = False := eq_false (nI_ge (by omega) (by omega))
      have hB0 : 0 ≤ nI (64 * H + k) := nI_pos' (by omega)
      have hB1 : nI (64 * H + k) < 832 := nI_lt (b := 832) (by omega) (by decide)
      have hBc : (nI (64 * H + k)).toNatClampNeg = 64 * H + k := nI_clamp (by omega)
      have hBs : nI (64 * H + k) + 1 = nI (64 * H + (k + 1)) := nI_1 _
      obtain ⟨d0, d1, d2⟩ := idx64 (d := dpt μ (64 * H) k) (by omega)
      by_cases hw4 : μ 55 (64 * H + k) = 4
      · have hd := hd4 hw4
        have e1 := nI_sub1 hd
        obtain ⟨f0, f1, f2⟩ := idx64 (d := dpt μ (64 * H) k - 1) (by omega)
        have hr := hρ (dpt μ (64 * H) k - 1) (by omega)
        refine X.vc (fun q => q == 8) 60 ?_
        simp only [↓vc_zero, ↓vc_succ, ↓vn_app, ↓vd_ok, ↓vx_iconst, ↓vx_bipush, ↓vx_sipush, ↓vx_ldc, ↓vx_iload_n, ↓vx_iload, ↓vx_aload_n, ↓vx_aload, ↓vx_istore_n, ↓vx_istore, ↓vx_iinc, ↓vx_iadd, ↓vx_isub, ↓vx_imul, ↓vx_iand, ↓vx_ior, ↓vx_ixor, ↓vx_ishl, ↓vx_ishr, ↓vx_iushr, ↓vx_dup, ↓vx_dup2, ↓vx_goto, ↓vx_if_icmp, ↓vx_ifCond, ↓vx_getfield, ↓vx_putfield, ↓vx_iaload, ↓vx_iastore, ↓vx_baload, ↓vx_bastore, ↓vx_aaload, ↓vx_ireturn, ↓vx_return, ↓vx_invokevirtual, ↓vx_invokestatic, ↓vx_table, ↓vx_lookup, ↓vld_ok, ↓vldr_ok, ↓vst_ok, ↓vic_ok, ↓vgf_ok, ↓vgo_ok, ↓vpf_f, ↓vpf_t, ↓vpo_ok, ↓vkc_ok, ↓vbr_eq, ↓bz_01, bz_0, bz_1, is_app, mset_app, tnc_ok, wr_app, wr_ms, is59_app, vpn_ok, vpn_bz, Option.some.injEq, Sum.inl.injEq, getL, setL, Option.map_some, fvl_ok, mff_ok, jp, icm, inb_ok, ins_ok, zin_ok, rin_ok, vpi_ok, bip_ok, sip_ok, kcf_ok, vsw, vlk, Bool.false_eq_true, ↓reduceIte, true_and, and_true, and_self, Option.toList, List.cons_append, List.nil_append, Fin.isValue, forall_const, false_implies, implies_true, true_implies, reduceCtorEq, or_false, false_or, true_or, or_true, ne_eq, not_false_eq_true, not_true_eq_false, Classical.not_not, Bool.or_false, Bool.false_or, Bool.or_true, Bool.true_or, nat_int, Nat.reduceAdd, Nat.reduceBEq, Nat.reduceEqDiff, Int32.reduceLT, Int32.reduceLE, Int32.reduceAdd, Int32.reduceSub, Int.reduceAdd, Int.reduceToNat, Int.reduceLE, Int.reduceLT, Int.reduceNeg, Int.reduceSub, Int32.reduceOfInt, Nat.reduceMod, Fin.reduceFinMk, D_X8_isFit, rsf_8, hm, hHc, hH0, hH1, hn, ha, hlt, hB0, hB1, hBc, hBs, hw4, e1, f0, f1, f2, hr]
        have ed : dpt μ (64 * H) (k + 1) = dpt μ (64 * H) k := by simp [dpt, hw4]
        simp only [ed] at ih
        refine ⟨fun c => X.drop 5 (ih _ (fun i hi => ?_)), fun c => X.drop 5 (ih _ (fun i hi => ?_))⟩
        · have := hρ i hi
          grind [upd, tv, bz]
        · have := hρ i hi
          grind [upd, tv, bz]
      · by_cases hw5 : 4 < μ 55 (64 * H + k)
        · have hd := hd5 hw5
          have e1 := nI_subm (d := dpt μ (64 * H) k) (by omega)
          have e2 := nI_sub1 (d := dpt μ (64 * H) k - 1) (by omega)
          obtain ⟨f0, f1, f2⟩ := idx64 (d := dpt μ (64 * H) k - 1) (by omega)
          obtain ⟨g0, g1, g2⟩ := idx64 (d := dpt μ (64 * H) k - 1 - 1) (by omega)
          have hr := hρ (dpt μ (64 * H) k - 1) (by omega)
          have hr2 := hρ (dpt μ (64 * H) k - 1 - 1) (by omega)
          have hw6 : (μ 55 (64 * H + k) ≤ 4) = False := eq_false (by grind)
          have ed : dpt μ (64 * H) (k + 1) = dpt μ (64 * H) k - 1 := by simp [dpt, hw4, hw5]
          simp only [ed] at ih
          by_cases hw7 : μ 55 (64 * H + k) = 5
          · have hw8 := eq_true hw7
            refine X.vc (fun q => q == 8) 70 ?_
            simp only [↓vc_zero, ↓vc_succ, ↓vn_app, ↓vd_ok, ↓vx_iconst, ↓vx_bipush, ↓vx_sipush, ↓vx_ldc, ↓vx_iload_n, ↓vx_iload, ↓vx_aload_n, ↓vx_aload, ↓vx_istore_n, ↓vx_istore, ↓vx_iinc, ↓vx_iadd, ↓vx_isub, ↓vx_imul, ↓vx_iand, ↓vx_ior, ↓vx_ixor, ↓vx_ishl, ↓vx_ishr, ↓vx_iushr, ↓vx_dup, ↓vx_dup2, ↓vx_goto, ↓vx_if_icmp, ↓vx_ifCond, ↓vx_getfield, ↓vx_putfield, ↓vx_iaload, ↓vx_iastore, ↓vx_baload, ↓vx_bastore, ↓vx_aaload, ↓vx_ireturn, ↓vx_return, ↓vx_invokevirtual, ↓vx_invokestatic, ↓vx_table, ↓vx_lookup, ↓vld_ok, ↓vldr_ok, ↓vst_ok, ↓vic_ok, ↓vgf_ok, ↓vgo_ok, ↓vpf_f, ↓vpf_t, ↓vpo_ok, ↓vkc_ok, ↓vbr_eq, ↓bz_01, bz_0, bz_1, is_app, mset_app, tnc_ok, wr_app, wr_ms, is59_app, vpn_ok, vpn_bz, Option.some.injEq, Sum.inl.injEq, getL, setL, Option.map_some, fvl_ok, mff_ok, jp, icm, inb_ok, ins_ok, zin_ok, rin_ok, vpi_ok, bip_ok, sip_ok, kcf_ok, vsw, vlk, Bool.false_eq_true, ↓reduceIte, true_and, and_true, and_self, Option.toList, List.cons_append, List.nil_append, Fin.isValue, forall_const, false_implies, implies_true, true_implies, reduceCtorEq, or_false, false_or, true_or, or_true, ne_eq, not_false_eq_true, not_true_eq_false, Classical.not_not, Bool.or_false, Bool.false_or, Bool.or_true, Bool.true_or, nat_int, Nat.reduceAdd, Nat.reduceBEq, Nat.reduceEqDiff, Int32.reduceLT, Int32.reduceLE, Int32.reduceAdd, Int32.reduceSub, Int.reduceAdd, Int.reduceToNat, Int.reduceLE, Int.reduceLT, Int.reduceNeg, Int.reduceSub, Int32.reduceOfInt, Nat.reduceMod, Fin.reduceFinMk, D_X8_isFit, rsf_8, hm, hHc, hH0, hH1, hn, ha, hlt, hB0, hB1, hBc, hBs, hw4, hw6, hw8, e1, e2, f0, f1, f2, g0, g1, g2, hr, hr2]
            refine ⟨fun c => X.drop 5 (ih _ (fun i hi => ?_)), fun c => ⟨fun c' => X.drop 5 (ih _ (fun i hi => ?_)), fun c' => X.drop 5 (ih _ (fun i hi => ?_))⟩⟩
            · have := hρ i (by omega)
              grind [upd, tv, bz]
            · have := hρ i (by omega)
              grind [upd, tv, bz]
            · have := hρ i (by omega)
              grind [upd, tv, bz]
          · refine X.vc (fun q => q == 8) 70 ?_
            simp only [↓vc_zero, ↓vc_succ, ↓vn_app, ↓vd_ok, ↓vx_iconst, ↓vx_bipush, ↓vx_sipush, ↓vx_ldc, ↓vx_iload_n, ↓vx_iload, ↓vx_aload_n, ↓vx_aload, ↓vx_istore_n, ↓vx_istore, ↓vx_iinc, ↓vx_iadd, ↓vx_isub, ↓vx_imul, ↓vx_iand, ↓vx_ior, ↓vx_ixor, ↓vx_ishl, ↓vx_ishr, ↓vx_iushr, ↓vx_dup, ↓vx_dup2, ↓vx_goto, ↓vx_if_icmp, ↓vx_ifCond, ↓vx_getfield, ↓vx_putfield, ↓vx_iaload, ↓vx_iastore, ↓vx_baload, ↓vx_bastore, ↓vx_aaload, ↓vx_ireturn, ↓vx_return, ↓vx_invokevirtual, ↓vx_invokestatic, ↓vx_table, ↓vx_lookup, ↓vld_ok, ↓vldr_ok, ↓vst_ok, ↓vic_ok, ↓vgf_ok, ↓vgo_ok, ↓vpf_f, ↓vpf_t, ↓vpo_ok, ↓vkc_ok, ↓vbr_eq, ↓bz_01, bz_0, bz_1, is_app, mset_app, tnc_ok, wr_app, wr_ms, is59_app, vpn_ok, vpn_bz, Option.some.injEq, Sum.inl.injEq, getL, setL, Option.map_some, fvl_ok, mff_ok, jp, icm, inb_ok, ins_ok, zin_ok, rin_ok, vpi_ok, bip_ok, sip_ok, kcf_ok, vsw, vlk, Bool.false_eq_true, ↓reduceIte, true_and, and_true, and_self, Option.toList, List.cons_append, List.nil_append, Fin.isValue, forall_const, false_implies, implies_true, true_implies, reduceCtorEq, or_false, false_or, true_or, or_true, ne_eq, not_false_eq_true, not_true_eq_false, Classical.not_not, Bool.or_false, Bool.false_or, Bool.or_true, Bool.true_or, nat_int, Nat.reduceAdd, Nat.reduceBEq, Nat.reduceEqDiff, Int32.reduceLT, Int32.reduceLE, Int32.reduceAdd, Int32.reduceSub, Int.reduceAdd, Int.reduceToNat, Int.reduceLE, Int.reduceLT, Int.reduceNeg, Int.reduceSub, Int32.reduceOfInt, Nat.reduceMod, Fin.reduceFinMk, D_X8_isFit, rsf_8, hm, hHc, hH0, hH1, hn, ha, hlt, hB0, hB1, hBc, hBs, hw4, hw6, hw7, e1, e2, f0, f1, f2, g0, g1, g2, hr, hr2]
            refine ⟨fun c => X.drop 5 (ih _ (fun i hi => ?_)), fun c => ⟨fun c' => X.drop 5 (ih _ (fun i hi => ?_)), fun c' => X.drop 5 (ih _ (fun i hi => ?_))⟩⟩
            · have := hρ i (by omega)
              grind [upd, tv, bz]
            · have := hρ i (by omega)
              grind [upd, tv, bz]
            · have := hρ i (by omega)
              grind [upd, tv, bz]
        · have hw6 : (μ 55 (64 * H + k) ≤ 4) = True := eq_true (by grind)
          have ed : dpt μ (64 * H) (k + 1) = dpt μ (64 * H) k + 1 := by simp [dpt, hw4, hw5]
          have e1 : nI (dpt μ (64 * H) k) + 1 = nI (dpt μ (64 * H) k + 1) := nI_1 _
          simp only [ed] at ih
          refine X.vc (fun q => q == 8) 70 ?_
          simp only [↓vc_zero, ↓vc_succ, ↓vn_app, ↓vd_ok, ↓vx_iconst, ↓vx_bipush, ↓vx_sipush, ↓vx_ldc, ↓vx_iload_n, ↓vx_iload, ↓vx_aload_n, ↓vx_aload, ↓vx_istore_n, ↓vx_istore, ↓vx_iinc, ↓vx_iadd, ↓vx_isub, ↓vx_imul, ↓vx_iand, ↓vx_ior, ↓vx_ixor, ↓vx_ishl, ↓vx_ishr, ↓vx_iushr, ↓vx_dup, ↓vx_dup2, ↓vx_goto, ↓vx_if_icmp, ↓vx_ifCond, ↓vx_getfield, ↓vx_putfield, ↓vx_iaload, ↓vx_iastore, ↓vx_baload, ↓vx_bastore, ↓vx_aaload, ↓vx_ireturn, ↓vx_return, ↓vx_invokevirtual, ↓vx_invokestatic, ↓vx_table, ↓vx_lookup, ↓vld_ok, ↓vldr_ok, ↓vst_ok, ↓vic_ok, ↓vgf_ok, ↓vgo_ok, ↓vpf_f, ↓vpf_t, ↓vpo_ok, ↓vkc_ok, ↓vbr_eq, ↓bz_01, bz_0, bz_1, is_app, mset_app, tnc_ok, wr_app, wr_ms, is59_app, vpn_ok, vpn_bz, Option.some.injEq, Sum.inl.injEq, getL, setL, Option.map_some, fvl_ok, mff_ok, jp, icm, inb_ok, ins_ok, zin_ok, rin_ok, vpi_ok, bip_ok, sip_ok, kcf_ok, vsw, vlk, Bool.false_eq_true, ↓reduceIte, true_and, and_true, and_self, Option.toList, List.cons_append, List.nil_append, Fin.isValue, forall_const, false_implies, implies_true, true_implies, reduceCtorEq, or_false, false_or, true_or, or_true, ne_eq, not_false_eq_true, not_true_eq_false, Classical.not_not, Bool.or_false, Bool.false_or, Bool.or_true, Bool.true_or, nat_int, Nat.reduceAdd, Nat.reduceBEq, Nat.reduceEqDiff, Int32.reduceLT, Int32.reduceLE, Int32.reduceAdd, Int32.reduceSub, Int.reduceAdd, Int.reduceToNat, Int.reduceLE, Int.reduceLT, Int.reduceNeg, Int.reduceSub, Int32.reduceOfInt, Nat.reduceMod, Fin.reduceFinMk, D_X8_isFit, rsf_8, hm, hHc, hH0, hH1, hn, ha, hlt, hB0, hB1, hBc, hBs, hw4, hw6]
          refine X.callV4 S_8_189 (by decide +kernel) rcv_39 (by decide) (by decide) (Nat.le_of_ble_eq_true rfl) (k8_atom (wr μ ρ) _ _ _ v h0 h1 (by simpa [wr_app] using h2) (by simpa [wr_app] using h3)) ?_
          refine X.vc (fun q => q == 8) 70 ?_
          simp only [↓vc_zero, ↓vc_succ, ↓vn_app, ↓vd_ok, ↓vx_iconst, ↓vx_bipush, ↓vx_sipush, ↓vx_ldc, ↓vx_iload_n, ↓vx_iload, ↓vx_aload_n, ↓vx_aload, ↓vx_istore_n, ↓vx_istore, ↓vx_iinc, ↓vx_iadd, ↓vx_isub, ↓vx_imul, ↓vx_iand, ↓vx_ior, ↓vx_ixor, ↓vx_ishl, ↓vx_ishr, ↓vx_iushr, ↓vx_dup, ↓vx_dup2, ↓vx_goto, ↓vx_if_icmp, ↓vx_ifCond, ↓vx_getfield, ↓vx_putfield, ↓vx_iaload, ↓vx_iastore, ↓vx_baload, ↓vx_bastore, ↓vx_aaload, ↓vx_ireturn, ↓vx_return, ↓vx_invokevirtual, ↓vx_invokestatic, ↓vx_table, ↓vx_lookup, ↓vld_ok, ↓vldr_ok, ↓vst_ok, ↓vic_ok, ↓vgf_ok, ↓vgo_ok, ↓vpf_f, ↓vpf_t, ↓vpo_ok, ↓vkc_ok, ↓vbr_eq, ↓bz_01, bz_0, bz_1, is_app, mset_app, tnc_ok, wr_app, wr_ms, is59_app, vpn_ok, vpn_bz, Option.some.injEq, Sum.inl.injEq, getL, setL, Option.map_some, fvl_ok, mff_ok, jp, icm, inb_ok, ins_ok, zin_ok, rin_ok, vpi_ok, bip_ok, sip_ok, kcf_ok, vsw, vlk, Bool.false_eq_true, ↓reduceIte, true_and, and_true, and_self, Option.toList, List.cons_append, List.nil_append, Fin.isValue, forall_const, false_implies, implies_true, true_implies, reduceCtorEq, or_false, false_or, true_or, or_true, ne_eq, not_false_eq_true, not_true_eq_false, Classical.not_not, Bool.or_false, Bool.false_or, Bool.or_true, Bool.true_or, nat_int, Nat.reduceAdd, Nat.reduceBEq, Nat.reduceEqDiff, Int32.reduceLT, Int32.reduceLE, Int32.reduceAdd, Int32.reduceSub, Int.reduceAdd, Int.reduceToNat, Int.reduceLE, Int.reduceLT, Int.reduceNeg, Int.reduceSub, Int32.reduceOfInt, Nat.reduceMod, Fin.reduceFinMk, D_X8_isFit, rsf_8, hBs, d0, d1, d2, e1]
          refine X.drop 5 (ih _ (fun i hi => ?_))
          by_cases hi2 : i = dpt μ (64 * H) k
          · grind [upd, tv, bz, rf_atom_wr]
          · have := hρ i (by omega)
            grind [upd, tv, bz, rf_atom_wr]
  have hh := key (μ 59) (fun i hi => absurd hi (Nat.not_lt_zero i))
  rw [wr_self] at hh
  exact hh
