/-! backup -/
def bkm (μ : Mem) (s : Int32) : Nat → Mem
  | 0 => mset μ 49 (μ 39 15).toNatClampNeg s
  | k + 1 => mset (bkm μ s k) 50 (120 * μ 39 15 + nI k).toNatClampNeg (bz ((μ 46 k >>> (s &&& 31)) &&& 1 = 1))
theorem bkm_row {μ : Mem} {s : Int32} {a : Nat} (h1 : a ≠ 49) (h2 : a ≠ 50) : ∀ k, bkm μ s k a = μ a
  | 0 => mset_ne a h1
  | k + 1 => by
    unfold bkm
    rw [mset_ne a h2, bkm_row h1 h2 k]
abbrev ok_backup (μ : Mem) (s : Int32) : Prop := ((0 ≤ s ∧ s ≤ 5) ∧ (μ 39 10 >>> (s &&& 31)) &&& 1 = 0) ∧ ¬ μ 39 15 = 10
def rf_backup (μ : Mem) (s : Int32) : Int32 := if ok_backup μ s then μ 39 15 else -1
def gf_backup (μ : Mem) (s : Int32) : Mem := if ok_backup μ s then mset (bkm μ s (μ 39 5).toNatClampNeg) 39 15 (μ 39 15 + 1) else μ
set_option maxRecDepth 100000 in
set_option maxHeartbeats 1000000 in
theorem k8_backup (μ : Mem) (s : Int32) (h2 : 0 ≤ μ 39 5) (h3 : μ 39 5 ≤ 120) (b0 : 0 ≤ μ 39 15) (b1 : μ 39 15 ≤ 10) : Ct yX8_backup 3 cX8_backup (some .int) 2 [.inr 39, .inl (s)] μ (Is (some (.inl (rf_backup μ s))) (gf_backup μ s)) := by
  refine Ct.of (oc := 8) [some (.inr 39), some (.inl (s)), none] (by decide +kernel) rfl (Nat.le_of_ble_eq_true rfl) rfl ?_
  obtain ⟨N, hNb, hN⟩ := nIx (M := 120) (n := 120) rfl h2 h3
  have e : (μ 39 5).toNatClampNeg = N := by rw [hN]; exact nI_clamp (by omega)
  refine X.vc (fun _ => false) 60 ?_
  simp only [↓vc_zero, ↓vc_succ, ↓vn_app, ↓vd_ok, ↓vx_iconst, ↓vx_bipush, ↓vx_sipush, ↓vx_ldc, ↓vx_iload_n, ↓vx_iload, ↓vx_aload_n, ↓vx_aload, ↓vx_istore_n, ↓vx_istore, ↓vx_iinc, ↓vx_iadd, ↓vx_isub, ↓vx_imul, ↓vx_iand, ↓vx_ior, ↓vx_ixor, ↓vx_ishl, ↓vx_ishr, ↓vx_iushr, ↓vx_dup, ↓vx_dup2, ↓vx_goto, ↓vx_if_icmp, ↓vx_ifCond, ↓vx_getfield, ↓vx_putfield, ↓vx_iaload, ↓vx_iastore, ↓vx_baload, ↓vx_bastore, ↓vx_aaload, ↓vx_ireturn, ↓vx_return, ↓vx_invokevirtual, ↓vx_invokestatic, ↓vx_table, ↓vx_lookup, ↓vld_ok, ↓vldr_ok, ↓vst_ok, ↓vic_ok, ↓vgf_ok, ↓vgo_ok, ↓vpf_f, ↓vpf_t, ↓vpo_ok, ↓vkc_ok, ↓vbr_eq, ↓bz_01, bz_0, bz_1, is_app, mset_app, tnc_ok, wr_app, wr_ms, is59_app, vpn_ok, vpn_bz, Option.some.injEq, Sum.inl.injEq, getL, setL, Option.map_some, fvl_ok, mff_ok, jp, icm, inb_ok, ins_ok, zin_ok, rin_ok, vpi_ok, bip_ok, sip_ok, kcf_ok, vsw, vlk, Bool.false_eq_true, ↓reduceIte, true_and, and_true, and_self, Option.toList, List.cons_append, List.nil_append, Fin.isValue, forall_const, false_implies, implies_true, true_implies, reduceCtorEq, or_false, false_or, true_or, or_true, ne_eq, not_false_eq_true, not_true_eq_false, Classical.not_not, Bool.or_false, Bool.false_or, Bool.or_true, Bool.true_or, nat_int, Nat.reduceAdd, Nat.reduceBEq, Nat.reduceEqDiff, Int32.reduceLT, Int32.reduceLE, Int32.reduceAdd, Int32.reduceSub, Int.reduceAdd, Int.reduceToNat, Int.reduceLE, Int.reduceLT, Int.reduceNeg, Int.reduceSub, Int32.reduceOfInt, Nat.reduceMod, Fin.reduceFinMk, D_X8_backup, rsf_8]
  refine X.callV1 S_8_108 (by decide +kernel) rcv_39 (by decide) (by decide) (Nat.le_of_ble_eq_true rfl) (k8_isWhole _ _) ?_
  refine X.vc (fun q => q == 31) 60 ?_
  simp only [↓vc_zero, ↓vc_succ, ↓vn_app, ↓vd_ok, ↓vx_iconst, ↓vx_bipush, ↓vx_sipush, ↓vx_ldc, ↓vx_iload_n, ↓vx_iload, ↓vx_aload_n, ↓vx_aload, ↓vx_istore_n, ↓vx_istore, ↓vx_iinc, ↓vx_iadd, ↓vx_isub, ↓vx_imul, ↓vx_iand, ↓vx_ior, ↓vx_ixor, ↓vx_ishl, ↓vx_ishr, ↓vx_iushr, ↓vx_dup, ↓vx_dup2, ↓vx_goto, ↓vx_if_icmp, ↓vx_ifCond, ↓vx_getfield, ↓vx_putfield, ↓vx_iaload, ↓vx_iastore, ↓vx_baload, ↓vx_bastore, ↓vx_aaload, ↓vx_ireturn, ↓vx_return, ↓vx_invokevirtual, ↓vx_invokestatic, ↓vx_table, ↓vx_lookup, ↓vld_ok, ↓vldr_ok, ↓vst_ok, ↓vic_ok, ↓vgf_ok, ↓vgo_ok, ↓vpf_f, ↓vpf_t, ↓vpo_ok, ↓vkc_ok, ↓vbr_eq, ↓bz_01, bz_0, bz_1, is_app, mset_app, tnc_ok, wr_app, wr_ms, is59_app, vpn_ok, vpn_bz, Option.some.injEq, Sum.inl.injEq, getL, setL, Option.map_some, fvl_ok, mff_ok, jp, icm, inb_ok, ins_ok, zin_ok, rin_ok, vpi_ok, bip_ok, sip_ok, kcf_ok, vsw, vlk, Bool.false_eq_true, ↓reduceIte, true_and, and_true, and_self, Option.toList, List.cons_append, List.nil_append, Fin.isValue, forall_const, false_implies, implies_true, true_implies, reduceCtorEq, or_false, false_or, true_or, or_true, ne_eq, not_false_eq_true, not_true_eq_false, Classical.not_not, Bool.or_false, Bool.false_or, Bool.or_true, Bool.true_or, nat_int, Nat.reduceAdd, Nat.reduceBEq, Nat.reduceEqDiff, Int32.reduceLT, Int32.reduceLE, Int32.reduceAdd, Int32.reduceSub, Int.reduceAdd, Int.reduceToNat, Int.reduceLE, Int.reduceLT, Int.reduceNeg, Int.reduceSub, Int32.reduceOfInt, Nat.reduceMod, Fin.reduceFinMk, D_X8_backup, rsf_8]
  refine ⟨fun c => ?_, fun c => ⟨fun c2 => ?_, fun c2 => ?_⟩⟩
  · rw [rf_backup, gf_backup, if_neg (fun z => c z.1), if_neg (fun z => c z.1)]
    exact ⟨rfl, rfl⟩
  rotate_left
  · rw [rf_backup, gf_backup, if_neg (fun z => z.2 c2), if_neg (fun z => z.2 c2)]
    exact ⟨rfl, rfl⟩
  have b2 : μ 39 15 < 10 := by grind
  refine ⟨⟨b0, b2⟩, ?_⟩
  rw [rf_backup, gf_backup, if_pos ⟨c, c2⟩, if_pos ⟨c, c2⟩, e]
  refine dn (N := N) (P := fun k => X 8 3 cX8_backup (some .int) 2 (bkm μ s k) 31 [some (.inr 39), some (.inl s), some (.inl (nI k))] [] (Is (some (.inl (μ 39 15))) (mset (bkm μ s N) 39 15 (μ 39 15 + 1)))) ?_ ?_
  · have hr : ∀ j, bkm μ s N 39 j = μ 39 j := fun j => by rw [bkm_row (by decide) (by decide)]
    refine X.vc (fun _ => false) 60 ?_
    simp only [↓vc_zero, ↓vc_succ, ↓vn_app, ↓vd_ok, ↓vx_iconst, ↓vx_bipush, ↓vx_sipush, ↓vx_ldc, ↓vx_iload_n, ↓vx_iload, ↓vx_aload_n, ↓vx_aload, ↓vx_istore_n, ↓vx_istore, ↓vx_iinc, ↓vx_iadd, ↓vx_isub, ↓vx_imul, ↓vx_iand, ↓vx_ior, ↓vx_ixor, ↓vx_ishl, ↓vx_ishr, ↓vx_iushr, ↓vx_dup, ↓vx_dup2, ↓vx_goto, ↓vx_if_icmp, ↓vx_ifCond, ↓vx_getfield, ↓vx_putfield, ↓vx_iaload, ↓vx_iastore, ↓vx_baload, ↓vx_bastore, ↓vx_aaload, ↓vx_ireturn, ↓vx_return, ↓vx_invokevirtual, ↓vx_invokestatic, ↓vx_table, ↓vx_lookup, ↓vld_ok, ↓vldr_ok, ↓vst_ok, ↓vic_ok, ↓vgf_ok, ↓vgo_ok, ↓vpf_f, ↓vpf_t, ↓vpo_ok, ↓vkc_ok, ↓vbr_eq, ↓bz_01, bz_0, bz_1, is_app, mset_app, tnc_ok, wr_app, wr_ms, is59_app, vpn_ok, vpn_bz, Option.some.injEq, Sum.inl.injEq, getL, setL, Option.map_some, fvl_ok, mff_ok, jp, icm, inb_ok, ins_ok, zin_ok, rin_ok, vpi_ok, bip_ok, sip_ok, kcf_ok, vsw, vlk, Bool.false_eq_true, ↓reduceIte, true_and, and_true, and_self, Option.toList, List.cons_append, List.nil_append, Fin.isValue, forall_const, false_implies, implies_true, true_implies, reduceCtorEq, or_false, false_or, true_or, or_true, ne_eq, not_false_eq_true, not_true_eq_false, Classical.not_not, Bool.or_false, Bool.false_or, Bool.or_true, Bool.true_or, nat_int, Nat.reduceAdd, Nat.reduceBEq, Nat.reduceEqDiff, Int32.reduceLT, Int32.reduceLE, Int32.reduceAdd, Int32.reduceSub, Int.reduceAdd, Int.reduceToNat, Int.reduceLE, Int.reduceLT, Int.reduceNeg, Int.reduceSub, Int32.reduceOfInt, Nat.reduceMod, Fin.reduceFinMk, D_X8_backup, rsf_8, hr, hN, idx_end]
    grind
  · intro k hk ih
    obtain ⟨i0, i1, i2, i3, i4, i5⟩ := idx (m := 120) rfl hk hNb (by decide)
    have hr : ∀ j, bkm μ s k 39 j = μ 39 j := fun j => by rw [bkm_row (by decide) (by decide)]
    have hr2 : ∀ j, bkm μ s k 46 j = μ 46 j := fun j => by rw [bkm_row (by decide) (by decide)]
    have e1 : bkm μ s (k + 1) = mset (bkm μ s k) 50 (120 * μ 39 15 + nI k).toNatClampNeg (bz ((μ 46 k >>> (s &&& 31)) &&& 1 = 1)) := rfl
    rw [e1] at ih
    have z0 : 0 ≤ 120 * μ 39 15 + nI k := by grind
    have z1 : 120 * μ 39 15 + nI k < 1200 := by grind
    refine X.vc (fun q => q == 31) 60 ?_
    simp only [↓vc_zero, ↓vc_succ, ↓vn_app, ↓vd_ok, ↓vx_iconst, ↓vx_bipush, ↓vx_sipush, ↓vx_ldc, ↓vx_iload_n, ↓vx_iload, ↓vx_aload_n, ↓vx_aload, ↓vx_istore_n, ↓vx_istore, ↓vx_iinc, ↓vx_iadd, ↓vx_isub, ↓vx_imul, ↓vx_iand, ↓vx_ior, ↓vx_ixor, ↓vx_ishl, ↓vx_ishr, ↓vx_iushr, ↓vx_dup, ↓vx_dup2, ↓vx_goto, ↓vx_if_icmp, ↓vx_ifCond, ↓vx_getfield, ↓vx_putfield, ↓vx_iaload, ↓vx_iastore, ↓vx_baload, ↓vx_bastore, ↓vx_aaload, ↓vx_ireturn, ↓vx_return, ↓vx_invokevirtual, ↓vx_invokestatic, ↓vx_table, ↓vx_lookup, ↓vld_ok, ↓vldr_ok, ↓vst_ok, ↓vic_ok, ↓vgf_ok, ↓vgo_ok, ↓vpf_f, ↓vpf_t, ↓vpo_ok, ↓vkc_ok, ↓vbr_eq, ↓bz_01, bz_0, bz_1, is_app, mset_app, tnc_ok, wr_app, wr_ms, is59_app, vpn_ok, vpn_bz, Option.some.injEq, Sum.inl.injEq, getL, setL, Option.map_some, fvl_ok, mff_ok, jp, icm, inb_ok, ins_ok, zin_ok, rin_ok, vpi_ok, bip_ok, sip_ok, kcf_ok, vsw, vlk, Bool.false_eq_true, ↓reduceIte, true_and, and_true, and_self, Option.toList, List.cons_append, List.nil_append, Fin.isValue, forall_const, false_implies, implies_true, true_implies, reduceCtorEq, or_false, false_or, true_or, or_true, ne_eq, not_false_eq_true, not_true_eq_false, Classical.not_not, Bool.or_false, Bool.false_or, Bool.or_true, Bool.true_or, nat_int, Nat.reduceAdd, Nat.reduceBEq, Nat.reduceEqDiff, Int32.reduceLT, Int32.reduceLE, Int32.reduceAdd, Int32.reduceSub, Int.reduceAdd, Int.reduceToNat, Int.reduceLE, Int.reduceLT, Int.reduceNeg, Int.reduceSub, Int32.reduceOfInt, Nat.reduceMod, Fin.reduceFinMk, D_X8_backup, rsf_8, hr, hr2, hN, i2, i3, i4, i0, i1, z0, z1]
    by_cases hc : (μ 46 k >>> (s &&& 31)) &&& 1 = 1
    · rw [bz, if_pos hc] at ih
      exact ⟨fun z => absurd hc z, fun _ => ih⟩
    · rw [bz, if_neg hc] at ih
      exact ⟨fun _ => ih, fun z => absurd z hc⟩
/-! restore -/
def rsf2 (μ : Mem) (b : Int32) (k : Nat) : Bool := decide (¬ μ 50 (120 * b + nI k).toNatClampNeg = 0 ∧ ¬ (μ 46 k >>> (μ 49 b.toNatClampNeg &&& 31)) &&& 1 = 1)
def rsm (μ : Mem) (b : Int32) : Nat → Mem
  | 0 => μ
  | k + 1 => if rsf2 μ b k = true then mset (rsm μ b k) 46 k (μ 46 k ||| (1 : Int32) <<< (μ 49 b.toNatClampNeg &&& 31)) else rsm μ b k
theorem rsm_row {μ : Mem} {b : Int32} {a : Nat} (h1 : a ≠ 46) : ∀ k, rsm μ b k a = μ a
  | 0 => rfl
  | k + 1 => by
    unfold rsm
    split
    · rw [mset_ne a h1, rsm_row h1 k]
    · exact rsm_row h1 k
theorem rsm_hi {μ : Mem} {b : Int32} {a j : Nat} : ∀ k, k ≤ j → rsm μ b k a j = μ a j
  | 0, _ => rfl
  | k + 1, h => by
    unfold rsm
    split
    · rw [ms_j (by omega), rsm_hi k (by omega)]
    · exact rsm_hi k (by omega)
abbrev ok_restore (μ : Mem) (b : Int32) : Prop := (0 ≤ b ∧ b ≤ μ 39 15 - 1) ∧ ((0 ≤ μ 49 b.toNatClampNeg ∧ μ 49 b.toNatClampNeg ≤ 5) ∧ (μ 39 10 >>> (μ 49 b.toNatClampNeg &&& 31)) &&& 1 = 0)
def rf_restore (μ : Mem) (b : Int32) : Int32 := if ok_restore μ b then cnt (rsf2 μ b) (μ 39 5).toNatClampNeg else -1
def gf_restore (μ : Mem) (b : Int32) : Mem := if ok_restore μ b then rsm μ b (μ 39 5).toNatClampNeg else μ
set_option maxRecDepth 100000 in
set_option maxHeartbeats 1000000 in
theorem k8_restore (μ : Mem) (b : Int32) (h2 : 0 ≤ μ 39 5) (h3 : μ 39 5 ≤ 120) (b0 : 0 ≤ μ 39 15) (b1 : μ 39 15 ≤ 10) : Ct yX8_restore 4 cX8_restore (some .int) 2 [.inr 39, .inl (b)] μ (Is (some (.inl (rf_restore μ b))) (gf_restore μ b)) := by
  refine Ct.of (oc := 8) [some (.inr 39), some (.inl (b)), none, none] (by decide +kernel) rfl (Nat.le_of_ble_eq_true rfl) rfl ?_
  obtain ⟨N, hNb, hN⟩ := nIx (M := 120) (n := 120) rfl h2 h3
  have e : (μ 39 5).toNatClampNeg = N := by rw [hN]; exact nI_clamp (by omega)
  refine X.vc (fun _ => false) 60 ?_
  simp only [↓vc_zero, ↓vc_succ, ↓vn_app, ↓vd_ok, ↓vx_iconst, ↓vx_bipush, ↓vx_sipush, ↓vx_ldc, ↓vx_iload_n, ↓vx_iload, ↓vx_aload_n, ↓vx_aload, ↓vx_istore_n, ↓vx_istore, ↓vx_iinc, ↓vx_iadd, ↓vx_isub, ↓vx_imul, ↓vx_iand, ↓vx_ior, ↓vx_ixor, ↓vx_ishl, ↓vx_ishr, ↓vx_iushr, ↓vx_dup, ↓vx_dup2, ↓vx_goto, ↓vx_if_icmp, ↓vx_ifCond, ↓vx_getfield, ↓vx_putfield, ↓vx_iaload, ↓vx_iastore, ↓vx_baload, ↓vx_bastore, ↓vx_aaload, ↓vx_ireturn, ↓vx_return, ↓vx_invokevirtual, ↓vx_invokestatic, ↓vx_table, ↓vx_lookup, ↓vld_ok, ↓vldr_ok, ↓vst_ok, ↓vic_ok, ↓vgf_ok, ↓vgo_ok, ↓vpf_f, ↓vpf_t, ↓vpo_ok, ↓vkc_ok, ↓vbr_eq, ↓bz_01, bz_0, bz_1, is_app, mset_app, tnc_ok, wr_app, wr_ms, is59_app, vpn_ok, vpn_bz, Option.some.injEq, Sum.inl.injEq, getL, setL, Option.map_some, fvl_ok, mff_ok, jp, icm, inb_ok, ins_ok, zin_ok, rin_ok, vpi_ok, bip_ok, sip_ok, kcf_ok, vsw, vlk, Bool.false_eq_true, ↓reduceIte, true_and, and_true, and_self, Option.toList, List.cons_append, List.nil_append, Fin.isValue, forall_const, false_implies, implies_true, true_implies, reduceCtorEq, or_false, false_or, true_or, or_true, ne_eq, not_false_eq_true, not_true_eq_false, Classical.not_not, Bool.or_false, Bool.false_or, Bool.or_true, Bool.true_or, nat_int, Nat.reduceAdd, Nat.reduceBEq, Nat.reduceEqDiff, Int32.reduceLT, Int32.reduceLE, Int32.reduceAdd, Int32.reduceSub, Int.reduceAdd, Int.reduceToNat, Int.reduceLE, Int.reduceLT, Int.reduceNeg, Int.reduceSub, Int32.reduceOfInt, Nat.reduceMod, Fin.reduceFinMk, D_X8_restore, rsf_8]
  refine X.callS3 S_8_93 (by decide +kernel) (by decide) (by decide) (Nat.le_of_ble_eq_true rfl) (k8_isIn _ _ _ _) ?_
  refine X.vc (fun _ => false) 60 ?_
  simp only [↓vc_zero, ↓vc_succ, ↓vn_app, ↓vd_ok, ↓vx_iconst, ↓vx_bipush, ↓vx_sipush, ↓vx_ldc, ↓vx_iload_n, ↓vx_iload, ↓vx_aload_n, ↓vx_aload, ↓vx_istore_n, ↓vx_istore, ↓vx_iinc, ↓vx_iadd, ↓vx_isub, ↓vx_imul, ↓vx_iand, ↓vx_ior, ↓vx_ixor, ↓vx_ishl, ↓vx_ishr, ↓vx_iushr, ↓vx_dup, ↓vx_dup2, ↓vx_goto, ↓vx_if_icmp, ↓vx_ifCond, ↓vx_getfield, ↓vx_putfield, ↓vx_iaload, ↓vx_iastore, ↓vx_baload, ↓vx_bastore, ↓vx_aaload, ↓vx_ireturn, ↓vx_return, ↓vx_invokevirtual, ↓vx_invokestatic, ↓vx_table, ↓vx_lookup, ↓vld_ok, ↓vldr_ok, ↓vst_ok, ↓vic_ok, ↓vgf_ok, ↓vgo_ok, ↓vpf_f, ↓vpf_t, ↓vpo_ok, ↓vkc_ok, ↓vbr_eq, ↓bz_01, bz_0, bz_1, is_app, mset_app, tnc_ok, wr_app, wr_ms, is59_app, vpn_ok, vpn_bz, Option.some.injEq, Sum.inl.injEq, getL, setL, Option.map_some, fvl_ok, mff_ok, jp, icm, inb_ok, ins_ok, zin_ok, rin_ok, vpi_ok, bip_ok, sip_ok, kcf_ok, vsw, vlk, Bool.false_eq_true, ↓reduceIte, true_and, and_true, and_self, Option.toList, List.cons_append, List.nil_append, Fin.isValue, forall_const, false_implies, implies_true, true_implies, reduceCtorEq, or_false, false_or, true_or, or_true, ne_eq, not_false_eq_true, not_true_eq_false, Classical.not_not, Bool.or_false, Bool.false_or, Bool.or_true, Bool.true_or, nat_int, Nat.reduceAdd, Nat.reduceBEq, Nat.reduceEqDiff, Int32.reduceLT, Int32.reduceLE, Int32.reduceAdd, Int32.reduceSub, Int.reduceAdd, Int.reduceToNat, Int.reduceLE, Int.reduceLT, Int.reduceNeg, Int.reduceSub, Int32.reduceOfInt, Nat.reduceMod, Fin.reduceFinMk, D_X8_restore, rsf_8]
  refine ⟨fun c => ?_, fun c => ?_⟩
  · rw [rf_restore, gf_restore, if_neg (fun z => c z.1), if_neg (fun z => c z.1)]
    exact ⟨rfl, rfl⟩
  have c1 : b < 10 := by grind
  refine ⟨⟨c.1, c1⟩, ?_⟩
  refine X.callV1 S_8_108 (by decide +kernel) rcv_39 (by decide) (by decide) (Nat.le_of_ble_eq_true rfl) (k8_isWhole _ _) ?_
  refine X.vc (fun q => q == 33) 60 ?_
  simp only [↓vc_zero, ↓vc_succ, ↓vn_app, ↓vd_ok, ↓vx_iconst, ↓vx_bipush, ↓vx_sipush, ↓vx_ldc, ↓vx_iload_n, ↓vx_iload, ↓vx_aload_n, ↓vx_aload, ↓vx_istore_n, ↓vx_istore, ↓vx_iinc, ↓vx_iadd, ↓vx_isub, ↓vx_imul, ↓vx_iand, ↓vx_ior, ↓vx_ixor, ↓vx_ishl, ↓vx_ishr, ↓vx_iushr, ↓vx_dup, ↓vx_dup2, ↓vx_goto, ↓vx_if_icmp, ↓vx_ifCond, ↓vx_getfield, ↓vx_putfield, ↓vx_iaload, ↓vx_iastore, ↓vx_baload, ↓vx_bastore, ↓vx_aaload, ↓vx_ireturn, ↓vx_return, ↓vx_invokevirtual, ↓vx_invokestatic, ↓vx_table, ↓vx_lookup, ↓vld_ok, ↓vldr_ok, ↓vst_ok, ↓vic_ok, ↓vgf_ok, ↓vgo_ok, ↓vpf_f, ↓vpf_t, ↓vpo_ok, ↓vkc_ok, ↓vbr_eq, ↓bz_01, bz_0, bz_1, is_app, mset_app, tnc_ok, wr_app, wr_ms, is59_app, vpn_ok, vpn_bz, Option.some.injEq, Sum.inl.injEq, getL, setL, Option.map_some, fvl_ok, mff_ok, jp, icm, inb_ok, ins_ok, zin_ok, rin_ok, vpi_ok, bip_ok, sip_ok, kcf_ok, vsw, vlk, Bool.false_eq_true, ↓reduceIte, true_and, and_true, and_self, Option.toList, List.cons_append, List.nil_append, Fin.isValue, forall_const, false_implies, implies_true, true_implies, reduceCtorEq, or_false, false_or, true_or, or_true, ne_eq, not_false_eq_true, not_true_eq_false, Classical.not_not, Bool.or_false, Bool.false_or, Bool.or_true, Bool.true_or, nat_int, Nat.reduceAdd, Nat.reduceBEq, Nat.reduceEqDiff, Int32.reduceLT, Int32.reduceLE, Int32.reduceAdd, Int32.reduceSub, Int.reduceAdd, Int.reduceToNat, Int.reduceLE, Int.reduceLT, Int.reduceNeg, Int.reduceSub, Int32.reduceOfInt, Nat.reduceMod, Fin.reduceFinMk, D_X8_restore, rsf_8]
  refine ⟨fun c2 => ?_, fun c2 => ?_⟩
  rotate_left
  · rw [rf_restore, gf_restore, if_neg (fun z => c2 z.2), if_neg (fun z => c2 z.2)]
    exact ⟨rfl, rfl⟩
  rw [rf_restore, gf_restore, if_pos ⟨c, c2⟩, if_pos ⟨c, c2⟩, e]
  refine dn (N := N) (P := fun k => X 8 4 cX8_restore (some .int) 2 (rsm μ b k) 33 [some (.inr 39), some (.inl b), some (.inl (cnt (rsf2 μ b) k)), some (.inl (nI k))] [] (Is (some (.inl (cnt (rsf2 μ b) N))) (rsm μ b N))) ?_ ?_
  · have hr : ∀ j, rsm μ b N 39 j = μ 39 j := fun j => by rw [rsm_row (by decide)]
    refine X.vc (fun _ => false) 60 ?_
    simp only [↓vc_zero, ↓vc_succ, ↓vn_app, ↓vd_ok, ↓vx_iconst, ↓vx_bipush, ↓vx_sipush, ↓vx_ldc, ↓vx_iload_n, ↓vx_iload, ↓vx_aload_n, ↓vx_aload, ↓vx_istore_n, ↓vx_istore, ↓vx_iinc, ↓vx_iadd, ↓vx_isub, ↓vx_imul, ↓vx_iand, ↓vx_ior, ↓vx_ixor, ↓vx_ishl, ↓vx_ishr, ↓vx_iushr, ↓vx_dup, ↓vx_dup2, ↓vx_goto, ↓vx_if_icmp, ↓vx_ifCond, ↓vx_getfield, ↓vx_putfield, ↓vx_iaload, ↓vx_iastore, ↓vx_baload, ↓vx_bastore, ↓vx_aaload, ↓vx_ireturn, ↓vx_return, ↓vx_invokevirtual, ↓vx_invokestatic, ↓vx_table, ↓vx_lookup, ↓vld_ok, ↓vldr_ok, ↓vst_ok, ↓vic_ok, ↓vgf_ok, ↓vgo_ok, ↓vpf_f, ↓vpf_t, ↓vpo_ok, ↓vkc_ok, ↓vbr_eq, ↓bz_01, bz_0, bz_1, is_app, mset_app, tnc_ok, wr_app, wr_ms, is59_app, vpn_ok, vpn_bz, Option.some.injEq, Sum.inl.injEq, getL, setL, Option.map_some, fvl_ok, mff_ok, jp, icm, inb_ok, ins_ok, zin_ok, rin_ok, vpi_ok, bip_ok, sip_ok, kcf_ok, vsw, vlk, Bool.false_eq_true, ↓reduceIte, true_and, and_true, and_self, Option.toList, List.cons_append, List.nil_append, Fin.isValue, forall_const, false_implies, implies_true, true_implies, reduceCtorEq, or_false, false_or, true_or, or_true, ne_eq, not_false_eq_true, not_true_eq_false, Classical.not_not, Bool.or_false, Bool.false_or, Bool.or_true, Bool.true_or, nat_int, Nat.reduceAdd, Nat.reduceBEq, Nat.reduceEqDiff, Int32.reduceLT, Int32.reduceLE, Int32.reduceAdd, Int32.reduceSub, Int.reduceAdd, Int.reduceToNat, Int.reduceLE, Int.reduceLT, Int.reduceNeg, Int.reduceSub, Int32.reduceOfInt, Nat.reduceMod, Fin.reduceFinMk, D_X8_restore, rsf_8, hr, hN, idx_end]
  · intro k hk ih
    obtain ⟨i0, i1, i2, i3, i4, i5⟩ := idx (m := 120) rfl hk hNb (by decide)
    have hr : ∀ j, rsm μ b k 39 j = μ 39 j := fun j => by rw [rsm_row (by decide)]
    have hr2 : ∀ j, rsm μ b k 49 j = μ 49 j := fun j => by rw [rsm_row (by decide)]
    have hr3 : ∀ j, rsm μ b k 50 j = μ 50 j := fun j => by rw [rsm_row (by decide)]
    have hk1 : rsm μ b k 46 k = μ 46 k := rsm_hi k (Nat.le_refl k)
    have e1 : rsm μ b (k + 1) = if rsf2 μ b k = true then mset (rsm μ b k) 46 k (μ 46 k ||| (1 : Int32) <<< (μ 49 b.toNatClampNeg &&& 31)) else rsm μ b k := rfl
    simp only [cnt_s, e1] at ih
    have z0 : 0 ≤ 120 * b + nI k := by grind
    have z1 : 120 * b + nI k < 1200 := by grind
    have d0 := c.1
    refine X.vc (fun q => q == 33) 70 ?_
    simp only [↓vc_zero, ↓vc_succ, ↓vn_app, ↓vd_ok, ↓vx_iconst, ↓vx_bipush, ↓vx_sipush, ↓vx_ldc, ↓vx_iload_n, ↓vx_iload, ↓vx_aload_n, ↓vx_aload, ↓vx_istore_n, ↓vx_istore, ↓vx_iinc, ↓vx_iadd, ↓vx_isub, ↓vx_imul, ↓vx_iand, ↓vx_ior, ↓vx_ixor, ↓vx_ishl, ↓vx_ishr, ↓vx_iushr, ↓vx_dup, ↓vx_dup2, ↓vx_goto, ↓vx_if_icmp, ↓vx_ifCond, ↓vx_getfield, ↓vx_putfield, ↓vx_iaload, ↓vx_iastore, ↓vx_baload, ↓vx_bastore, ↓vx_aaload, ↓vx_ireturn, ↓vx_return, ↓vx_invokevirtual, ↓vx_invokestatic, ↓vx_table, ↓vx_lookup, ↓vld_ok, ↓vldr_ok, ↓vst_ok, ↓vic_ok, ↓vgf_ok, ↓vgo_ok, ↓vpf_f, ↓vpf_t, ↓vpo_ok, ↓vkc_ok, ↓vbr_eq, ↓bz_01, bz_0, bz_1, is_app, mset_app, tnc_ok, wr_app, wr_ms, is59_app, vpn_ok, vpn_bz, Option.some.injEq, Sum.inl.injEq, getL, setL, Option.map_some, fvl_ok, mff_ok, jp, icm, inb_ok, ins_ok, zin_ok, rin_ok, vpi_ok, bip_ok, sip_ok, kcf_ok, vsw, vlk, Bool.false_eq_true, ↓reduceIte, true_and, and_true, and_self, Option.toList, List.cons_append, List.nil_append, Fin.isValue, forall_const, false_implies, implies_true, true_implies, reduceCtorEq, or_false, false_or, true_or, or_true, ne_eq, not_false_eq_true, not_true_eq_false, Classical.not_not, Bool.or_false, Bool.false_or, Bool.or_true, Bool.true_or, nat_int, Nat.reduceAdd, Nat.reduceBEq, Nat.reduceEqDiff, Int32.reduceLT, Int32.reduceLE, Int32.reduceAdd, Int32.reduceSub, Int.reduceAdd, Int.reduceToNat, Int.reduceLE, Int.reduceLT, Int.reduceNeg, Int.reduceSub, Int32.reduceOfInt, Nat.reduceMod, Fin.reduceFinMk, D_X8_restore, rsf_8, hr, hr2, hr3, hk1, hN, i2, i3, i4, i0, i1, z0, z1, c1, d0]
    by_cases f1 : μ 50 (120 * b + nI k).toNatClampNeg = 0
    · have hf : ¬ rsf2 μ b k = true := by simp only [rsf2, decide_eq_true_eq]; exact fun z => z.1 f1
      rw [if_neg hf, if_neg hf, Int32.add_zero] at ih
      exact ⟨fun _ => ih, fun z => absurd f1 z⟩
    · refine ⟨fun z => absurd z f1, fun _ => ?_⟩
      by_cases f2 : (μ 46 k >>> (μ 49 b.toNatClampNeg &&& 31)) &&& 1 = 1
      · have hf : ¬ rsf2 μ b k = true := by simp only [rsf2, decide_eq_true_eq]; exact fun z => z.2 f2
        rw [if_neg hf, if_neg hf, Int32.add_zero] at ih
        exact ⟨fun z => absurd f2 z, fun _ => ih⟩
      · have hf : rsf2 μ b k = true := by simp only [rsf2, decide_eq_true_eq]; exact ⟨f1, f2⟩
        rw [if_pos hf, if_pos hf] at ih
        exact ⟨fun _ => ih, fun z => absurd z f2⟩
