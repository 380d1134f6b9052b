/-! the reader's small parts: nots, work -/
theorem gfo_39 {m : Mem} {w a b : Int32} {j : Nat} : gf_order m w a b 39 j = m 39 j := by
  unfold gf_order
  rw [ms_k (by decide), ms_k (by decide), ms_k (by decide), ms_k (by decide)]
theorem gfo_12 {m : Mem} {w a b : Int32} : gf_order m w a b 54 12 = m 54 12 + 1 := by
  unfold gf_order
  rw [ms_eq]
def notsM : Nat → Mem → Mem
  | 0, m => m
  | f + 1, m => if m 58 f = 33 then notsM f (gf_order (mset (mset m 39 32 (nI f)) 39 33 (m 39 33 - 1)) 4 0 0) else m
theorem t_le {x : Int32} {n : Int} {c : Int32} (hc : c.toInt = n) : (x ≤ c) = (x.toInt ≤ n) := by rw [Int32.le_iff_toInt_le, hc]
theorem t_ge {x : Int32} {n : Int} {c : Int32} (hc : c.toInt = n) : (c ≤ x) = (n ≤ x.toInt) := by rw [Int32.le_iff_toInt_le, hc]
theorem t_add1 {x : Int32} (h0 : 0 ≤ x.toInt) (h1 : x.toInt ≤ 1000000) : (x + 1).toInt = x.toInt + 1 := by
  rw [Int32.toInt_add]
  simp only [Int32.reduceToInt, Int.bmod_def]
  omega
set_option maxRecDepth 100000 in
set_option maxHeartbeats 1000000 in
theorem nots_loop : ∀ (f : Nat) (m : Mem), m 39 32 = nI f → 0 ≤ (m 54 12).toInt → (m 54 12).toInt + f ≤ 62 → X 8 1 cX8_nots none 1 m 0 [some (.inr 39)] [] (Is none (notsM f m))
  | 0, m, hf, l0, l1 => by

    have c0 : (nI 0 ≤ 0) = True := by decide
    refine X.vc (fun _ => false) 60 ?_
    simp only [↓vc_zero, ↓vc_succ, ↓vn_app, ↓vd_ok, ↓vx_iconst, ↓vx_bipush, ↓vx_sipush, ↓vx_ldc, ↓vx_iload_n, ↓vx_iload, ↓vx_aload_n, ↓vx_aload, ↓vx_istore_n, ↓vx_istore, ↓vx_iinc, ↓vx_iadd, ↓vx_isub, ↓vx_imul, ↓vx_iand, ↓vx_ior, ↓vx_ixor, ↓vx_ishl, ↓vx_ishr, ↓vx_iushr, ↓vx_dup, ↓vx_dup2, ↓vx_goto, ↓vx_if_icmp, ↓vx_ifCond, ↓vx_getfield, ↓vx_putfield, ↓vx_iaload, ↓vx_iastore, ↓vx_baload, ↓vx_bastore, ↓vx_aaload, ↓vx_ireturn, ↓vx_return, ↓vx_invokevirtual, ↓vx_invokestatic, ↓vx_table, ↓vx_lookup, ↓vld_ok, ↓vldr_ok, ↓vst_ok, ↓vic_ok, ↓vgf_ok, ↓vgo_ok, ↓vpf_f, ↓vpf_t, ↓vpo_ok, ↓vkc_ok, ↓vbr_eq, ↓bz_01, bz_0, bz_1, is_app, mset_app, tnc_ok, wr_app, wr_ms, is59_app, vpn_ok, vpn_bz, Option.some.injEq, Sum.inl.injEq, getL, setL, Option.map_some, fvl_ok, mff_ok, jp, icm, inb_ok, ins_ok, zin_ok, rin_ok, vpi_ok, bip_ok, sip_ok, kcf_ok, vsw, vlk, Bool.false_eq_true, ↓reduceIte, true_and, and_true, and_self, Option.toList, List.cons_append, List.nil_append, Fin.isValue, forall_const, false_implies, implies_true, true_implies, reduceCtorEq, or_false, false_or, true_or, or_true, ne_eq, not_false_eq_true, not_true_eq_false, Classical.not_not, Bool.or_false, Bool.false_or, Bool.or_true, Bool.true_or, nat_int, Nat.reduceAdd, Nat.reduceBEq, Nat.reduceEqDiff, Int32.reduceLT, Int32.reduceLE, Int32.reduceAdd, Int32.reduceSub, Int.reduceAdd, Int.reduceToNat, Int.reduceLE, Int.reduceLT, Int.reduceNeg, Int.reduceSub, Int32.reduceOfInt, Nat.reduceMod, Fin.reduceFinMk, D_X8_nots, rsf_8, hf, c0]
    rfl
  | f + 1, m, hf, l0, l1 => by
    have c0 : (nI (f + 1) ≤ 0) = False := eq_false (nI_nle (by omega) (by omega))
    have c1 : nI (f + 1) - 1 = nI f := nI_pred f
    have c2 : (nI f).toNatClampNeg = f := nI_clamp (by omega)
    have c3 : 0 ≤ nI f := nI_pos' (by omega)
    have c4 : nI f < 64 := nI_lt (b := 64) (by omega) (by decide)
    refine X.vc (fun q => q == 0) 60 ?_
    simp only [↓vc_zero, ↓vc_succ, ↓vn_app, ↓vd_ok, ↓vx_iconst, ↓vx_bipush, ↓vx_sipush, ↓vx_ldc, ↓vx_iload_n, ↓vx_iload, ↓vx_aload_n, ↓vx_aload, ↓vx_istore_n, ↓vx_istore, ↓vx_iinc, ↓vx_iadd, ↓vx_isub, ↓vx_imul, ↓vx_iand, ↓vx_ior, ↓vx_ixor, ↓vx_ishl, ↓vx_ishr, ↓vx_iushr, ↓vx_dup, ↓vx_dup2, ↓vx_goto, ↓vx_if_icmp, ↓vx_ifCond, ↓vx_getfield, ↓vx_putfield, ↓vx_iaload, ↓vx_iastore, ↓vx_baload, ↓vx_bastore, ↓vx_aaload, ↓vx_ireturn, ↓vx_return, ↓vx_invokevirtual, ↓vx_invokestatic, ↓vx_table, ↓vx_lookup, ↓vld_ok, ↓vldr_ok, ↓vst_ok, ↓vic_ok, ↓vgf_ok, ↓vgo_ok, ↓vpf_f, ↓vpf_t, ↓vpo_ok, ↓vkc_ok, ↓vbr_eq, ↓bz_01, bz_0, bz_1, is_app, mset_app, tnc_ok, wr_app, wr_ms, is59_app, vpn_ok, vpn_bz, Option.some.injEq, Sum.inl.injEq, getL, setL, Option.map_some, fvl_ok, mff_ok, jp, icm, inb_ok, ins_ok, zin_ok, rin_ok, vpi_ok, bip_ok, sip_ok, kcf_ok, vsw, vlk, Bool.false_eq_true, ↓reduceIte, true_and, and_true, and_self, Option.toList, List.cons_append, List.nil_append, Fin.isValue, forall_const, false_implies, implies_true, true_implies, reduceCtorEq, or_false, false_or, true_or, or_true, ne_eq, not_false_eq_true, not_true_eq_false, Classical.not_not, Bool.or_false, Bool.false_or, Bool.or_true, Bool.true_or, nat_int, Nat.reduceAdd, Nat.reduceBEq, Nat.reduceEqDiff, Int32.reduceLT, Int32.reduceLE, Int32.reduceAdd, Int32.reduceSub, Int.reduceAdd, Int.reduceToNat, Int.reduceLE, Int.reduceLT, Int.reduceNeg, Int.reduceSub, Int32.reduceOfInt, Nat.reduceMod, Fin.reduceFinMk, D_X8_nots, rsf_8, hf, c0, c1, c2, c3, c4]
    by_cases hc : m 58 f = 33
    · refine ⟨fun z => absurd hc z, fun _ => ?_⟩
      have e : notsM (f + 1) m = notsM f (gf_order (mset (mset m 39 32 (nI f)) 39 33 (m 39 33 - 1)) 4 0 0) := if_pos hc
      rw [e]
      have x12 : (mset (mset m 39 32 (nI f)) 39 33 (m 39 33 - 1)) 54 12 = m 54 12 := by rw [ms_k (by decide), ms_k (by decide)]
      refine X.callV3 S_8_142 (by decide +kernel) rcv_39 (by decide) (by decide) (Nat.le_of_ble_eq_true rfl) (k8_order (mset (mset m 39 32 (nI f)) 39 33 (m 39 33 - 1)) 4 0 0 (by rw [x12, t_ge (n := 0) rfl]; exact l0) (by rw [x12, t_le (n := 63) rfl]; omega)) ?_
      refine X.vc (fun q => q == 0) 60 ?_
      simp only [↓vc_zero, ↓vc_succ, ↓vn_app, ↓vd_ok, ↓vx_iconst, ↓vx_bipush, ↓vx_sipush, ↓vx_ldc, ↓vx_iload_n, ↓vx_iload, ↓vx_aload_n, ↓vx_aload, ↓vx_istore_n, ↓vx_istore, ↓vx_iinc, ↓vx_iadd, ↓vx_isub, ↓vx_imul, ↓vx_iand, ↓vx_ior, ↓vx_ixor, ↓vx_ishl, ↓vx_ishr, ↓vx_iushr, ↓vx_dup, ↓vx_dup2, ↓vx_goto, ↓vx_if_icmp, ↓vx_ifCond, ↓vx_getfield, ↓vx_putfield, ↓vx_iaload, ↓vx_iastore, ↓vx_baload, ↓vx_bastore, ↓vx_aaload, ↓vx_ireturn, ↓vx_return, ↓vx_invokevirtual, ↓vx_invokestatic, ↓vx_table, ↓vx_lookup, ↓vld_ok, ↓vldr_ok, ↓vst_ok, ↓vic_ok, ↓vgf_ok, ↓vgo_ok, ↓vpf_f, ↓vpf_t, ↓vpo_ok, ↓vkc_ok, ↓vbr_eq, ↓bz_01, bz_0, bz_1, is_app, mset_app, tnc_ok, wr_app, wr_ms, is59_app, vpn_ok, vpn_bz, Option.some.injEq, Sum.inl.injEq, getL, setL, Option.map_some, fvl_ok, mff_ok, jp, icm, inb_ok, ins_ok, zin_ok, rin_ok, vpi_ok, bip_ok, sip_ok, kcf_ok, vsw, vlk, Bool.false_eq_true, ↓reduceIte, true_and, and_true, and_self, Option.toList, List.cons_append, List.nil_append, Fin.isValue, forall_const, false_implies, implies_true, true_implies, reduceCtorEq, or_false, false_or, true_or, or_true, ne_eq, not_false_eq_true, not_true_eq_false, Classical.not_not, Bool.or_false, Bool.false_or, Bool.or_true, Bool.true_or, nat_int, Nat.reduceAdd, Nat.reduceBEq, Nat.reduceEqDiff, Int32.reduceLT, Int32.reduceLE, Int32.reduceAdd, Int32.reduceSub, Int.reduceAdd, Int.reduceToNat, Int.reduceLE, Int.reduceLT, Int.reduceNeg, Int.reduceSub, Int32.reduceOfInt, Nat.reduceMod, Fin.reduceFinMk, D_X8_nots, rsf_8]
      refine nots_loop f _ ?_ ?_ ?_
      · rw [gfo_39, ms_j (by decide), ms_eq]
      · rw [gfo_12, x12, t_add1 l0 (by omega)]
        omega
      · rw [gfo_12, x12, t_add1 l0 (by omega)]
        omega
    · have e : notsM (f + 1) m = m := if_neg hc
      rw [e]
      exact ⟨fun _ => rfl, fun z => absurd z hc⟩
def sgn (x : Int32) : Int32 := if x = 33 then 4 else if x = 38 then 5 else 6
def workM (least : Int32) : Nat → Mem → Mem
  | 0, m => m
  | f + 1, m => if ¬ m 58 f = 40 ∧ (¬ m 58 f = 124 ∨ least = 124) then workM least f (gf_order (mset m 39 32 (nI f)) (sgn (m 58 f)) 0 0) else m
set_option maxRecDepth 100000 in
set_option maxHeartbeats 1000000 in
theorem work_loop (least : Int32) : ∀ (f : Nat) (m : Mem), m 39 32 = nI f → 0 ≤ (m 54 12).toInt → (m 54 12).toInt + f ≤ 62 → X 8 2 cX8_work none 1 m 0 [some (.inr 39), some (.inl least)] [] (Is none (workM least f m))
  | 0, m, hf, l0, l1 => by

    have c0 : (nI 0 ≤ 0) = True := by decide
    refine X.vc (fun _ => false) 60 ?_
    simp only [↓vc_zero, ↓vc_succ, ↓vn_app, ↓vd_ok, ↓vx_iconst, ↓vx_bipush, ↓vx_sipush, ↓vx_ldc, ↓vx_iload_n, ↓vx_iload, ↓vx_aload_n, ↓vx_aload, ↓vx_istore_n, ↓vx_istore, ↓vx_iinc, ↓vx_iadd, ↓vx_isub, ↓vx_imul, ↓vx_iand, ↓vx_ior, ↓vx_ixor, ↓vx_ishl, ↓vx_ishr, ↓vx_iushr, ↓vx_dup, ↓vx_dup2, ↓vx_goto, ↓vx_if_icmp, ↓vx_ifCond, ↓vx_getfield, ↓vx_putfield, ↓vx_iaload, ↓vx_iastore, ↓vx_baload, ↓vx_bastore, ↓vx_aaload, ↓vx_ireturn, ↓vx_return, ↓vx_invokevirtual, ↓vx_invokestatic, ↓vx_table, ↓vx_lookup, ↓vld_ok, ↓vldr_ok, ↓vst_ok, ↓vic_ok, ↓vgf_ok, ↓vgo_ok, ↓vpf_f, ↓vpf_t, ↓vpo_ok, ↓vkc_ok, ↓vbr_eq, ↓bz_01, bz_0, bz_1, is_app, mset_app, tnc_ok, wr_app, wr_ms, is59_app, vpn_ok, vpn_bz, Option.some.injEq, Sum.inl.injEq, getL, setL, Option.map_some, fvl_ok, mff_ok, jp, icm, inb_ok, ins_ok, zin_ok, rin_ok, vpi_ok, bip_ok, sip_ok, kcf_ok, vsw, vlk, Bool.false_eq_true, ↓reduceIte, true_and, and_true, and_self, Option.toList, List.cons_append, List.nil_append, Fin.isValue, forall_const, false_implies, implies_true, true_implies, reduceCtorEq, or_false, false_or, true_or, or_true, ne_eq, not_false_eq_true, not_true_eq_false, Classical.not_not, Bool.or_false, Bool.false_or, Bool.or_true, Bool.true_or, nat_int, Nat.reduceAdd, Nat.reduceBEq, Nat.reduceEqDiff, Int32.reduceLT, Int32.reduceLE, Int32.reduceAdd, Int32.reduceSub, Int.reduceAdd, Int.reduceToNat, Int.reduceLE, Int.reduceLT, Int.reduceNeg, Int.reduceSub, Int32.reduceOfInt, Nat.reduceMod, Fin.reduceFinMk, D_X8_work, rsf_8, hf, c0]
    rfl
  | f + 1, m, hf, l0, l1 => by
    have c0 : (nI (f + 1) ≤ 0) = False := eq_false (nI_nle (by omega) (by omega))
    have c1 : nI (f + 1) - 1 = nI f := nI_pred f
    have c2 : (nI f).toNatClampNeg = f := nI_clamp (by omega)
    have c3 : 0 ≤ nI f := nI_pos' (by omega)
    have c4 : nI f < 64 := nI_lt (b := 64) (by omega) (by decide)
    have x12 : (mset m 39 32 (nI f)) 54 12 = m 54 12 := ms_k (by decide)
    have go : (¬ m 58 f = 40 ∧ (¬ m 58 f = 124 ∨ least = 124)) → X 8 2 cX8_work none 1 (gf_order (mset m 39 32 (nI f)) (sgn (m 58 f)) 0 0) 0 [some (.inr 39), some (.inl least)] [] (Is none (workM least (f + 1) m)) := fun hc => by
      have e : workM least (f + 1) m = workM least f (gf_order (mset m 39 32 (nI f)) (sgn (m 58 f)) 0 0) := if_pos hc
      rw [e]
      refine work_loop least f _ ?_ ?_ ?_
      · rw [gfo_39, ms_eq]
      · rw [gfo_12, x12, t_add1 l0 (by omega)]
        omega
      · rw [gfo_12, x12, t_add1 l0 (by omega)]
        omega
    have stop : ¬ (¬ m 58 f = 40 ∧ (¬ m 58 f = 124 ∨ least = 124)) → workM least (f + 1) m = m := fun hc => if_neg hc
    have at96 : ∀ g : Int32, sgn (m 58 f) = g → (¬ m 58 f = 40 ∧ (¬ m 58 f = 124 ∨ least = 124)) → X 8 2 cX8_work none 1 (mset m 39 32 (nI f)) 96 [some (.inr 39), some (.inl least)] [.inl 0, .inl 0, .inl g, .inr 39] (Is none (workM least (f + 1) m)) := fun g hg hc => by
      have h9 := go hc
      rw [hg] at h9
      refine X.callV3 S_8_142 (by decide +kernel) rcv_39 (by decide) (by decide) (Nat.le_of_ble_eq_true rfl) (k8_order (mset m 39 32 (nI f)) g 0 0 (by rw [x12, t_ge (n := 0) rfl]; exact l0) (by rw [x12, t_le (n := 63) rfl]; omega)) ?_
      refine X.vc (fun q => q == 0) 60 ?_
      simp only [↓vc_zero, ↓vc_succ, ↓vn_app, ↓vd_ok, ↓vx_iconst, ↓vx_bipush, ↓vx_sipush, ↓vx_ldc, ↓vx_iload_n, ↓vx_iload, ↓vx_aload_n, ↓vx_aload, ↓vx_istore_n, ↓vx_istore, ↓vx_iinc, ↓vx_iadd, ↓vx_isub, ↓vx_imul, ↓vx_iand, ↓vx_ior, ↓vx_ixor, ↓vx_ishl, ↓vx_ishr, ↓vx_iushr, ↓vx_dup, ↓vx_dup2, ↓vx_goto, ↓vx_if_icmp, ↓vx_ifCond, ↓vx_getfield, ↓vx_putfield, ↓vx_iaload, ↓vx_iastore, ↓vx_baload, ↓vx_bastore, ↓vx_aaload, ↓vx_ireturn, ↓vx_return, ↓vx_invokevirtual, ↓vx_invokestatic, ↓vx_table, ↓vx_lookup, ↓vld_ok, ↓vldr_ok, ↓vst_ok, ↓vic_ok, ↓vgf_ok, ↓vgo_ok, ↓vpf_f, ↓vpf_t, ↓vpo_ok, ↓vkc_ok, ↓vbr_eq, ↓bz_01, bz_0, bz_1, is_app, mset_app, tnc_ok, wr_app, wr_ms, is59_app, vpn_ok, vpn_bz, Option.some.injEq, Sum.inl.injEq, getL, setL, Option.map_some, fvl_ok, mff_ok, jp, icm, inb_ok, ins_ok, zin_ok, rin_ok, vpi_ok, bip_ok, sip_ok, kcf_ok, vsw, vlk, Bool.false_eq_true, ↓reduceIte, true_and, and_true, and_self, Option.toList, List.cons_append, List.nil_append, Fin.isValue, forall_const, false_implies, implies_true, true_implies, reduceCtorEq, or_false, false_or, true_or, or_true, ne_eq, not_false_eq_true, not_true_eq_false, Classical.not_not, Bool.or_false, Bool.false_or, Bool.or_true, Bool.true_or, nat_int, Nat.reduceAdd, Nat.reduceBEq, Nat.reduceEqDiff, Int32.reduceLT, Int32.reduceLE, Int32.reduceAdd, Int32.reduceSub, Int.reduceAdd, Int.reduceToNat, Int.reduceLE, Int.reduceLT, Int.reduceNeg, Int.reduceSub, Int32.reduceOfInt, Nat.reduceMod, Fin.reduceFinMk, D_X8_work, rsf_8]
      exact h9
    refine X.vc (fun q => q == 0) 60 ?_
    simp only [↓vc_zero, ↓vc_succ, ↓vn_app, ↓vd_ok, ↓vx_iconst, ↓vx_bipush, ↓vx_sipush, ↓vx_ldc, ↓vx_iload_n, ↓vx_iload, ↓vx_aload_n, ↓vx_aload, ↓vx_istore_n, ↓vx_istore, ↓vx_iinc, ↓vx_iadd, ↓vx_isub, ↓vx_imul, ↓vx_iand, ↓vx_ior, ↓vx_ixor, ↓vx_ishl, ↓vx_ishr, ↓vx_iushr, ↓vx_dup, ↓vx_dup2, ↓vx_goto, ↓vx_if_icmp, ↓vx_ifCond, ↓vx_getfield, ↓vx_putfield, ↓vx_iaload, ↓vx_iastore, ↓vx_baload, ↓vx_bastore, ↓vx_aaload, ↓vx_ireturn, ↓vx_return, ↓vx_invokevirtual, ↓vx_invokestatic, ↓vx_table, ↓vx_lookup, ↓vld_ok, ↓vldr_ok, ↓vst_ok, ↓vic_ok, ↓vgf_ok, ↓vgo_ok, ↓vpf_f, ↓vpf_t, ↓vpo_ok, ↓vkc_ok, ↓vbr_eq, ↓bz_01, bz_0, bz_1, is_app, mset_app, tnc_ok, wr_app, wr_ms, is59_app, vpn_ok, vpn_bz, Option.some.injEq, Sum.inl.injEq, getL, setL, Option.map_some, fvl_ok, mff_ok, jp, icm, inb_ok, ins_ok, zin_ok, rin_ok, vpi_ok, bip_ok, sip_ok, kcf_ok, vsw, vlk, Bool.false_eq_true, ↓reduceIte, true_and, and_true, and_self, Option.toList, List.cons_append, List.nil_append, Fin.isValue, forall_const, false_implies, implies_true, true_implies, reduceCtorEq, or_false, false_or, true_or, or_true, ne_eq, not_false_eq_true, not_true_eq_false, Classical.not_not, Bool.or_false, Bool.false_or, Bool.or_true, Bool.true_or, nat_int, Nat.reduceAdd, Nat.reduceBEq, Nat.reduceEqDiff, Int32.reduceLT, Int32.reduceLE, Int32.reduceAdd, Int32.reduceSub, Int.reduceAdd, Int.reduceToNat, Int.reduceLE, Int.reduceLT, Int.reduceNeg, Int.reduceSub, Int32.reduceOfInt, Nat.reduceMod, Fin.reduceFinMk, D_X8_work, rsf_8, hf, c0, c1, c2, c3, c4]
    refine ⟨fun a => (stop (fun z => z.1 a)).symm, fun a => ⟨fun b => ⟨fun d => ⟨fun g => at96 6 (by rw [sgn, if_neg d, if_neg g]) ⟨a, Or.inl b⟩, fun g => at96 5 (by rw [sgn, if_neg d, if_pos g]) ⟨a, Or.inl b⟩⟩, fun d => at96 4 (by rw [sgn, if_pos d]) ⟨a, Or.inl b⟩⟩, fun b => ⟨fun q => (stop (fun z => z.2.elim (fun y => y b) q)).symm, fun q => ⟨fun d => ⟨fun g => at96 6 (by rw [sgn, if_neg d, if_neg g]) ⟨a, Or.inr q⟩, fun g => at96 5 (by rw [sgn, if_neg d, if_pos g]) ⟨a, Or.inr q⟩⟩, fun d => at96 4 (by rw [sgn, if_pos d]) ⟨a, Or.inr q⟩⟩⟩⟩⟩
theorem k8_nots (f : Nat) (m : Mem) (hf : m 39 32 = nI f) (l0 : 0 ≤ (m 54 12).toInt) (l1 : (m 54 12).toInt + f ≤ 62) : Ct yX8_nots 1 cX8_nots none 1 [.inr 39] m (Is none (notsM f m)) := by
  refine Ct.of (oc := 8) [some (.inr 39)] (by decide +kernel) rfl (Nat.le_of_ble_eq_true rfl) rfl ?_
  exact nots_loop f m hf l0 l1
theorem k8_work (least : Int32) (f : Nat) (m : Mem) (hf : m 39 32 = nI f) (l0 : 0 ≤ (m 54 12).toInt) (l1 : (m 54 12).toInt + f ≤ 62) : Ct yX8_work 2 cX8_work none 1 [.inr 39, .inl least] m (Is none (workM least f m)) := by
  refine Ct.of (oc := 8) [some (.inr 39), some (.inl least)] (by decide +kernel) rfl (Nat.le_of_ble_eq_true rfl) rfl ?_
  exact work_loop least f m hf l0 l1
