def bz (p : Prop) [Decidable p] : Int32 := if p then 1 else 0
set_option maxRecDepth 100000 in
set_option maxHeartbeats 4000000 in
theorem k_isIn (μ : Mem) (v lo hi : Int32) : Ct yX8_isIn 3 cX8_isIn (some .boolean) 0 [.inl v, .inl lo, .inl hi] μ (Is (some (.inl (bz (lo ≤ v ∧ v ≤ hi)))) μ) := by
  refine Ct.of (oc := 8) [some (.inl v), some (.inl lo), some (.inl hi)] (by decide +kernel) rfl (Nat.le_of_ble_eq_true rfl) rfl ?_
  refine X.vc (fun _ => false) 12 ?_
  simp only [↓vc_zero, ↓vc_succ, ↓vn_app, ↓vd_ok, ↓vx_iconst, ↓vx_bipush, ↓vx_sipush, ↓vx_ldc, ↓vx_iload_n, ↓vx_iload, ↓vx_aload_n, ↓vx_aload, ↓vx_istore_n, ↓vx_istore, ↓vx_iinc, ↓vx_iadd, ↓vx_isub, ↓vx_imul, ↓vx_iand, ↓vx_ior, ↓vx_ixor, ↓vx_ishl, ↓vx_ishr, ↓vx_iushr, ↓vx_dup, ↓vx_dup2, ↓vx_goto, ↓vx_if_icmp, ↓vx_ifCond, ↓vx_getfield, ↓vx_putfield, ↓vx_iaload, ↓vx_iastore, ↓vx_baload, ↓vx_bastore, ↓vx_aaload, ↓vx_ireturn, ↓vx_return, ↓vx_invokevirtual, ↓vx_invokestatic, ↓vx_table, ↓vx_lookup, ↓vld_ok, ↓vldr_ok, ↓vst_ok, ↓vic_ok, ↓vgf_ok, ↓vgo_ok, ↓vpf_f, ↓vpf_t, ↓vpo_ok, ↓vkc_ok, ↓vbr_eq, getL, setL, Option.map_some, fvl_ok, mff_ok, jp, icm, inb_ok, ins_ok, zin_ok, rin_ok, bip_ok, sip_ok, kcf_ok, vsw, vlk, Bool.false_eq_true, ↓reduceIte, true_and, and_true, Option.toList, List.cons_append, List.nil_append, Fin.isValue, forall_const, reduceCtorEq, or_false, false_or, true_or, or_true, not_false_eq_true, not_true_eq_false, Bool.or_false, Bool.false_or, Bool.or_true, Bool.true_or, nat_int, Nat.reduceAdd, Nat.reduceBEq, Int.reduceAdd, Int.reduceToNat, Int.reduceLE, Int.reduceLT, Int.reduceNeg, Int.reduceSub, Int32.reduceOfInt, Nat.reduceMod, Fin.reduceFinMk, D_X8_isIn, rsf_8]
  trace_state
  sorry
