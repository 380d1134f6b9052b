/-! Texts -/
theorem rtg_19 : ∀ H, H < 13 → rtg 19 H = 21 + H := by decide +kernel
theorem inb_21 : ∀ H, H < 13 → ial (21 + H) = some 60 := by decide +kernel
theorem inb_row {H : Nat} (hH : H < 13) {i : Int32} : inb 0 (21 + H) i = (0 ≤ i ∧ i < 60) := by
  unfold inb
  rw [if_neg (by omega), inb_21 H hH]
  exact vpi rfl
theorem ins_row {H : Nat} (hH : H < 13) {i : Int32} : ins (21 + H) i = (0 ≤ i ∧ i < 60) := by
  unfold ins
  rw [inb_21 H hH]
  exact vpi rfl
theorem rtg_12 : rtg 19 12 = 33 := rfl
set_option maxRecDepth 100000 in
set_option maxHeartbeats 1000000 in
theorem k4_clearAtHand (μ : Mem)   : Ct yX4_clearAtHand 1 cX4_clearAtHand none 0 [.inr 18] μ (Is none (mset μ 34 12 0)) := by
  refine Ct.of (oc := 4) [some (.inr 18)] (by decide +kernel) rfl (Nat.le_of_ble_eq_true rfl) rfl ?_
  refine X.vc (fun _ => false) 60 ?_
  simp only [↓vc_zero, ↓vc_succ, ↓vn_app, ↓vd_ok, ↓vx_iconst, ↓vx_bipush, ↓vx_sipush, ↓vx_ldc, ↓vx_iload_n, ↓vx_iload, ↓vx_aload_n, ↓vx_aload, ↓vx_istore_n, ↓vx_istore, ↓vx_iinc, ↓vx_iadd, ↓vx_isub, ↓vx_imul, ↓vx_iand, ↓vx_ior, ↓vx_ixor, ↓vx_ishl, ↓vx_ishr, ↓vx_iushr, ↓vx_dup, ↓vx_dup2, ↓vx_goto, ↓vx_if_icmp, ↓vx_ifCond, ↓vx_getfield, ↓vx_putfield, ↓vx_iaload, ↓vx_iastore, ↓vx_baload, ↓vx_bastore, ↓vx_aaload, ↓vx_ireturn, ↓vx_return, ↓vx_invokevirtual, ↓vx_invokestatic, ↓vx_table, ↓vx_lookup, ↓vld_ok, ↓vldr_ok, ↓vst_ok, ↓vic_ok, ↓vgf_ok, ↓vgo_ok, ↓vpf_f, ↓vpf_t, ↓vpo_ok, ↓vkc_ok, ↓vbr_eq, ↓bz_01, bz_0, bz_1, is_app, mset_app, tnc_ok, wr_app, wr_ms, is59_app, vpn_ok, vpn_bz, Option.some.injEq, Sum.inl.injEq, getL, setL, Option.map_some, fvl_ok, mff_ok, jp, icm, inb_ok, ins_ok, zin_ok, rin_ok, vpi_ok, bip_ok, sip_ok, kcf_ok, vsw, vlk, Bool.false_eq_true, ↓reduceIte, true_and, and_true, and_self, Option.toList, List.cons_append, List.nil_append, Fin.isValue, forall_const, false_implies, implies_true, true_implies, reduceCtorEq, or_false, false_or, true_or, or_true, ne_eq, not_false_eq_true, not_true_eq_false, Classical.not_not, Bool.or_false, Bool.false_or, Bool.or_true, Bool.true_or, nat_int, Nat.reduceAdd, Nat.reduceBEq, Nat.reduceEqDiff, Int32.reduceLT, Int32.reduceLE, Int32.reduceAdd, Int32.reduceSub, Int.reduceAdd, Int.reduceToNat, Int.reduceLE, Int.reduceLT, Int.reduceNeg, Int.reduceSub, Int32.reduceOfInt, Nat.reduceMod, Fin.reduceFinMk, D_X4_clearAtHand, rsf_4]
def cst (w a b : Int32) : Int32 := (b <<< ((16 : Int32) &&& 31) ||| a <<< ((3 : Int32) &&& 31)) ||| w
def cad (m : Mem) (w a b : Int32) : Mem := if m 34 12 < 60 then mset (mset m 33 (m 34 12).toNatClampNeg (cst w a b)) 34 12 (m 34 12 + 1) else m
set_option maxRecDepth 100000 in
set_option maxHeartbeats 1000000 in
theorem k4_addAtHand (μ : Mem) (w a b : Int32) (h0 : 0 ≤ μ 34 12) : Ct yX4_addAtHand 5 cX4_addAtHand none 0 [.inr 18, .inl (w), .inl (a), .inl (b)] μ (Is none (cad μ w a b)) := by
  refine Ct.of (oc := 4) [some (.inr 18), some (.inl (w)), some (.inl (a)), some (.inl (b)), none] (by decide +kernel) rfl (Nat.le_of_ble_eq_true rfl) rfl ?_
  refine X.vc (fun _ => false) 60 ?_
  simp only [↓vc_zero, ↓vc_succ, ↓vn_app, ↓vd_ok, ↓vx_iconst, ↓vx_bipush, ↓vx_sipush, ↓vx_ldc, ↓vx_iload_n, ↓vx_iload, ↓vx_aload_n, ↓vx_aload, ↓vx_istore_n, ↓vx_istore, ↓vx_iinc, ↓vx_iadd, ↓vx_isub, ↓vx_imul, ↓vx_iand, ↓vx_ior, ↓vx_ixor, ↓vx_ishl, ↓vx_ishr, ↓vx_iushr, ↓vx_dup, ↓vx_dup2, ↓vx_goto, ↓vx_if_icmp, ↓vx_ifCond, ↓vx_getfield, ↓vx_putfield, ↓vx_iaload, ↓vx_iastore, ↓vx_baload, ↓vx_bastore, ↓vx_aaload, ↓vx_ireturn, ↓vx_return, ↓vx_invokevirtual, ↓vx_invokestatic, ↓vx_table, ↓vx_lookup, ↓vld_ok, ↓vldr_ok, ↓vst_ok, ↓vic_ok, ↓vgf_ok, ↓vgo_ok, ↓vpf_f, ↓vpf_t, ↓vpo_ok, ↓vkc_ok, ↓vbr_eq, ↓bz_01, bz_0, bz_1, is_app, mset_app, tnc_ok, wr_app, wr_ms, is59_app, vpn_ok, vpn_bz, Option.some.injEq, Sum.inl.injEq, getL, setL, Option.map_some, fvl_ok, mff_ok, jp, icm, inb_ok, ins_ok, zin_ok, rin_ok, vpi_ok, bip_ok, sip_ok, kcf_ok, vsw, vlk, Bool.false_eq_true, ↓reduceIte, true_and, and_true, and_self, Option.toList, List.cons_append, List.nil_append, Fin.isValue, forall_const, false_implies, implies_true, true_implies, reduceCtorEq, or_false, false_or, true_or, or_true, ne_eq, not_false_eq_true, not_true_eq_false, Classical.not_not, Bool.or_false, Bool.false_or, Bool.or_true, Bool.true_or, nat_int, Nat.reduceAdd, Nat.reduceBEq, Nat.reduceEqDiff, Int32.reduceLT, Int32.reduceLE, Int32.reduceAdd, Int32.reduceSub, Int.reduceAdd, Int.reduceToNat, Int.reduceLE, Int.reduceLT, Int.reduceNeg, Int.reduceSub, Int32.reduceOfInt, Nat.reduceMod, Fin.reduceFinMk, D_X4_addAtHand, rsf_4, rtg_12]
  (repeat' (first | refine And.intro ?_ ?_ | intro)) <;> grind (splits := 30) [cad, cst]
set_option maxRecDepth 100000 in
set_option maxHeartbeats 1000000 in
theorem k4_push (μ : Mem) (s b : Int32)  : Ct yX4_push 2 cX4_push (some .int) 0 [.inl (s), .inl (b)] μ (Is (some (.inl (s <<< ((1 : Int32) &&& 31) ||| (if b = 0 then 0 else 1)))) μ) := by
  refine Ct.of (oc := 4) [some (.inl (s)), some (.inl (b))] (by decide +kernel) rfl (Nat.le_of_ble_eq_true rfl) rfl ?_
  refine X.vc (fun _ => false) 60 ?_
  simp only [↓vc_zero, ↓vc_succ, ↓vn_app, ↓vd_ok, ↓vx_iconst, ↓vx_bipush, ↓vx_sipush, ↓vx_ldc, ↓vx_iload_n, ↓vx_iload, ↓vx_aload_n, ↓vx_aload, ↓vx_istore_n, ↓vx_istore, ↓vx_iinc, ↓vx_iadd, ↓vx_isub, ↓vx_imul, ↓vx_iand, ↓vx_ior, ↓vx_ixor, ↓vx_ishl, ↓vx_ishr, ↓vx_iushr, ↓vx_dup, ↓vx_dup2, ↓vx_goto, ↓vx_if_icmp, ↓vx_ifCond, ↓vx_getfield, ↓vx_putfield, ↓vx_iaload, ↓vx_iastore, ↓vx_baload, ↓vx_bastore, ↓vx_aaload, ↓vx_ireturn, ↓vx_return, ↓vx_invokevirtual, ↓vx_invokestatic, ↓vx_table, ↓vx_lookup, ↓vld_ok, ↓vldr_ok, ↓vst_ok, ↓vic_ok, ↓vgf_ok, ↓vgo_ok, ↓vpf_f, ↓vpf_t, ↓vpo_ok, ↓vkc_ok, ↓vbr_eq, ↓bz_01, bz_0, bz_1, is_app, mset_app, tnc_ok, wr_app, wr_ms, is59_app, vpn_ok, vpn_bz, Option.some.injEq, Sum.inl.injEq, getL, setL, Option.map_some, fvl_ok, mff_ok, jp, icm, inb_ok, ins_ok, zin_ok, rin_ok, vpi_ok, bip_ok, sip_ok, kcf_ok, vsw, vlk, Bool.false_eq_true, ↓reduceIte, true_and, and_true, and_self, Option.toList, List.cons_append, List.nil_append, Fin.isValue, forall_const, false_implies, implies_true, true_implies, reduceCtorEq, or_false, false_or, true_or, or_true, ne_eq, not_false_eq_true, not_true_eq_false, Classical.not_not, Bool.or_false, Bool.false_or, Bool.or_true, Bool.true_or, nat_int, Nat.reduceAdd, Nat.reduceBEq, Nat.reduceEqDiff, Int32.reduceLT, Int32.reduceLE, Int32.reduceAdd, Int32.reduceSub, Int.reduceAdd, Int.reduceToNat, Int.reduceLE, Int.reduceLT, Int.reduceNeg, Int.reduceSub, Int32.reduceOfInt, Nat.reduceMod, Fin.reduceFinMk, D_X4_push, rsf_4]
  grind
def cpu (s : Int32) (p : Bool) : Int32 := s <<< ((1 : Int32) &&& 31) ||| (if p = true then 1 else 0)
theorem k4_pu (μ : Mem) (s : Int32) (p : Prop) [Decidable p] : Ct yX4_push 2 cX4_push (some .int) 0 [.inl s, .inl (bz p)] μ (Is (some (.inl (cpu s (decide p)))) μ) := by
  have h := k4_push μ s (bz p)
  have e : (s <<< ((1 : Int32) &&& 31) ||| (if bz p = 0 then 0 else 1)) = cpu s (decide p) := by
    unfold cpu bz
    by_cases hp : p <;> simp [hp]
  rw [e] at h
  exact h
/-- one step of a text, over the stack of bits -/
def cac1 (st wo os kd dy s : Int32) : Int32 := if s &&& 7 = 0 then cpu st (decide ((wo >>> ((ushr s 3 &&& 8191) &&& 31)) &&& 1 = 1)) else if s &&& 7 = 1 then cpu st (decide ((os >>> ((ushr s 3 &&& 8191) &&& 31)) &&& 1 = 1)) else if s &&& 7 = 2 then cpu st (decide (kd = ushr s 3 &&& 8191)) else if s &&& 7 = 3 then cpu st (decide (ushr s 3 &&& 8191 ≤ dy ∧ dy ≤ ushr s 16)) else if s &&& 7 = 4 then st ^^^ 1 else if s &&& 7 = 5 then ushr st 1 &&& (st ||| -2) else ushr st 1 ||| (st &&& 1)
def cacs (μ : Mem) (H : Nat) (wo os kd dy : Int32) : Nat → Int32
  | 0 => 0
  | k + 1 => cac1 (cacs μ H wo os kd dy k) wo os kd dy (μ (21 + H) k)
set_option maxHeartbeats 2000000 in
theorem acc_step {μ : Mem} {Q : Option Vl → Mem → Prop} (H k : Nat) (hH : H < 13) (wo os kd dy st : Int32) (o8 o9 : Option Vl) (n : Nat) (hn : μ 34 H = nI n) (hk : k < n) (hn60 : n ≤ 60)
    (ih : ∀ o8 o9, X 4 10 cX4_accepts (some .boolean) 1 μ 6 [some (.inr 18), some (.inl (nI H)), some (.inl wo), some (.inl os), some (.inl kd), some (.inl dy), some (.inl (cac1 st wo os kd dy (μ (21 + H) k))), some (.inl (nI (k + 1))), o8, o9] [] Q) :
    X 4 10 cX4_accepts (some .boolean) 1 μ 6 [some (.inr 18), some (.inl (nI H)), some (.inl wo), some (.inl os), some (.inl kd), some (.inl dy), some (.inl st), some (.inl (nI k)), o8, o9] [] Q := by

  obtain ⟨i0, i1, i2, i3, i4, i5⟩ := idx (m := 60) rfl hk hn60 (by decide)
  have hHc : (nI H).toNatClampNeg = H := nI_clamp (by omega)
  have hH0 : 0 ≤ nI H := nI_pos' (by omega)
  have hH1 : nI H < 13 := nI_lt (b := 13) (by omega) (by decide)
  have hr := rtg_19 H hH
  have hi := fun i => inb_row hH (i := i)
  generalize hs : μ (21 + H) k = s at ih
  refine X.vc (fun q => q == 6 || q == 88 || q == 104 || q == 126 || q == 158) 60 ?_
  simp only [↓vc_zero, ↓vc_succ, ↓vn_app, ↓vd_ok, ↓vx_iconst, ↓vx_bipush, ↓vx_sipush, ↓vx_ldc, ↓vx_iload_n, ↓vx_iload, ↓vx_aload_n, ↓vx_aload, ↓vx_istore_n, ↓vx_istore, ↓vx_iinc, ↓vx_iadd, ↓vx_isub, ↓vx_imul, ↓vx_iand, ↓vx_ior, ↓vx_ixor, ↓vx_ishl, ↓vx_ishr, ↓vx_iushr, ↓vx_dup, ↓vx_dup2, ↓vx_goto, ↓vx_if_icmp, ↓vx_ifCond, ↓vx_getfield, ↓vx_putfield, ↓vx_iaload, ↓vx_iastore, ↓vx_baload, ↓vx_bastore, ↓vx_aaload, ↓vx_ireturn, ↓vx_return, ↓vx_invokevirtual, ↓vx_invokestatic, ↓vx_table, ↓vx_lookup, ↓vld_ok, ↓vldr_ok, ↓vst_ok, ↓vic_ok, ↓vgf_ok, ↓vgo_ok, ↓vpf_f, ↓vpf_t, ↓vpo_ok, ↓vkc_ok, ↓vbr_eq, ↓bz_01, bz_0, bz_1, is_app, mset_app, tnc_ok, wr_app, wr_ms, is59_app, vpn_ok, vpn_bz, Option.some.injEq, Sum.inl.injEq, getL, setL, Option.map_some, fvl_ok, mff_ok, jp, icm, inb_ok, ins_ok, zin_ok, rin_ok, vpi_ok, bip_ok, sip_ok, kcf_ok, vsw, vlk, Bool.false_eq_true, ↓reduceIte, true_and, and_true, and_self, Option.toList, List.cons_append, List.nil_append, Fin.isValue, forall_const, false_implies, implies_true, true_implies, reduceCtorEq, or_false, false_or, true_or, or_true, ne_eq, not_false_eq_true, not_true_eq_false, Classical.not_not, Bool.or_false, Bool.false_or, Bool.or_true, Bool.true_or, nat_int, Nat.reduceAdd, Nat.reduceBEq, Nat.reduceEqDiff, Int32.reduceLT, Int32.reduceLE, Int32.reduceAdd, Int32.reduceSub, Int.reduceAdd, Int.reduceToNat, Int.reduceLE, Int.reduceLT, Int.reduceNeg, Int.reduceSub, Int32.reduceOfInt, Nat.reduceMod, Fin.reduceFinMk, D_X4_accepts, rsf_4, tolist_arr, ti_ok, List.zip_cons_cons, List.zip_nil_right, List.zip_nil_left, List.drop_succ_cons, List.drop_zero, List.all_cons, List.all_nil, decide_true, Bool.and_self, Bool.and_true, List.length_cons, List.length_nil, hHc, hH0, hH1, hn, i0, i1, i2, i3, i4, hr, hi, hs]
  trace_state
  sorry
