/-! behind -/
def clsM (m : Mem) : Mem := notsM (pl m - 1) (mset (mset m 39 32 (m 39 32 - 1)) 39 33 (m 39 33 - 1))
def behR (m : Mem) (c : Int32) : Int32 := if c = 41 then (if workM 124 (pl m) m 39 32 = 0 then 1 else 0) else if c = 38 ∨ c = 124 then 0 else 1
def behF (m : Mem) (c : Int32) : Mem := if c = 41 then (if workM 124 (pl m) m 39 32 = 0 then workM 124 (pl m) m else adv (clsM (workM 124 (pl m) m))) else if c = 38 ∨ c = 124 then adv (pushM (workM c (pl m) m) c) else m
set_option maxRecDepth 100000 in
set_option maxHeartbeats 1000000 in
theorem k8_behind (μ : Mem) (c : Int32) (A T P O : Nat) (hp : PA μ A T) (hl : A < T) (hP : μ 39 32 = nI P) (hO : μ 54 12 = nI O) (hPO : P + O ≤ A) : Ct yX8_behind 2 cX8_behind (some .int) 4 [.inr 39, .inl (c)] μ (Is (some (.inl (behR μ c))) (behF μ c)) := by
  refine Ct.of (oc := 8) [some (.inr 39), some (.inl (c))] (by decide +kernel) rfl (Nat.le_of_ble_eq_true rfl) rfl ?_
  have hT := hp.2.2.2
  have hpl : pl μ = P := by rw [pl, hP]; exact nI_clamp (by omega)
  have l0 : 0 ≤ (μ 54 12).toInt := by rw [hO, nI_toInt (by omega)]; omega
  have l1 : (μ 54 12).toInt + P ≤ 62 := by rw [hO, nI_toInt (by omega)]; omega
  have wrk : ∀ le : Int32, ∃ g, g ≤ P ∧ workM le P μ 39 32 = nI g ∧ workM le P μ 54 12 = nI (O + (P - g)) := fun le => workM_st P μ O hP hO
  have push : (c = 38 ∨ c = 124) → ¬ c = 41 → X 8 2 cX8_behind (some .int) 4 μ 62 [some (.inr 39), some (.inl c)] [.inl c, .inr 39] (Is (some (.inl (behR μ c))) (behF μ c)) := fun h1 h2 => by
    obtain ⟨g, g1, g2, g3⟩ := wrk c
    have p0 : 0 ≤ nI g := nI_pos' (by omega)
    have p1 : nI g < 64 := nI_lt (b := 64) (by omega) (by decide)
    have p2 : (nI g).toNatClampNeg = g := nI_clamp (by omega)
    have e1 : behR μ c = 0 := (if_neg h2).trans (if_pos h1)
    have e2 : behF μ c = adv (pushM (workM c P μ) c) := by rw [behF, if_neg h2, if_pos h1, hpl]
    rw [e1, e2]
    refine X.callV1 S_8_158 (by decide +kernel) rcv_39 (by decide) (by decide) (Nat.le_of_ble_eq_true rfl) (k8_work c P μ hP l0 l1) ?_
    refine X.vc (fun _ => false) 60 ?_
    simp only [↓vc_zero, ↓vc_succ, ↓vn_app, ↓vd_ok, ↓vx_iconst, ↓vx_bipush, ↓vx_sipush, ↓vx_ldc, ↓vx_iload_n, ↓vx_iload, ↓vx_aload_n, ↓vx_aload, ↓vx_istore_n, ↓vx_istore, ↓vx_iinc, ↓vx_iadd, ↓vx_isub, ↓vx_imul, ↓vx_iand, ↓vx_ior, ↓vx_ixor, ↓vx_ishl, ↓vx_ishr, ↓vx_iushr, ↓vx_dup, ↓vx_dup2, ↓vx_goto, ↓vx_if_icmp, ↓vx_ifCond, ↓vx_getfield, ↓vx_putfield, ↓vx_iaload, ↓vx_iastore, ↓vx_baload, ↓vx_bastore, ↓vx_aaload, ↓vx_ireturn, ↓vx_return, ↓vx_invokevirtual, ↓vx_invokestatic, ↓vx_table, ↓vx_lookup, ↓vld_ok, ↓vldr_ok, ↓vst_ok, ↓vic_ok, ↓vgf_ok, ↓vgo_ok, ↓vpf_f, ↓vpf_t, ↓vpo_ok, ↓vkc_ok, ↓vbr_eq, ↓bz_01, bz_0, bz_1, is_app, mset_app, tnc_ok, wr_app, wr_ms, is59_app, vpn_ok, vpn_bz, Option.some.injEq, Sum.inl.injEq, getL, setL, Option.map_some, fvl_ok, mff_ok, jp, icm, inb_ok, ins_ok, zin_ok, rin_ok, vpi_ok, bip_ok, sip_ok, kcf_ok, vsw, vlk, Bool.false_eq_true, ↓reduceIte, true_and, and_true, and_self, Option.toList, List.cons_append, List.nil_append, Fin.isValue, forall_const, false_implies, implies_true, true_implies, reduceCtorEq, or_false, false_or, true_or, or_true, ne_eq, not_false_eq_true, not_true_eq_false, Classical.not_not, Bool.or_false, Bool.false_or, Bool.or_true, Bool.true_or, nat_int, Nat.reduceAdd, Nat.reduceBEq, Nat.reduceEqDiff, Int32.reduceLT, Int32.reduceLE, Int32.reduceAdd, Int32.reduceSub, Int.reduceAdd, Int.reduceToNat, Int.reduceLE, Int.reduceLT, Int.reduceNeg, Int.reduceSub, Int32.reduceOfInt, Nat.reduceMod, Fin.reduceFinMk, D_X8_behind, rsf_8, g2, p0, p1, p2]
    simp [adv, pushM, pl, mset_app, g2, p2]
  have clos : c = 41 → X 8 2 cX8_behind (some .int) 4 μ 9 [some (.inr 39), some (.inl c)] [.inl 124, .inr 39] (Is (some (.inl (behR μ c))) (behF μ c)) := fun h1 => by
    obtain ⟨g, g1, g2, g3⟩ := wrk 124
    have e1 : behR μ c = if workM 124 P μ 39 32 = 0 then 1 else 0 := by rw [behR, if_pos h1, hpl]
    have e2 : behF μ c = if workM 124 P μ 39 32 = 0 then workM 124 P μ else adv (clsM (workM 124 P μ)) := by rw [behF, if_pos h1, hpl]
    rw [e1, e2]
    refine X.callV1 S_8_158 (by decide +kernel) rcv_39 (by decide) (by decide) (Nat.le_of_ble_eq_true rfl) (k8_work 124 P μ hP l0 l1) ?_
    refine X.vc (fun _ => false) 60 ?_
    simp only [↓vc_zero, ↓vc_succ, ↓vn_app, ↓vd_ok, ↓vx_iconst, ↓vx_bipush, ↓vx_sipush, ↓vx_ldc, ↓vx_iload_n, ↓vx_iload, ↓vx_aload_n, ↓vx_aload, ↓vx_istore_n, ↓vx_istore, ↓vx_iinc, ↓vx_iadd, ↓vx_isub, ↓vx_imul, ↓vx_iand, ↓vx_ior, ↓vx_ixor, ↓vx_ishl, ↓vx_ishr, ↓vx_iushr, ↓vx_dup, ↓vx_dup2, ↓vx_goto, ↓vx_if_icmp, ↓vx_ifCond, ↓vx_getfield, ↓vx_putfield, ↓vx_iaload, ↓vx_iastore, ↓vx_baload, ↓vx_bastore, ↓vx_aaload, ↓vx_ireturn, ↓vx_return, ↓vx_invokevirtual, ↓vx_invokestatic, ↓vx_table, ↓vx_lookup, ↓vld_ok, ↓vldr_ok, ↓vst_ok, ↓vic_ok, ↓vgf_ok, ↓vgo_ok, ↓vpf_f, ↓vpf_t, ↓vpo_ok, ↓vkc_ok, ↓vbr_eq, ↓bz_01, bz_0, bz_1, is_app, mset_app, tnc_ok, wr_app, wr_ms, is59_app, vpn_ok, vpn_bz, Option.some.injEq, Sum.inl.injEq, getL, setL, Option.map_some, fvl_ok, mff_ok, jp, icm, inb_ok, ins_ok, zin_ok, rin_ok, vpi_ok, bip_ok, sip_ok, kcf_ok, vsw, vlk, Bool.false_eq_true, ↓reduceIte, true_and, and_true, and_self, Option.toList, List.cons_append, List.nil_append, Fin.isValue, forall_const, false_implies, implies_true, true_implies, reduceCtorEq, or_false, false_or, true_or, or_true, ne_eq, not_false_eq_true, not_true_eq_false, Classical.not_not, Bool.or_false, Bool.false_or, Bool.or_true, Bool.true_or, nat_int, Nat.reduceAdd, Nat.reduceBEq, Nat.reduceEqDiff, Int32.reduceLT, Int32.reduceLE, Int32.reduceAdd, Int32.reduceSub, Int.reduceAdd, Int.reduceToNat, Int.reduceLE, Int.reduceLT, Int.reduceNeg, Int.reduceSub, Int32.reduceOfInt, Nat.reduceMod, Fin.reduceFinMk, D_X8_behind, rsf_8]
    by_cases h3 : workM 124 P μ 39 32 = 0
    · rw [if_pos h3, if_pos h3]
      exact ⟨fun z => absurd h3 z, fun _ => ⟨rfl, rfl⟩⟩
    · rw [if_neg h3, if_neg h3]
      refine ⟨fun _ => ?_, fun z => absurd z h3⟩
      have hg : 1 ≤ g := by
        rcases Nat.eq_zero_or_pos g with h9 | h9
        · exact absurd (by rw [g2, h9]; rfl) h3
        · exact h9
      have hplw : pl (workM 124 P μ) = g := by rw [pl, g2]; exact nI_clamp (by omega)
      have q1 : workM 124 P μ 39 32 - 1 = nI (g - 1) := by rw [g2]; exact nI_sub1 hg
      refine X.callV0 S_8_155 (by decide +kernel) rcv_39 (by decide) (by decide) (Nat.le_of_ble_eq_true rfl) (k8_nots (g - 1) (mset (mset (workM 124 P μ) 39 32 (workM 124 P μ 39 32 - 1)) 39 33 (workM 124 P μ 39 33 - 1)) (by rw [ms_j (by decide), ms_eq, q1]) (by rw [ms_k (by decide), ms_k (by decide), g3, nI_toInt (by omega)]; omega) (by rw [ms_k (by decide), ms_k (by decide), g3, nI_toInt (by omega)]; omega)) ?_
      refine X.vc (fun _ => false) 60 ?_
      simp only [↓vc_zero, ↓vc_succ, ↓vn_app, ↓vd_ok, ↓vx_iconst, ↓vx_bipush, ↓vx_sipush, ↓vx_ldc, ↓vx_iload_n, ↓vx_iload, ↓vx_aload_n, ↓vx_aload, ↓vx_istore_n, ↓vx_istore, ↓vx_iinc, ↓vx_iadd, ↓vx_isub, ↓vx_imul, ↓vx_iand, ↓vx_ior, ↓vx_ixor, ↓vx_ishl, ↓vx_ishr, ↓vx_iushr, ↓vx_dup, ↓vx_dup2, ↓vx_goto, ↓vx_if_icmp, ↓vx_ifCond, ↓vx_getfield, ↓vx_putfield, ↓vx_iaload, ↓vx_iastore, ↓vx_baload, ↓vx_bastore, ↓vx_aaload, ↓vx_ireturn, ↓vx_return, ↓vx_invokevirtual, ↓vx_invokestatic, ↓vx_table, ↓vx_lookup, ↓vld_ok, ↓vldr_ok, ↓vst_ok, ↓vic_ok, ↓vgf_ok, ↓vgo_ok, ↓vpf_f, ↓vpf_t, ↓vpo_ok, ↓vkc_ok, ↓vbr_eq, ↓bz_01, bz_0, bz_1, is_app, mset_app, tnc_ok, wr_app, wr_ms, is59_app, vpn_ok, vpn_bz, Option.some.injEq, Sum.inl.injEq, getL, setL, Option.map_some, fvl_ok, mff_ok, jp, icm, inb_ok, ins_ok, zin_ok, rin_ok, vpi_ok, bip_ok, sip_ok, kcf_ok, vsw, vlk, Bool.false_eq_true, ↓reduceIte, true_and, and_true, and_self, Option.toList, List.cons_append, List.nil_append, Fin.isValue, forall_const, false_implies, implies_true, true_implies, reduceCtorEq, or_false, false_or, true_or, or_true, ne_eq, not_false_eq_true, not_true_eq_false, Classical.not_not, Bool.or_false, Bool.false_or, Bool.or_true, Bool.true_or, nat_int, Nat.reduceAdd, Nat.reduceBEq, Nat.reduceEqDiff, Int32.reduceLT, Int32.reduceLE, Int32.reduceAdd, Int32.reduceSub, Int.reduceAdd, Int.reduceToNat, Int.reduceLE, Int.reduceLT, Int.reduceNeg, Int.reduceSub, Int32.reduceOfInt, Nat.reduceMod, Fin.reduceFinMk, D_X8_behind, rsf_8]
      rw [clsM, hplw]
      rfl
  refine X.vc (fun _ => false) 60 ?_
  simp only [↓vc_zero, ↓vc_succ, ↓vn_app, ↓vd_ok, ↓vx_iconst, ↓vx_bipush, ↓vx_sipush, ↓vx_ldc, ↓vx_iload_n, ↓vx_iload, ↓vx_aload_n, ↓vx_aload, ↓vx_istore_n, ↓vx_istore, ↓vx_iinc, ↓vx_iadd, ↓vx_isub, ↓vx_imul, ↓vx_iand, ↓vx_ior, ↓vx_ixor, ↓vx_ishl, ↓vx_ishr, ↓vx_iushr, ↓vx_dup, ↓vx_dup2, ↓vx_goto, ↓vx_if_icmp, ↓vx_ifCond, ↓vx_getfield, ↓vx_putfield, ↓vx_iaload, ↓vx_iastore, ↓vx_baload, ↓vx_bastore, ↓vx_aaload, ↓vx_ireturn, ↓vx_return, ↓vx_invokevirtual, ↓vx_invokestatic, ↓vx_table, ↓vx_lookup, ↓vld_ok, ↓vldr_ok, ↓vst_ok, ↓vic_ok, ↓vgf_ok, ↓vgo_ok, ↓vpf_f, ↓vpf_t, ↓vpo_ok, ↓vkc_ok, ↓vbr_eq, ↓bz_01, bz_0, bz_1, is_app, mset_app, tnc_ok, wr_app, wr_ms, is59_app, vpn_ok, vpn_bz, Option.some.injEq, Sum.inl.injEq, getL, setL, Option.map_some, fvl_ok, mff_ok, jp, icm, inb_ok, ins_ok, zin_ok, rin_ok, vpi_ok, bip_ok, sip_ok, kcf_ok, vsw, vlk, Bool.false_eq_true, ↓reduceIte, true_and, and_true, and_self, Option.toList, List.cons_append, List.nil_append, Fin.isValue, forall_const, false_implies, implies_true, true_implies, reduceCtorEq, or_false, false_or, true_or, or_true, ne_eq, not_false_eq_true, not_true_eq_false, Classical.not_not, Bool.or_false, Bool.false_or, Bool.or_true, Bool.true_or, nat_int, Nat.reduceAdd, Nat.reduceBEq, Nat.reduceEqDiff, Int32.reduceLT, Int32.reduceLE, Int32.reduceAdd, Int32.reduceSub, Int.reduceAdd, Int.reduceToNat, Int.reduceLE, Int.reduceLT, Int.reduceNeg, Int.reduceSub, Int32.reduceOfInt, Nat.reduceMod, Fin.reduceFinMk, D_X8_behind, rsf_8]
  refine ⟨fun n1 => ⟨fun z => push (Or.inl z) n1, fun n2 => ⟨fun n3 => ?_, fun z => push (Or.inr z) n1⟩⟩, fun z => clos z⟩
  have n4 : ¬ (c = 38 ∨ c = 124) := fun z => z.elim n2 n3
  exact ⟨((if_neg n1).trans (if_neg n4)).symm, ((if_neg n1).trans (if_neg n4)).symm⟩
