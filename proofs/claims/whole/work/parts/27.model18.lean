theorem readP_s {f : Nat} {w : Bool} {m : Mem} : readP (f + 1) w m = if sv (plc m) (plc m 39 29) < 0 then fin w (plc m) else
    if w = true then (if behR (plc m) (sv (plc m) (plc m 39 29)) = 0 then readP f (decide (sv (plc m) (plc m 39 29) = 41)) (behF (plc m) (sv (plc m) (plc m 39 29))) else (behR (plc m) (sv (plc m) (plc m 39 29)), behF (plc m) (sv (plc m) (plc m 39 29))))
    else (if begR (plc m) (sv (plc m) (plc m 39 29)) = 0 then readP f (decide (¬ sv (plc m) (plc m 39 29) = 33 ∧ ¬ sv (plc m) (plc m 39 29) = 40)) (begF (plc m) (sv (plc m) (plc m 39 29))) else (begR (plc m) (sv (plc m) (plc m 39 29)), begF (plc m) (sv (plc m) (plc m 39 29)))) := rfl
theorem sv_pos {m : Mem} {A T : Nat} (h : PA m A T) (hs : ¬ sv m (m 39 29) < 0) : A < T := by
  rcases Nat.lt_or_ge A T with h9 | h9
  · exact h9
  · exfalso
    rw [sv, h.1, h.2.1, if_neg (nI_nlt h9 (by have := h.2.2.1; have := h.2.2.2; omega))] at hs
    exact hs (by decide)
set_option maxRecDepth 100000 in
set_option maxHeartbeats 600000 in
theorem read_loop (f : Nat) : ∀ (w : Bool) (m : Mem) (A T P O : Nat) (c : Int32) (o : Option Vl), RI m A T P O → T - A + 1 ≤ f → 0 ≤ c → X 8 4 cX8_read (some .int) 5 m 27 [some (.inr 39), some (.inl (bz (w = true))), some (.inl c), o] [] (Is (some (.inl (readP f w m).1)) (readP f w m).2) := by

  induction f with
  | zero =>
    intro w m A T P O c o h hf
    omega
  | succ f ih =>
    intro w m A T P O c o h hf hc
    have hc' : ¬ c < 0 := by grind
    obtain ⟨A', h', hA'⟩ := plc_RI h
    have b0 : 0 ≤ plc m 39 29 := by rw [h'.1.1]; exact nI_pos' (by have := h'.1.2.2.1; have := h'.1.2.2.2; omega)
    have b1 : plc m 39 19 ≤ 60 := by rw [h'.1.2.1]; exact nI_le (b := 60) h'.1.2.2.2 (by decide)
    have ea : skp m 39 29 = plc m 39 29 := (ms_j (by decide)).symm
    have ep : mset (skp m) 39 30 (plc m 39 29) = plc m := by rw [← ea]; rfl
    refine X.vc (fun q => q == 31 || q == 149) 60 ?_
    simp only [↓vc_zero, ↓vc_succ, ↓vn_app, ↓vd_ok, ↓vx_iconst, ↓vx_bipush, ↓vx_sipush, ↓vx_ldc, ↓vx_iload_n, ↓vx_iload, ↓vx_aload_n, ↓vx_aload, ↓vx_istore_n, ↓vx_istore, ↓vx_iinc, ↓vx_iadd, ↓vx_isub, ↓vx_imul, ↓vx_iand, ↓vx_ior, ↓vx_ixor, ↓vx_ishl, ↓vx_ishr, ↓vx_iushr, ↓vx_dup, ↓vx_dup2, ↓vx_goto, ↓vx_if_icmp, ↓vx_ifCond, ↓vx_getfield, ↓vx_putfield, ↓vx_iaload, ↓vx_iastore, ↓vx_baload, ↓vx_bastore, ↓vx_aaload, ↓vx_ireturn, ↓vx_return, ↓vx_invokevirtual, ↓vx_invokestatic, ↓vx_table, ↓vx_lookup, ↓vld_ok, ↓vldr_ok, ↓vst_ok, ↓vic_ok, ↓vgf_ok, ↓vgo_ok, ↓vpf_f, ↓vpf_t, ↓vpo_ok, ↓vkc_ok, ↓vbr_eq, ↓bz_01, bz_0, bz_1, is_app, mset_app, tnc_ok, wr_app, wr_ms, is59_app, vpn_ok, vpn_bz, Option.some.injEq, Sum.inl.injEq, getL, setL, Option.map_some, fvl_ok, mff_ok, jp, icm, inb_ok, ins_ok, zin_ok, rin_ok, vpi_ok, bip_ok, sip_ok, kcf_ok, vsw, vlk, Bool.false_eq_true, ↓reduceIte, true_and, and_true, and_self, Option.toList, List.cons_append, List.nil_append, Fin.isValue, forall_const, false_implies, implies_true, true_implies, reduceCtorEq, or_false, false_or, true_or, or_true, ne_eq, not_false_eq_true, not_true_eq_false, Classical.not_not, Bool.or_false, Bool.false_or, Bool.or_true, Bool.true_or, nat_int, Nat.reduceAdd, Nat.reduceBEq, Nat.reduceEqDiff, Int32.reduceLT, Int32.reduceLE, Int32.reduceAdd, Int32.reduceSub, Int.reduceAdd, Int.reduceToNat, Int.reduceLE, Int.reduceLT, Int.reduceNeg, Int.reduceSub, Int32.reduceOfInt, Nat.reduceMod, Fin.reduceFinMk, D_X8_read, rsf_8]
    refine ⟨fun z => absurd z hc', fun _ => ?_⟩
    refine skip_loop _ _ c o (fz m) m A T h.1 (PA_fz h.1) ?_
    show X 8 4 cX8_read (some .int) 5 (skp m) 57 _ _ _
    refine X.vc (fun _ => false) 60 ?_
    simp only [↓vc_zero, ↓vc_succ, ↓vn_app, ↓vd_ok, ↓vx_iconst, ↓vx_bipush, ↓vx_sipush, ↓vx_ldc, ↓vx_iload_n, ↓vx_iload, ↓vx_aload_n, ↓vx_aload, ↓vx_istore_n, ↓vx_istore, ↓vx_iinc, ↓vx_iadd, ↓vx_isub, ↓vx_imul, ↓vx_iand, ↓vx_ior, ↓vx_ixor, ↓vx_ishl, ↓vx_ishr, ↓vx_iushr, ↓vx_dup, ↓vx_dup2, ↓vx_goto, ↓vx_if_icmp, ↓vx_ifCond, ↓vx_getfield, ↓vx_putfield, ↓vx_iaload, ↓vx_iastore, ↓vx_baload, ↓vx_bastore, ↓vx_aaload, ↓vx_ireturn, ↓vx_return, ↓vx_invokevirtual, ↓vx_invokestatic, ↓vx_table, ↓vx_lookup, ↓vld_ok, ↓vldr_ok, ↓vst_ok, ↓vic_ok, ↓vgf_ok, ↓vgo_ok, ↓vpf_f, ↓vpf_t, ↓vpo_ok, ↓vkc_ok, ↓vbr_eq, ↓bz_01, bz_0, bz_1, is_app, mset_app, tnc_ok, wr_app, wr_ms, is59_app, vpn_ok, vpn_bz, Option.some.injEq, Sum.inl.injEq, getL, setL, Option.map_some, fvl_ok, mff_ok, jp, icm, inb_ok, ins_ok, zin_ok, rin_ok, vpi_ok, bip_ok, sip_ok, kcf_ok, vsw, vlk, Bool.false_eq_true, ↓reduceIte, true_and, and_true, and_self, Option.toList, List.cons_append, List.nil_append, Fin.isValue, forall_const, false_implies, implies_true, true_implies, reduceCtorEq, or_false, false_or, true_or, or_true, ne_eq, not_false_eq_true, not_true_eq_false, Classical.not_not, Bool.or_false, Bool.false_or, Bool.or_true, Bool.true_or, nat_int, Nat.reduceAdd, Nat.reduceBEq, Nat.reduceEqDiff, Int32.reduceLT, Int32.reduceLE, Int32.reduceAdd, Int32.reduceSub, Int.reduceAdd, Int.reduceToNat, Int.reduceLE, Int.reduceLT, Int.reduceNeg, Int.reduceSub, Int32.reduceOfInt, Nat.reduceMod, Fin.reduceFinMk, D_X8_read, rsf_8, ea, ep]
    refine X.callV1 S_8_130 (by decide +kernel) rcv_39 (by decide) (by decide) (Nat.le_of_ble_eq_true rfl) (k8_sv (plc m) _ b0 b1) ?_
    rw [readP_s]
    refine X.vc (fun q => q == 27 || q == 149) 60 ?_
    simp only [↓vc_zero, ↓vc_succ, ↓vn_app, ↓vd_ok, ↓vx_iconst, ↓vx_bipush, ↓vx_sipush, ↓vx_ldc, ↓vx_iload_n, ↓vx_iload, ↓vx_aload_n, ↓vx_aload, ↓vx_istore_n, ↓vx_istore, ↓vx_iinc, ↓vx_iadd, ↓vx_isub, ↓vx_imul, ↓vx_iand, ↓vx_ior, ↓vx_ixor, ↓vx_ishl, ↓vx_ishr, ↓vx_iushr, ↓vx_dup, ↓vx_dup2, ↓vx_goto, ↓vx_if_icmp, ↓vx_ifCond, ↓vx_getfield, ↓vx_putfield, ↓vx_iaload, ↓vx_iastore, ↓vx_baload, ↓vx_bastore, ↓vx_aaload, ↓vx_ireturn, ↓vx_return, ↓vx_invokevirtual, ↓vx_invokestatic, ↓vx_table, ↓vx_lookup, ↓vld_ok, ↓vldr_ok, ↓vst_ok, ↓vic_ok, ↓vgf_ok, ↓vgo_ok, ↓vpf_f, ↓vpf_t, ↓vpo_ok, ↓vkc_ok, ↓vbr_eq, ↓bz_01, bz_0, bz_1, is_app, mset_app, tnc_ok, wr_app, wr_ms, is59_app, vpn_ok, vpn_bz, Option.some.injEq, Sum.inl.injEq, getL, setL, Option.map_some, fvl_ok, mff_ok, jp, icm, inb_ok, ins_ok, zin_ok, rin_ok, vpi_ok, bip_ok, sip_ok, kcf_ok, vsw, vlk, Bool.false_eq_true, ↓reduceIte, true_and, and_true, and_self, Option.toList, List.cons_append, List.nil_append, Fin.isValue, forall_const, false_implies, implies_true, true_implies, reduceCtorEq, or_false, false_or, true_or, or_true, ne_eq, not_false_eq_true, not_true_eq_false, Classical.not_not, Bool.or_false, Bool.false_or, Bool.or_true, Bool.true_or, nat_int, Nat.reduceAdd, Nat.reduceBEq, Nat.reduceEqDiff, Int32.reduceLT, Int32.reduceLE, Int32.reduceAdd, Int32.reduceSub, Int.reduceAdd, Int.reduceToNat, Int.reduceLE, Int.reduceLT, Int.reduceNeg, Int.reduceSub, Int32.reduceOfInt, Nat.reduceMod, Fin.reduceFinMk, D_X8_read, rsf_8]
    by_cases hs : sv (plc m) (plc m 39 29) < 0
    · have hs' : ¬ 0 ≤ sv (plc m) (plc m 39 29) := by grind
      rw [if_pos hs]
      refine ⟨fun z => absurd z hs', fun _ => ⟨fun _ => ?_, fun z => absurd hs z⟩⟩
      refine X.vc (fun q => q == 149) 60 ?_
      simp only [↓vc_zero, ↓vc_succ, ↓vn_app, ↓vd_ok, ↓vx_iconst, ↓vx_bipush, ↓vx_sipush, ↓vx_ldc, ↓vx_iload_n, ↓vx_iload, ↓vx_aload_n, ↓vx_aload, ↓vx_istore_n, ↓vx_istore, ↓vx_iinc, ↓vx_iadd, ↓vx_isub, ↓vx_imul, ↓vx_iand, ↓vx_ior, ↓vx_ixor, ↓vx_ishl, ↓vx_ishr, ↓vx_iushr, ↓vx_dup, ↓vx_dup2, ↓vx_goto, ↓vx_if_icmp, ↓vx_ifCond, ↓vx_getfield, ↓vx_putfield, ↓vx_iaload, ↓vx_iastore, ↓vx_baload, ↓vx_bastore, ↓vx_aaload, ↓vx_ireturn, ↓vx_return, ↓vx_invokevirtual, ↓vx_invokestatic, ↓vx_table, ↓vx_lookup, ↓vld_ok, ↓vldr_ok, ↓vst_ok, ↓vic_ok, ↓vgf_ok, ↓vgo_ok, ↓vpf_f, ↓vpf_t, ↓vpo_ok, ↓vkc_ok, ↓vbr_eq, ↓bz_01, bz_0, bz_1, is_app, mset_app, tnc_ok, wr_app, wr_ms, is59_app, vpn_ok, vpn_bz, Option.some.injEq, Sum.inl.injEq, getL, setL, Option.map_some, fvl_ok, mff_ok, jp, icm, inb_ok, ins_ok, zin_ok, rin_ok, vpi_ok, bip_ok, sip_ok, kcf_ok, vsw, vlk, Bool.false_eq_true, ↓reduceIte, true_and, and_true, and_self, Option.toList, List.cons_append, List.nil_append, Fin.isValue, forall_const, false_implies, implies_true, true_implies, reduceCtorEq, or_false, false_or, true_or, or_true, ne_eq, not_false_eq_true, not_true_eq_false, Classical.not_not, Bool.or_false, Bool.false_or, Bool.or_true, Bool.true_or, nat_int, Nat.reduceAdd, Nat.reduceBEq, Nat.reduceEqDiff, Int32.reduceLT, Int32.reduceLE, Int32.reduceAdd, Int32.reduceSub, Int.reduceAdd, Int.reduceToNat, Int.reduceLE, Int.reduceLT, Int.reduceNeg, Int.reduceSub, Int32.reduceOfInt, Nat.reduceMod, Fin.reduceFinMk, D_X8_read, rsf_8, hs]
      exact fin_end w (plc m) A' T P O h' _ _
    · have hs' : 0 ≤ sv (plc m) (plc m 39 29) := by grind
      rw [if_neg hs]
      have hl := sv_pos h'.1 hs
      refine ⟨fun _ => ?_, fun z => absurd hs' z⟩
      cases w with
      | true =>
        rw [if_pos rfl]
        refine ⟨fun z => absurd rfl z, fun _ => ?_⟩
        refine X.callV1 S_8_164 (by decide +kernel) rcv_39 (by decide) (by decide) (Nat.le_of_ble_eq_true rfl) (k8_behind (plc m) _ A' T P O h'.1 hl h'.2.1 h'.2.2.1 h'.2.2.2) ?_
        refine X.vc (fun q => q == 27) 60 ?_
        simp only [↓vc_zero, ↓vc_succ, ↓vn_app, ↓vd_ok, ↓vx_iconst, ↓vx_bipush, ↓vx_sipush, ↓vx_ldc, ↓vx_iload_n, ↓vx_iload, ↓vx_aload_n, ↓vx_aload, ↓vx_istore_n, ↓vx_istore, ↓vx_iinc, ↓vx_iadd, ↓vx_isub, ↓vx_imul, ↓vx_iand, ↓vx_ior, ↓vx_ixor, ↓vx_ishl, ↓vx_ishr, ↓vx_iushr, ↓vx_dup, ↓vx_dup2, ↓vx_goto, ↓vx_if_icmp, ↓vx_ifCond, ↓vx_getfield, ↓vx_putfield, ↓vx_iaload, ↓vx_iastore, ↓vx_baload, ↓vx_bastore, ↓vx_aaload, ↓vx_ireturn, ↓vx_return, ↓vx_invokevirtual, ↓vx_invokestatic, ↓vx_table, ↓vx_lookup, ↓vld_ok, ↓vldr_ok, ↓vst_ok, ↓vic_ok, ↓vgf_ok, ↓vgo_ok, ↓vpf_f, ↓vpf_t, ↓vpo_ok, ↓vkc_ok, ↓vbr_eq, ↓bz_01, bz_0, bz_1, is_app, mset_app, tnc_ok, wr_app, wr_ms, is59_app, vpn_ok, vpn_bz, Option.some.injEq, Sum.inl.injEq, getL, setL, Option.map_some, fvl_ok, mff_ok, jp, icm, inb_ok, ins_ok, zin_ok, rin_ok, vpi_ok, bip_ok, sip_ok, kcf_ok, vsw, vlk, Bool.false_eq_true, ↓reduceIte, true_and, and_true, and_self, Option.toList, List.cons_append, List.nil_append, Fin.isValue, forall_const, false_implies, implies_true, true_implies, reduceCtorEq, or_false, false_or, true_or, or_true, ne_eq, not_false_eq_true, not_true_eq_false, Classical.not_not, Bool.or_false, Bool.false_or, Bool.or_true, Bool.true_or, nat_int, Nat.reduceAdd, Nat.reduceBEq, Nat.reduceEqDiff, Int32.reduceLT, Int32.reduceLE, Int32.reduceAdd, Int32.reduceSub, Int.reduceAdd, Int.reduceToNat, Int.reduceLE, Int.reduceLT, Int.reduceNeg, Int.reduceSub, Int32.reduceOfInt, Nat.reduceMod, Fin.reduceFinMk, D_X8_read, rsf_8, hs]
        by_cases hr : behR (plc m) (sv (plc m) (plc m 39 29)) = 0
        · rw [if_pos hr]
          obtain ⟨A2, P2, O2, g2, hA2⟩ := behF_RI h' hl hr
          have go := ih (decide (sv (plc m) (plc m 39 29) = 41)) _ A2 T P2 O2 (sv (plc m) (plc m 39 29)) (some (.inl (behR (plc m) (sv (plc m) (plc m 39 29))))) g2 (by have := g2.1.2.2.1; omega) hs'
          refine ⟨fun _ => ⟨fun h41 => ?_, fun h41 => ?_⟩, fun z => absurd hr z⟩
          · have e : bz (decide (sv (plc m) (plc m 39 29) = 41) = true) = 0 := by simp [bz, h41]
            rw [e] at go
            exact go
          · have e : bz (decide (sv (plc m) (plc m 39 29) = 41) = true) = 1 := by simp [bz, h41]
            rw [e] at go
            exact go
        · rw [if_neg hr]
          exact ⟨fun z => absurd z hr, fun _ => ⟨rfl, rfl⟩⟩
      | false =>
        rw [if_neg (by decide)]
        refine ⟨fun _ => ?_, fun z => absurd z (by decide)⟩
        refine X.callV1 S_8_167 (by decide +kernel) rcv_39 (by decide) (by decide) (Nat.le_of_ble_eq_true rfl) (k8_begin (plc m) _ A' T P O h'.1 hl h'.2.1 h'.2.2.1 h'.2.2.2) ?_
        refine X.vc (fun q => q == 27) 60 ?_
        simp only [↓vc_zero, ↓vc_succ, ↓vn_app, ↓vd_ok, ↓vx_iconst, ↓vx_bipush, ↓vx_sipush, ↓vx_ldc, ↓vx_iload_n, ↓vx_iload, ↓vx_aload_n, ↓vx_aload, ↓vx_istore_n, ↓vx_istore, ↓vx_iinc, ↓vx_iadd, ↓vx_isub, ↓vx_imul, ↓vx_iand, ↓vx_ior, ↓vx_ixor, ↓vx_ishl, ↓vx_ishr, ↓vx_iushr, ↓vx_dup, ↓vx_dup2, ↓vx_goto, ↓vx_if_icmp, ↓vx_ifCond, ↓vx_getfield, ↓vx_putfield, ↓vx_iaload, ↓vx_iastore, ↓vx_baload, ↓vx_bastore, ↓vx_aaload, ↓vx_ireturn, ↓vx_return, ↓vx_invokevirtual, ↓vx_invokestatic, ↓vx_table, ↓vx_lookup, ↓vld_ok, ↓vldr_ok, ↓vst_ok, ↓vic_ok, ↓vgf_ok, ↓vgo_ok, ↓vpf_f, ↓vpf_t, ↓vpo_ok, ↓vkc_ok, ↓vbr_eq, ↓bz_01, bz_0, bz_1, is_app, mset_app, tnc_ok, wr_app, wr_ms, is59_app, vpn_ok, vpn_bz, Option.some.injEq, Sum.inl.injEq, getL, setL, Option.map_some, fvl_ok, mff_ok, jp, icm, inb_ok, ins_ok, zin_ok, rin_ok, vpi_ok, bip_ok, sip_ok, kcf_ok, vsw, vlk, Bool.false_eq_true, ↓reduceIte, true_and, and_true, and_self, Option.toList, List.cons_append, List.nil_append, Fin.isValue, forall_const, false_implies, implies_true, true_implies, reduceCtorEq, or_false, false_or, true_or, or_true, ne_eq, not_false_eq_true, not_true_eq_false, Classical.not_not, Bool.or_false, Bool.false_or, Bool.or_true, Bool.true_or, nat_int, Nat.reduceAdd, Nat.reduceBEq, Nat.reduceEqDiff, Int32.reduceLT, Int32.reduceLE, Int32.reduceAdd, Int32.reduceSub, Int.reduceAdd, Int.reduceToNat, Int.reduceLE, Int.reduceLT, Int.reduceNeg, Int.reduceSub, Int32.reduceOfInt, Nat.reduceMod, Fin.reduceFinMk, D_X8_read, rsf_8, hs]
        by_cases hr : begR (plc m) (sv (plc m) (plc m 39 29)) = 0
        · rw [if_pos hr]
          obtain ⟨A2, P2, O2, g2, hA2⟩ := begF_RI h' hl hr
          have go := ih (decide (¬ sv (plc m) (plc m 39 29) = 33 ∧ ¬ sv (plc m) (plc m 39 29) = 40)) _ A2 T P2 O2 (sv (plc m) (plc m 39 29)) (some (.inl (begR (plc m) (sv (plc m) (plc m 39 29))))) g2 (by have := g2.1.2.2.1; omega) hs'
          refine ⟨fun _ => ⟨fun h33 => ?_, fun h33 => ⟨fun h40 => ?_, fun h40 => ?_⟩⟩, fun z => absurd hr z⟩
          · have e : bz (decide (¬ sv (plc m) (plc m 39 29) = 33 ∧ ¬ sv (plc m) (plc m 39 29) = 40) = true) = 0 := by simp [bz, h33]
            rw [e] at go
            exact go
          · have e : bz (decide (¬ sv (plc m) (plc m 39 29) = 33 ∧ ¬ sv (plc m) (plc m 39 29) = 40) = true) = 0 := by simp [bz, h40]
            rw [e] at go
            exact go
          · have e : bz (decide (¬ sv (plc m) (plc m 39 29) = 33 ∧ ¬ sv (plc m) (plc m 39 29) = 40) = true) = 1 := by simp [bz, h33, h40]
            rw [e] at go
            exact go
        · rw [if_neg hr]
          exact ⟨fun z => absurd z hr, fun _ => ⟨rfl, rfl⟩⟩
