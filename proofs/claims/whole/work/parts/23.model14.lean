/-! what the reader's parts leave, and where they stand -/
theorem gfo_k {m : Mem} {w a b : Int32} {r j : Nat} (h1 : r ≠ 55) (h2 : r ≠ 56) (h3 : r ≠ 57) (h4 : r ≠ 54) : gf_order m w a b r j = m r j := by
  unfold gf_order
  rw [ms_k h4, ms_k h3, ms_k h2, ms_k h1]
theorem gfo_n {m : Mem} {w a b : Int32} {n : Nat} (h : m 54 12 = nI n) : gf_order m w a b 54 12 = nI (n + 1) := by rw [gfo_12, h]; exact nI_1 n
theorem notsM_st : ∀ (f : Nat) (m : Mem) (n : Nat), m 39 32 = nI f → m 54 12 = nI n → ∃ g, g ≤ f ∧ notsM f m 39 32 = nI g ∧ notsM f m 54 12 = nI (n + (f - g))
  | 0, m, n, hf, hn => ⟨0, Nat.le_refl 0, hf, hn⟩
  | f + 1, m, n, hf, hn => by
    unfold notsM
    split
    · obtain ⟨g, h1, h2, h3⟩ := notsM_st f (gf_order (mset (mset m 39 32 (nI f)) 39 33 (m 39 33 - 1)) 4 0 0) (n + 1) (by rw [gfo_39, ms_j (by decide), ms_eq]) (gfo_n (by rw [ms_k (by decide), ms_k (by decide), hn]))
      refine ⟨g, by omega, h2, ?_⟩
      rw [h3]
      congr 1
      omega
    · exact ⟨f + 1, Nat.le_refl _, hf, by rw [hn]; congr 1; omega⟩
theorem notsM_k {a j : Nat} (h1 : a ≠ 55) (h2 : a ≠ 56) (h3 : a ≠ 57) (h4 : a ≠ 54) (h5 : a ≠ 39 ∨ (j ≠ 32 ∧ j ≠ 33)) : ∀ (f : Nat) (m : Mem), notsM f m a j = m a j
  | 0, _ => rfl
  | f + 1, m => by
    unfold notsM
    split
    · rw [notsM_k h1 h2 h3 h4 h5 f, gfo_k h1 h2 h3 h4]
      rcases h5 with h5 | h5
      · rw [ms_k h5, ms_k h5]
      · rw [ms_j h5.2, ms_j h5.1]
    · rfl
theorem workM_st {le : Int32} : ∀ (f : Nat) (m : Mem) (n : Nat), m 39 32 = nI f → m 54 12 = nI n → ∃ g, g ≤ f ∧ workM le f m 39 32 = nI g ∧ workM le f m 54 12 = nI (n + (f - g))
  | 0, m, n, hf, hn => ⟨0, Nat.le_refl 0, hf, hn⟩
  | f + 1, m, n, hf, hn => by
    unfold workM
    split
    · obtain ⟨g, h1, h2, h3⟩ := workM_st f (gf_order (mset m 39 32 (nI f)) (sgn (m 58 f)) 0 0) (n + 1) (by rw [gfo_39, ms_eq]) (gfo_n (by rw [ms_k (by decide), hn]))
      refine ⟨g, by omega, h2, ?_⟩
      rw [h3]
      congr 1
      omega
    · exact ⟨f + 1, Nat.le_refl _, hf, by rw [hn]; congr 1; omega⟩
theorem workM_k {le : Int32} {a j : Nat} (h1 : a ≠ 55) (h2 : a ≠ 56) (h3 : a ≠ 57) (h4 : a ≠ 54) (h5 : a ≠ 39 ∨ j ≠ 32) : ∀ (f : Nat) (m : Mem), workM le f m a j = m a j
  | 0, _ => rfl
  | f + 1, m => by
    unfold workM
    split
    · rw [workM_k h1 h2 h3 h4 h5 f, gfo_k h1 h2 h3 h4]
      rcases h5 with h5 | h5
      · rw [ms_k h5]
      · rw [ms_j h5]
    · rfl
theorem letF_k {m : Mem} {c : Int32} {a j : Nat} (h1 : a ≠ 55) (h2 : a ≠ 56) (h3 : a ≠ 57) (h4 : a ≠ 54) (h5 : a ≠ 39 ∨ j ≠ 29) : letF m c a j = m a j := by
  unfold letF
  split
  · rw [nM_k h5, adv_k h5]
  split
  · rw [gfo_k h1 h2 h3 h4, nM_k h5, adv_k h5]
  split
  · rw [nM_k h5, adv_k h5]
  split
  · rw [nM_k h5, adv_k h5, nM_k h5, adv_k h5]
  · rw [gfo_k h1 h2 h3 h4, nM_k h5, adv_k h5, nM_k h5, adv_k h5]
theorem letF_n {m : Mem} {c : Int32} {n : Nat} (hn : m 54 12 = nI n) : letF m c 54 12 = nI n ∨ letF m c 54 12 = nI (n + 1) := by
  have k1 : nM (adv m) 54 12 = nI n := by rw [nM_k (Or.inl (by decide)), adv_k (Or.inl (by decide)), hn]
  have k2 : nM (adv (nM (adv m))) 54 12 = nI n := by rw [nM_k (Or.inl (by decide)), adv_k (Or.inl (by decide)), k1]
  unfold letF
  split
  · exact Or.inl k1
  split
  · exact Or.inr (gfo_n k1)
  split
  · exact Or.inl k1
  split
  · exact Or.inl k2
  · exact Or.inr (gfo_n k2)
theorem letF_PA {m : Mem} {c : Int32} {A T : Nat} (hp : PA m A T) (hl : A < T) : ∃ A', PA (letF m c) A' T ∧ A < A' := by
  obtain ⟨A2, p2, h2⟩ := nM_PA (adv_PA hp hl)
  have keep : ∀ {m' : Mem} {w a b : Int32} {A'}, PA m' A' T → PA (gf_order m' w a b) A' T := fun h => ⟨by rw [gfo_39]; exact h.1, by rw [gfo_39]; exact h.2.1, h.2.2⟩
  unfold letF
  split
  · exact ⟨A2, p2, by omega⟩
  split
  · exact ⟨A2, keep p2, by omega⟩
  split
  · exact ⟨A2, p2, by omega⟩
  · rename_i hs
    have hs' : sv (nM (adv m)) (nM (adv m) 39 29) = 45 := Classical.not_not.mp hs
    obtain ⟨A4, p4, h4⟩ := nM_PA (adv_PA p2 (sv_lt p2 hs'))
    split
    · exact ⟨A4, p4, by omega⟩
    · exact ⟨A4, keep p4, by omega⟩
/-! begin -/
def pl (m : Mem) : Nat := (m 39 32).toNatClampNeg
abbrev isL (c : Int32) : Prop := c = 119 ∨ c = 112 ∨ c = 107 ∨ c = 100
def begR (m : Mem) (c : Int32) : Int32 := if c = 33 ∨ c = 40 then (if m 39 33 = 12 then 3 else 0) else if isL c then letR m c else 1
def pushM (m : Mem) (c : Int32) : Mem := mset (mset m 58 (pl m) c) 39 32 (m 39 32 + 1)
def begF (m : Mem) (c : Int32) : Mem := if c = 33 ∨ c = 40 then (if m 39 33 = 12 then m else adv (pushM (mset m 39 33 (m 39 33 + 1)) c)) else if isL c then (if letR m c = 0 then notsM (pl m) (letF m c) else letF m c) else m
set_option maxRecDepth 100000 in
set_option maxHeartbeats 1000000 in
theorem k8_begin (μ : Mem) (c : Int32) (A T P O : Nat) (hp : PA μ A T) (hl : A < T) (hP : μ 39 32 = nI P) (hO : μ 54 12 = nI O) (hPO : P + O ≤ A) : Ct yX8_begin 3 cX8_begin (some .int) 4 [.inr 39, .inl (c)] μ (Is (some (.inl (begR μ c))) (begF μ c)) := by
  refine Ct.of (oc := 8) [some (.inr 39), some (.inl (c)), none] (by decide +kernel) rfl (Nat.le_of_ble_eq_true rfl) rfl ?_
  have hT := hp.2.2.2
  have hpl : pl μ = P := by rw [pl, hP]; exact nI_clamp (by omega)
  have p0 : 0 ≤ nI P := nI_pos' (by omega)
  have p1 : nI P < 64 := nI_lt (b := 64) (by omega) (by decide)
  have p2 : (nI P).toNatClampNeg = P := nI_clamp (by omega)
  have l0 : 0 ≤ μ 54 12 := by rw [hO]; exact nI_pos' (by omega)
  have l1 : μ 54 12 ≤ 63 := by rw [hO]; exact nI_le (b := 63) (by omega) (by decide)
  have opn : (c = 33 ∨ c = 40) → ((¬ μ 39 33 = 12 → 0 = begR μ c ∧ mset (mset (mset (mset μ 39 33 (μ 39 33 + 1)) 58 P c) 39 32 (nI P + 1)) 39 29 (μ 39 29 + 1) = begF μ c) ∧ (μ 39 33 = 12 → 3 = begR μ c ∧ μ = begF μ c)) := fun hc => by
    refine ⟨fun h => ⟨?_, ?_⟩, fun h => ⟨?_, ?_⟩⟩
    · rw [begR, if_pos hc, if_neg h]
    · rw [begF, if_pos hc, if_neg h]
      simp [adv, pushM, pl, mset_app, hP, p2]
    · rw [begR, if_pos hc, if_pos h]
    · rw [begF, if_pos hc, if_pos h]
  have lett : isL c → ¬ (c = 33 ∨ c = 40) → X 8 3 cX8_begin (some .int) 4 μ 93 [some (.inr 39), some (.inl c), none] [.inl c, .inr 39] (Is (some (.inl (begR μ c))) (begF μ c)) := fun h1 h2 => by
    have e1 : begR μ c = letR μ c := (if_neg h2).trans (if_pos h1)
    have e2 : begF μ c = if letR μ c = 0 then notsM P (letF μ c) else letF μ c := by rw [begF, if_neg h2, if_pos h1, hpl]
    rw [e1, e2]
    refine X.callV1 S_8_152 (by decide +kernel) rcv_39 (by decide) (by decide) (Nat.le_of_ble_eq_true rfl) (k8_letter μ c A T hp hl l0 l1) ?_
    refine X.vc (fun _ => false) 60 ?_
    simp only [↓vc_zero, ↓vc_succ, ↓vn_app, ↓vd_ok, ↓vx_iconst, ↓vx_bipush, ↓vx_sipush, ↓vx_ldc, ↓vx_iload_n, ↓vx_iload, ↓vx_aload_n, ↓vx_aload, ↓vx_istore_n, ↓vx_istore, ↓vx_iinc, ↓vx_iadd, ↓vx_isub, ↓vx_imul, ↓vx_iand, ↓vx_ior, ↓vx_ixor, ↓vx_ishl, ↓vx_ishr, ↓vx_iushr, ↓vx_dup, ↓vx_dup2, ↓vx_goto, ↓vx_if_icmp, ↓vx_ifCond, ↓vx_getfield, ↓vx_putfield, ↓vx_iaload, ↓vx_iastore, ↓vx_baload, ↓vx_bastore, ↓vx_aaload, ↓vx_ireturn, ↓vx_return, ↓vx_invokevirtual, ↓vx_invokestatic, ↓vx_table, ↓vx_lookup, ↓vld_ok, ↓vldr_ok, ↓vst_ok, ↓vic_ok, ↓vgf_ok, ↓vgo_ok, ↓vpf_f, ↓vpf_t, ↓vpo_ok, ↓vkc_ok, ↓vbr_eq, ↓bz_01, bz_0, bz_1, is_app, mset_app, tnc_ok, wr_app, wr_ms, is59_app, vpn_ok, vpn_bz, Option.some.injEq, Sum.inl.injEq, getL, setL, Option.map_some, fvl_ok, mff_ok, jp, icm, inb_ok, ins_ok, zin_ok, rin_ok, vpi_ok, bip_ok, sip_ok, kcf_ok, vsw, vlk, Bool.false_eq_true, ↓reduceIte, true_and, and_true, and_self, Option.toList, List.cons_append, List.nil_append, Fin.isValue, forall_const, false_implies, implies_true, true_implies, reduceCtorEq, or_false, false_or, true_or, or_true, ne_eq, not_false_eq_true, not_true_eq_false, Classical.not_not, Bool.or_false, Bool.false_or, Bool.or_true, Bool.true_or, nat_int, Nat.reduceAdd, Nat.reduceBEq, Nat.reduceEqDiff, Int32.reduceLT, Int32.reduceLE, Int32.reduceAdd, Int32.reduceSub, Int.reduceAdd, Int.reduceToNat, Int.reduceLE, Int.reduceLT, Int.reduceNeg, Int.reduceSub, Int32.reduceOfInt, Nat.reduceMod, Fin.reduceFinMk, D_X8_begin, rsf_8]
    by_cases h3 : letR μ c = 0
    · rw [if_pos h3]
      refine ⟨fun _ => ?_, fun z => absurd h3 z⟩
      have hb : 0 ≤ (letF μ c 54 12).toInt ∧ (letF μ c 54 12).toInt + P ≤ 62 := by
        rcases letF_n (c := c) hO with h9 | h9
        · rw [h9, nI_toInt (by omega)]
          omega
        · rw [h9, nI_toInt (by omega)]
          omega
      refine X.callV0 S_8_155 (by decide +kernel) rcv_39 (by decide) (by decide) (Nat.le_of_ble_eq_true rfl) (k8_nots P (letF μ c) (by rw [letF_k (by decide) (by decide) (by decide) (by decide) (Or.inr (by decide))]; exact hP) hb.1 hb.2) ?_
      refine X.vc (fun _ => false) 60 ?_
      simp only [↓vc_zero, ↓vc_succ, ↓vn_app, ↓vd_ok, ↓vx_iconst, ↓vx_bipush, ↓vx_sipush, ↓vx_ldc, ↓vx_iload_n, ↓vx_iload, ↓vx_aload_n, ↓vx_aload, ↓vx_istore_n, ↓vx_istore, ↓vx_iinc, ↓vx_iadd, ↓vx_isub, ↓vx_imul, ↓vx_iand, ↓vx_ior, ↓vx_ixor, ↓vx_ishl, ↓vx_ishr, ↓vx_iushr, ↓vx_dup, ↓vx_dup2, ↓vx_goto, ↓vx_if_icmp, ↓vx_ifCond, ↓vx_getfield, ↓vx_putfield, ↓vx_iaload, ↓vx_iastore, ↓vx_baload, ↓vx_bastore, ↓vx_aaload, ↓vx_ireturn, ↓vx_return, ↓vx_invokevirtual, ↓vx_invokestatic, ↓vx_table, ↓vx_lookup, ↓vld_ok, ↓vldr_ok, ↓vst_ok, ↓vic_ok, ↓vgf_ok, ↓vgo_ok, ↓vpf_f, ↓vpf_t, ↓vpo_ok, ↓vkc_ok, ↓vbr_eq, ↓bz_01, bz_0, bz_1, is_app, mset_app, tnc_ok, wr_app, wr_ms, is59_app, vpn_ok, vpn_bz, Option.some.injEq, Sum.inl.injEq, getL, setL, Option.map_some, fvl_ok, mff_ok, jp, icm, inb_ok, ins_ok, zin_ok, rin_ok, vpi_ok, bip_ok, sip_ok, kcf_ok, vsw, vlk, Bool.false_eq_true, ↓reduceIte, true_and, and_true, and_self, Option.toList, List.cons_append, List.nil_append, Fin.isValue, forall_const, false_implies, implies_true, true_implies, reduceCtorEq, or_false, false_or, true_or, or_true, ne_eq, not_false_eq_true, not_true_eq_false, Classical.not_not, Bool.or_false, Bool.false_or, Bool.or_true, Bool.true_or, nat_int, Nat.reduceAdd, Nat.reduceBEq, Nat.reduceEqDiff, Int32.reduceLT, Int32.reduceLE, Int32.reduceAdd, Int32.reduceSub, Int.reduceAdd, Int.reduceToNat, Int.reduceLE, Int.reduceLT, Int.reduceNeg, Int.reduceSub, Int32.reduceOfInt, Nat.reduceMod, Fin.reduceFinMk, D_X8_begin, rsf_8]
      rw [h3]
    · rw [if_neg h3]
      exact ⟨fun z => absurd z h3, fun _ => rfl⟩
  refine X.vc (fun _ => false) 60 ?_
  simp only [↓vc_zero, ↓vc_succ, ↓vn_app, ↓vd_ok, ↓vx_iconst, ↓vx_bipush, ↓vx_sipush, ↓vx_ldc, ↓vx_iload_n, ↓vx_iload, ↓vx_aload_n, ↓vx_aload, ↓vx_istore_n, ↓vx_istore, ↓vx_iinc, ↓vx_iadd, ↓vx_isub, ↓vx_imul, ↓vx_iand, ↓vx_ior, ↓vx_ixor, ↓vx_ishl, ↓vx_ishr, ↓vx_iushr, ↓vx_dup, ↓vx_dup2, ↓vx_goto, ↓vx_if_icmp, ↓vx_ifCond, ↓vx_getfield, ↓vx_putfield, ↓vx_iaload, ↓vx_iastore, ↓vx_baload, ↓vx_bastore, ↓vx_aaload, ↓vx_ireturn, ↓vx_return, ↓vx_invokevirtual, ↓vx_invokestatic, ↓vx_table, ↓vx_lookup, ↓vld_ok, ↓vldr_ok, ↓vst_ok, ↓vic_ok, ↓vgf_ok, ↓vgo_ok, ↓vpf_f, ↓vpf_t, ↓vpo_ok, ↓vkc_ok, ↓vbr_eq, ↓bz_01, bz_0, bz_1, is_app, mset_app, tnc_ok, wr_app, wr_ms, is59_app, vpn_ok, vpn_bz, Option.some.injEq, Sum.inl.injEq, getL, setL, Option.map_some, fvl_ok, mff_ok, jp, icm, inb_ok, ins_ok, zin_ok, rin_ok, vpi_ok, bip_ok, sip_ok, kcf_ok, vsw, vlk, Bool.false_eq_true, ↓reduceIte, true_and, and_true, and_self, Option.toList, List.cons_append, List.nil_append, Fin.isValue, forall_const, false_implies, implies_true, true_implies, reduceCtorEq, or_false, false_or, true_or, or_true, ne_eq, not_false_eq_true, not_true_eq_false, Classical.not_not, Bool.or_false, Bool.false_or, Bool.or_true, Bool.true_or, nat_int, Nat.reduceAdd, Nat.reduceBEq, Nat.reduceEqDiff, Int32.reduceLT, Int32.reduceLE, Int32.reduceAdd, Int32.reduceSub, Int.reduceAdd, Int.reduceToNat, Int.reduceLE, Int.reduceLT, Int.reduceNeg, Int.reduceSub, Int32.reduceOfInt, Nat.reduceMod, Fin.reduceFinMk, D_X8_begin, rsf_8, hP, p0, p1, p2]
  refine ⟨fun z => opn (Or.inl z), fun n1 => ⟨fun n2 => ?_, fun z => opn (Or.inr z)⟩⟩
  have n3 : ¬ (c = 33 ∨ c = 40) := fun z => z.elim n1 n2
  refine ⟨fun z => lett (Or.inl z) n3, fun m1 => ⟨fun z => lett (Or.inr (Or.inl z)) n3, fun m2 => ⟨fun z => lett (Or.inr (Or.inr (Or.inl z))) n3, fun m3 => ⟨fun z => lett (Or.inr (Or.inr (Or.inr z))) n3, fun m4 => ?_⟩⟩⟩⟩
  have n4 : ¬ isL c := fun z => by
    rcases z with z | z | z | z
    · exact m1 z
    · exact m2 z
    · exact m3 z
    · exact m4 z
  exact ⟨((if_neg n3).trans (if_neg n4)).symm, ((if_neg n3).trans (if_neg n4)).symm⟩
