/-! calls that change one thing -/
theorem inc_cl {x : Int32} {n M : Nat} (h : x = nI n) (hn : n ≤ M) (hM : M < 2 ^ 30) : (x + 1).toNatClampNeg = n + 1 := by
  rw [h, nI_1]
  exact nI_clamp (by omega)
theorem cl_ne {x y : Int32} {n : Nat} (hy : y = nI n) (hn : n ≤ 1000) (h0 : 0 ≤ x) (h1 : x < y) : x.toNatClampNeg < n := by
  obtain ⟨j, hj, he⟩ := nIx (x := x) (M := nI 1000) (n := 1000) (nI_toInt (by decide)) h0 (by
    have : nI n ≤ nI 1000 := nI_le hn (by decide)
    rw [hy] at h1
    grind)
  rw [he, nI_clamp (by omega)]
  rw [he, hy] at h1
  exact (nI_ltI (by omega) (by omega)).mp h1
theorem s_thing {μ ν : Mem} (h : RLL μ ν) (kd ow : Int32) : cf_thing μ kd ow = rf_thing ν kd ow ∧ RLL (cg_thing μ kd ow) (gf_thing ν kd ow) := by
  obtain ⟨h1, h2, h3, h4, h5, h6, h7, h8, h9, h10, h11, h12, h13, h14⟩ := id h
  obtain ⟨a1, a2, a3, a4, a5, a6, a7, a8, a9, a10, a11⟩ := id h1
  obtain ⟨b1, b2, b3, b4, b5, b6, b7, b8, b9, b10, b11⟩ := id h2
  obtain ⟨nt, nv, nr, nb, nh, et, ev, er, eb, eh⟩ := IA_12 h9
  have e : oc_thing μ kd ow ↔ ok_thing ν kd ow := by unfold oc_thing ok_thing; rw [a6]
  by_cases ok : ok_thing ν kd ow
  · have hn : (μ 1 3).toNatClampNeg = nT ν := by rw [a6]; rfl
    have hn2 : (ν 39 1).toNatClampNeg = nT ν := rfl
    rw [cf_thing, rf_thing, cg_thing, gf_thing, if_pos (e.mpr ok), if_pos ok, if_pos (e.mpr ok), if_pos ok, cg_tadd, hn, hn2]
    have lt : nT ν < 40 := by
      rcases Nat.lt_or_ge (nT ν) 40 with q | q
      · exact q
      · exact absurd (by rw [et, show nT ν = 40 by omega]; rfl) ok.2.2
    refine ⟨a6, ?_, ?_, ?_, ?_, ?_, ?_, ?_, ?_, ?_, ?_, ?_, ?_, ?_, ?_⟩
    · simp only [RA, ms_eq, ms_j, mset_row, mset_ne, ne_eq, Nat.reduceEqDiff, not_false_eq_true, a1, a2, a3, a4, a5, a6, a7, a8, a9, a10, a11, and_self]
    · simp only [RB, ms_eq, ms_j, mset_row, mset_ne, ne_eq, Nat.reduceEqDiff, not_false_eq_true, b1, b2, b3, b4, b5, b6, b7, b8, b9, b10, b11, and_self]
    · exact RC_c h3 (by simp only [ms_eq, ms_j, mset_ne, ne_eq, Nat.reduceEqDiff, not_false_eq_true]) (by simp only [ms_eq, ms_j, mset_ne, ne_eq, Nat.reduceEqDiff, not_false_eq_true]) (by simp only [ms_eq, ms_j, mset_ne, ne_eq, Nat.reduceEqDiff, not_false_eq_true]) (by simp only [ms_eq, ms_j, mset_ne, ne_eq, Nat.reduceEqDiff, not_false_eq_true])
    · refine RD_c h4 h5 (by simp only [ms_eq, ms_j, mset_ne, ne_eq, Nat.reduceEqDiff, not_false_eq_true]) (by simp only [ms_eq, ms_j, mset_ne, ne_eq, Nat.reduceEqDiff, not_false_eq_true]) (by simp only [ms_eq, ms_j, mset_ne, ne_eq, Nat.reduceEqDiff, not_false_eq_true]) (fun V hV => ?_) (by simp only [ms_eq, ms_j, mset_ne, ne_eq, Nat.reduceEqDiff, not_false_eq_true]) (by simp only [ms_eq, ms_j, mset_ne, ne_eq, Nat.reduceEqDiff, not_false_eq_true]) (by simp only [ms_eq, ms_j, mset_ne, ne_eq, Nat.reduceEqDiff, not_false_eq_true]) (by simp only [ms_eq, ms_j, mset_ne, ne_eq, Nat.reduceEqDiff, not_false_eq_true])
      have hne : (ν 43 V).toNatClampNeg ≠ nT ν := by
        have := cl_ne et (by omega) (h11 V hV).1.1 (h11 V hV).1.2
        omega
      refine ⟨(by simp only [ms_eq, ms_j, mset_ne, ne_eq, Nat.reduceEqDiff, not_false_eq_true]), (by simp only [ms_eq, ms_j, mset_ne, ne_eq, Nat.reduceEqDiff, not_false_eq_true]), (by simp only [ms_eq, ms_j, mset_ne, ne_eq, Nat.reduceEqDiff, not_false_eq_true]), ?_, ?_⟩
      · rw [ms_k (by decide), ms_j hne, ms_k (by decide), ms_k (by decide)]
      · rw [ms_k (by decide), ms_k (by decide), ms_k (by decide), ms_j hne]
    · exact RT_c h5 (by simp only [ms_eq, ms_j, mset_ne, ne_eq, Nat.reduceEqDiff, not_false_eq_true]) (fun H hH => by rw [mset_ne _ (by omega), mset_ne _ (by omega), mset_ne _ (by omega), mset_ne _ (by omega)]) (fun H hH => (by simp only [ms_eq, ms_j, mset_ne, ne_eq, Nat.reduceEqDiff, not_false_eq_true])) nh (by simp only [ms_eq, ms_j, mset_ne, ne_eq, Nat.reduceEqDiff, not_false_eq_true]) (by simp only [ms_eq, ms_j, mset_ne, ne_eq, Nat.reduceEqDiff, not_false_eq_true]) (by simp only [ms_eq, ms_j, mset_ne, ne_eq, Nat.reduceEqDiff, not_false_eq_true]) (by simp only [ms_eq, ms_j, mset_ne, ne_eq, Nat.reduceEqDiff, not_false_eq_true])
    · exact RF_c h6 (by simp only [ms_eq, ms_j, mset_ne, ne_eq, Nat.reduceEqDiff, not_false_eq_true]) (by simp only [ms_eq, ms_j, mset_ne, ne_eq, Nat.reduceEqDiff, not_false_eq_true]) (by simp only [ms_eq, ms_j, mset_ne, ne_eq, Nat.reduceEqDiff, not_false_eq_true])
    · exact RG_c h7 (by simp only [ms_eq, ms_j, mset_ne, ne_eq, Nat.reduceEqDiff, not_false_eq_true]) (by simp only [ms_eq, ms_j, mset_ne, ne_eq, Nat.reduceEqDiff, not_false_eq_true]) (by simp only [ms_eq, ms_j, mset_ne, ne_eq, Nat.reduceEqDiff, not_false_eq_true]) (by simp only [ms_eq, ms_j, mset_ne, ne_eq, Nat.reduceEqDiff, not_false_eq_true]) (by simp only [ms_eq, ms_j, mset_ne, ne_eq, Nat.reduceEqDiff, not_false_eq_true])
    · exact RH_c h8 (by simp only [ms_eq, ms_j, mset_ne, ne_eq, Nat.reduceEqDiff, not_false_eq_true]) (by simp only [ms_eq, ms_j, mset_ne, ne_eq, Nat.reduceEqDiff, not_false_eq_true]) (by simp only [ms_eq, ms_j, mset_ne, ne_eq, Nat.reduceEqDiff, not_false_eq_true])
    · unfold IA at h9 ⊢
      simp only [ms_eq, ms_j, mset_row, mset_ne, ne_eq, Nat.reduceEqDiff, not_false_eq_true]
      have := ok.2.2
      grind
    · intro i hi
      have e1 : nT (mset (mset (mset (mset ν 40 (nT ν) kd) 41 (nT ν) ow) 42 (nT ν) (1 <<< (ow &&& 31))) 39 1 (ν 39 1 + 1)) = nT ν + 1 := by
        rw [nT, ms_eq]
        exact inc_cl et nt (by decide)
      rw [e1] at hi
      rw [ms_k (by decide), ms_k (by decide), ms_k (by decide)]
      by_cases q : i = nT ν
      · rw [q, ms_eq]
        have := ok.1
        grind
      · rw [ms_j q]
        exact h10 i (by omega)
    · intro v hv
      have e1 : nV (mset (mset (mset (mset ν 40 (nT ν) kd) 41 (nT ν) ow) 42 (nT ν) (1 <<< (ow &&& 31))) 39 1 (ν 39 1 + 1)) = nV ν := by
        rw [nV, ms_j (by decide)]
        simp only [ms_eq, ms_j, mset_row, mset_ne, ne_eq, Nat.reduceEqDiff, not_false_eq_true]
        rfl
      rw [e1] at hv
      have q := h11 v hv
      simp only [ms_eq, ms_j, mset_row, mset_ne, ne_eq, Nat.reduceEqDiff, not_false_eq_true]
      have := h9.1
      grind
    · exact ID_c h12 (by simp only [ms_eq, ms_j, mset_ne, ne_eq, Nat.reduceEqDiff, not_false_eq_true]) (by simp only [ms_eq, ms_j, mset_ne, ne_eq, Nat.reduceEqDiff, not_false_eq_true])
    · exact IE_c h13 (by simp only [ms_eq, ms_j, mset_ne, ne_eq, Nat.reduceEqDiff, not_false_eq_true]) (by simp only [ms_eq, ms_j, mset_ne, ne_eq, Nat.reduceEqDiff, not_false_eq_true]) (by simp only [ms_eq, ms_j, mset_ne, ne_eq, Nat.reduceEqDiff, not_false_eq_true])
    · exact IG_c h14 (by simp only [ms_eq, ms_j, mset_ne, ne_eq, Nat.reduceEqDiff, not_false_eq_true])
  · rw [cf_thing, rf_thing, cg_thing, gf_thing, if_neg (fun z => ok (e.mp z)), if_neg ok, if_neg (fun z => ok (e.mp z)), if_neg ok]
    exact ⟨rfl, h⟩
/-- the copies of one version change -/
theorem RLL_cp {μ ν : Mem} (h : RLL μ ν) (V : Nat) (x : Int32) (hx : V < nV ν → 0 ≤ x ∧ x < 64) : RLL (mset μ 9 V x) (mset ν 46 V x) := by
  obtain ⟨h1, h2, h3, h4, h5, h6, h7, h8, h9, h10, h11, h12, h13, h14⟩ := id h
  obtain ⟨b1, b2, b3, b4, b5, b6, b7, b8, b9, b10, b11⟩ := id h2
  obtain ⟨nt, nv, nr, nb, nh, et, ev, er, eb, eh⟩ := IA_12 h9
  refine ⟨?_, ?_, ?_, ?_, ?_, ?_, ?_, ?_, ?_, ?_, ?_, ?_, ?_, ?_⟩
  · unfold RA at h1 ⊢
    simp only [ms_eq, ms_j, mset_row, mset_ne, ne_eq, Nat.reduceEqDiff, not_false_eq_true]
    exact h1
  · simp only [RB, ms_eq, ms_j, mset_row, mset_ne, ne_eq, Nat.reduceEqDiff, not_false_eq_true, b1, b2, b3, b4, b5, b6, b7, b8, b9, b10, b11, and_self]
  · exact RC_c h3 (by simp only [ms_eq, ms_j, mset_ne, ne_eq, Nat.reduceEqDiff, not_false_eq_true]) (by simp only [ms_eq, ms_j, mset_ne, ne_eq, Nat.reduceEqDiff, not_false_eq_true]) (by simp only [ms_eq, ms_j, mset_ne, ne_eq, Nat.reduceEqDiff, not_false_eq_true]) (by simp only [ms_eq, ms_j, mset_ne, ne_eq, Nat.reduceEqDiff, not_false_eq_true])
  · exact RD_c h4 h5 (by simp only [ms_eq, ms_j, mset_ne, ne_eq, Nat.reduceEqDiff, not_false_eq_true]) (by simp only [ms_eq, ms_j, mset_ne, ne_eq, Nat.reduceEqDiff, not_false_eq_true]) (by simp only [ms_eq, ms_j, mset_ne, ne_eq, Nat.reduceEqDiff, not_false_eq_true]) (fun V hV => ⟨(by simp only [ms_eq, ms_j, mset_ne, ne_eq, Nat.reduceEqDiff, not_false_eq_true]), (by simp only [ms_eq, ms_j, mset_ne, ne_eq, Nat.reduceEqDiff, not_false_eq_true]), (by simp only [ms_eq, ms_j, mset_ne, ne_eq, Nat.reduceEqDiff, not_false_eq_true]), (by simp only [ms_eq, ms_j, mset_ne, ne_eq, Nat.reduceEqDiff, not_false_eq_true]), (by simp only [ms_eq, ms_j, mset_ne, ne_eq, Nat.reduceEqDiff, not_false_eq_true])⟩) (by simp only [ms_eq, ms_j, mset_ne, ne_eq, Nat.reduceEqDiff, not_false_eq_true]) (by simp only [ms_eq, ms_j, mset_ne, ne_eq, Nat.reduceEqDiff, not_false_eq_true]) (by simp only [ms_eq, ms_j, mset_ne, ne_eq, Nat.reduceEqDiff, not_false_eq_true]) (by simp only [ms_eq, ms_j, mset_ne, ne_eq, Nat.reduceEqDiff, not_false_eq_true])
  · exact RT_c h5 (by simp only [ms_eq, ms_j, mset_ne, ne_eq, Nat.reduceEqDiff, not_false_eq_true]) (fun H hH => by rw [mset_ne _ (by omega)]) (fun H hH => (by simp only [ms_eq, ms_j, mset_ne, ne_eq, Nat.reduceEqDiff, not_false_eq_true])) nh (by simp only [ms_eq, ms_j, mset_ne, ne_eq, Nat.reduceEqDiff, not_false_eq_true]) (by simp only [ms_eq, ms_j, mset_ne, ne_eq, Nat.reduceEqDiff, not_false_eq_true]) (by simp only [ms_eq, ms_j, mset_ne, ne_eq, Nat.reduceEqDiff, not_false_eq_true]) (by simp only [ms_eq, ms_j, mset_ne, ne_eq, Nat.reduceEqDiff, not_false_eq_true])
  · exact RF_c h6 (by simp only [ms_eq, ms_j, mset_ne, ne_eq, Nat.reduceEqDiff, not_false_eq_true]) (by simp only [ms_eq, ms_j, mset_ne, ne_eq, Nat.reduceEqDiff, not_false_eq_true]) (by simp only [ms_eq, ms_j, mset_ne, ne_eq, Nat.reduceEqDiff, not_false_eq_true])
  · exact RG_c h7 (by simp only [ms_eq, ms_j, mset_ne, ne_eq, Nat.reduceEqDiff, not_false_eq_true]) (by simp only [ms_eq, ms_j, mset_ne, ne_eq, Nat.reduceEqDiff, not_false_eq_true]) (by simp only [ms_eq, ms_j, mset_ne, ne_eq, Nat.reduceEqDiff, not_false_eq_true]) (by simp only [ms_eq, ms_j, mset_ne, ne_eq, Nat.reduceEqDiff, not_false_eq_true]) (by simp only [ms_eq, ms_j, mset_ne, ne_eq, Nat.reduceEqDiff, not_false_eq_true])
  · exact RH_c h8 (by simp only [ms_eq, ms_j, mset_ne, ne_eq, Nat.reduceEqDiff, not_false_eq_true]) (by simp only [ms_eq, ms_j, mset_ne, ne_eq, Nat.reduceEqDiff, not_false_eq_true]) (by simp only [ms_eq, ms_j, mset_ne, ne_eq, Nat.reduceEqDiff, not_false_eq_true])
  · unfold IA at h9 ⊢
    simp only [ms_eq, ms_j, mset_row, mset_ne, ne_eq, Nat.reduceEqDiff, not_false_eq_true]
    exact h9
  · exact IB_c h10 (by simp only [ms_eq, ms_j, mset_ne, ne_eq, Nat.reduceEqDiff, not_false_eq_true]) (by simp only [ms_eq, ms_j, mset_ne, ne_eq, Nat.reduceEqDiff, not_false_eq_true])
  · intro v hv
    have e1 : nV (mset ν 46 V x) = nV ν := by rw [nV, ms_k (by decide)]; rfl
    rw [e1] at hv
    obtain ⟨q1, q2, q3⟩ := h11 v hv
    rw [ms_k (by decide), ms_k (by decide), ms_k (by decide), ms_k (by decide)]
    refine ⟨q1, q2, ?_⟩
    by_cases q : v = V
    · rw [q, ms_eq]
      exact hx (by rw [← q]; exact hv)
    · rw [ms_j q]
      exact q3
  · exact ID_c h12 (by simp only [ms_eq, ms_j, mset_ne, ne_eq, Nat.reduceEqDiff, not_false_eq_true]) (by simp only [ms_eq, ms_j, mset_ne, ne_eq, Nat.reduceEqDiff, not_false_eq_true])
  · exact IE_c h13 (by simp only [ms_eq, ms_j, mset_ne, ne_eq, Nat.reduceEqDiff, not_false_eq_true]) (by simp only [ms_eq, ms_j, mset_ne, ne_eq, Nat.reduceEqDiff, not_false_eq_true]) (by simp only [ms_eq, ms_j, mset_ne, ne_eq, Nat.reduceEqDiff, not_false_eq_true])
  · exact IG_c h14 (by simp only [ms_eq, ms_j, mset_ne, ne_eq, Nat.reduceEqDiff, not_false_eq_true])
/-- sets of six stores -/
theorem b_lt {x : Int32} {k : Nat} (hk : k ≤ 30) (h : ∀ i, k ≤ i → i < 32 → bt x i = false) : 0 ≤ x ∧ x < nI (2 ^ k) := by
  have h2 : (2 : Nat) ^ k < 2 ^ 31 := Nat.pow_lt_pow_right (by decide) (by omega)
  have hn : x.toBitVec.toNat < 2 ^ k := by
    apply Nat.lt_pow_two_of_testBit
    intro i hi
    rcases Nat.lt_or_ge i 32 with q | q
    · exact h i hi q
    · exact BitVec.getLsbD_of_ge _ _ q
  have e : x = nI x.toBitVec.toNat := by
    apply Int32.toBitVec_inj.1
    show x.toBitVec = BitVec.ofNat 32 x.toBitVec.toNat
    simp
  rw [e]
  exact ⟨nI_pos' (by omega), nI_lt (by omega) h2⟩
theorem lt_b {x : Int32} {k : Nat} (hk : k ≤ 30) (h0 : 0 ≤ x) (h1 : x < nI (2 ^ k)) : ∀ i, k ≤ i → bt x i = false := by
  intro i hi
  have h2 : (2 : Nat) ^ k < 2 ^ 31 := Nat.pow_lt_pow_right (by decide) (by omega)
  obtain ⟨j, hj, he⟩ := nIx (x := x) (M := nI (2 ^ k)) (n := 2 ^ k) (nI_toInt h2) h0 (by grind)
  rw [he] at h1
  have h3 := (nI_ltI (a := j) (b := 2 ^ k) (by omega) (by omega)).mp h1
  have e : bt x i = x.toBitVec.toNat.testBit i := rfl
  rw [e, he, pk_tn (by omega)]
  exact Nat.testBit_lt_two_pow (Nat.lt_of_lt_of_le h3 (Nat.pow_le_pow_right (by decide) hi))
theorem s_ix {s : Int32} (h : 0 ≤ s ∧ s ≤ 5) : ∃ j, j ≤ 5 ∧ s = nI j := nIx (M := 5) (n := 5) rfl h.1 h.2
theorem bt_sh {j : Nat} (hj : j < 32) {i : Nat} (hi : i < 32) : bt ((1 : Int32) <<< (nI j &&& 31)) i = decide (i = j) := by
  rw [b_shl j hj 1 hi, b_1]
  by_cases e : i = j
  · subst e
    simp
  · rcases Nat.lt_or_ge i j with q | q
    · simp [e, Nat.not_le.mpr q]
    · have : ¬ i - j = 0 := by omega
      simp [e, q, this]
theorem or_six {x s : Int32} (hx : 0 ≤ x ∧ x < 64) (hs : 0 ≤ s ∧ s ≤ 5) : 0 ≤ (x ||| (1 : Int32) <<< (s &&& 31)) ∧ (x ||| (1 : Int32) <<< (s &&& 31)) < 64 := by
  obtain ⟨j, hj, rfl⟩ := s_ix hs
  refine b_lt (k := 6) (by decide) (fun i h6 h32 => ?_)
  rw [b_or, lt_b (k := 6) (by decide) hx.1 hx.2 i h6, bt_sh (by omega) h32]
  simp
  omega
theorem and_six {x y : Int32} (hx : 0 ≤ x ∧ x < 64) : 0 ≤ (x &&& y) ∧ (x &&& y) < 64 := by
  refine b_lt (k := 6) (by decide) (fun i h6 h32 => ?_)
  rw [b_and, lt_b (k := 6) (by decide) hx.1 hx.2 i h6]
  rfl
theorem sh_six {s : Int32} (hs : 0 ≤ s ∧ s ≤ 5) : 0 ≤ (1 : Int32) <<< (s &&& 31) ∧ (1 : Int32) <<< (s &&& 31) < 64 := by
  obtain ⟨j, hj, rfl⟩ := s_ix hs
  refine b_lt (k := 6) (by decide) (fun i h6 h32 => ?_)
  rw [bt_sh (by omega) h32]
  simp
  omega
theorem v_lt {ν : Mem} (h9 : IA ν) {v : Int32} (c : 0 ≤ v ∧ v ≤ ν 39 5 - 1) : ∃ V, V < nV ν ∧ v = nI V ∧ v.toNatClampNeg = V := by
  obtain ⟨V, hV, hVe, hVl⟩ := v_ix c h9.2.1.1 h9.2.1.2
  exact ⟨V, hVl, hVe, by rw [hVe]; exact nI_clamp (by omega)⟩
theorem s_copy {μ ν : Mem} (h : RLL μ ν) (v s : Int32) : bz (oc_copy μ v s) = bz (ok_copy ν v s) ∧ RLL (cg_copy μ v s) (gf_copy ν v s) := by
  obtain ⟨h1, h2, h3, h4, h5, h6, h7, h8, h9, h10, h11, h12, h13, h14⟩ := id h
  obtain ⟨a1, a2, a3, a4, a5, a6, a7, a8, a9, a10, a11⟩ := id h1
  obtain ⟨b1, b2, b3, b4, b5, b6, b7, b8, b9, b10, b11⟩ := id h2
  have e : oc_copy μ v s ↔ ok_copy ν v s := by unfold oc_copy ok_copy; rw [a7, a2, b7]
  by_cases ok : ok_copy ν v s
  · rw [bz, bz, cg_copy, gf_copy, if_pos (e.mpr ok), if_pos ok, if_pos (e.mpr ok), if_pos ok, b7]
    refine ⟨rfl, RLL_cp h _ _ (fun hV => or_six (h11 _ hV).2.2 ok.2.1.1)⟩
  · rw [bz, bz, cg_copy, gf_copy, if_neg (fun z => ok (e.mp z)), if_neg ok, if_neg (fun z => ok (e.mp z)), if_neg ok]
    exact ⟨rfl, h⟩
theorem s_move {μ ν : Mem} (h : RLL μ ν) (v s t : Int32) : bz (oc_move μ v s t) = bz (ok_move ν v s t) ∧ RLL (cg_move μ v s t) (gf_move ν v s t) := by
  obtain ⟨h1, h2, h3, h4, h5, h6, h7, h8, h9, h10, h11, h12, h13, h14⟩ := id h
  obtain ⟨a1, a2, a3, a4, a5, a6, a7, a8, a9, a10, a11⟩ := id h1
  obtain ⟨b1, b2, b3, b4, b5, b6, b7, b8, b9, b10, b11⟩ := id h2
  have e : oc_move μ v s t ↔ ok_move ν v s t := by unfold oc_move ok_move; rw [a7, a2, b7]
  by_cases ok : ok_move ν v s t
  · rw [bz, bz, cg_move, gf_move, if_pos (e.mpr ok), if_pos ok, if_pos (e.mpr ok), if_pos ok, b7]
    refine ⟨rfl, RLL_cp h _ _ (fun hV => or_six (and_six (h11 _ hV).2.2) ok.2.2.1.1)⟩
  · rw [bz, bz, cg_move, gf_move, if_neg (fun z => ok (e.mp z)), if_neg ok, if_neg (fun z => ok (e.mp z)), if_neg ok]
    exact ⟨rfl, h⟩
/-- scalars of object 0 (but the counts), of the reference's object -/
theorem RLL_sc {μ ν : Mem} (h : RLL μ ν) {μ' ν' : Mem} (hc : ∀ a, a ≠ 0 → a < 39 → μ' a = μ a) (hr : ∀ a, a ≠ 39 → 39 ≤ a → a < 63 → ν' a = ν a) (hA : RA μ' ν') (h39 : ∀ j, j ≠ 10 → j ≠ 11 → ν' 39 j = ν 39 j) : RLL μ' ν' := by
  obtain ⟨h1, h2, h3, h4, h5, h6, h7, h8, h9, h10, h11, h12, h13, h14⟩ := id h
  obtain ⟨nt, nv, nr, nb, nh, et, ev, er, eb, eh⟩ := IA_12 h9
  have c := fun a x y => hc a x y
  have r := fun a x y z => hr a x y z
  refine ⟨hA, ?_, ?_, ?_, ?_, ?_, ?_, ?_, ?_, ?_, ?_, ?_, ?_, ?_⟩
  · unfold RB at h2 ⊢
    rw [c 2 (by decide) (by decide), c 3 (by decide) (by decide), c 4 (by decide) (by decide), c 6 (by decide) (by decide), c 7 (by decide) (by decide), c 8 (by decide) (by decide), c 9 (by decide) (by decide), c 13 (by decide) (by decide), c 14 (by decide) (by decide), c 17 (by decide) (by decide), c 38 (by decide) (by decide), r 40 (by decide) (by decide) (by decide), r 41 (by decide) (by decide) (by decide), r 42 (by decide) (by decide) (by decide), r 43 (by decide) (by decide) (by decide), r 44 (by decide) (by decide) (by decide), r 45 (by decide) (by decide) (by decide), r 46 (by decide) (by decide) (by decide), r 52 (by decide) (by decide) (by decide), r 53 (by decide) (by decide) (by decide), r 51 (by decide) (by decide) (by decide), r 49 (by decide) (by decide) (by decide)]
    exact h2
  · exact RC_c h3 (c 37 (by decide) (by decide)) (h39 12 (by decide) (by decide)) (r 47 (by decide) (by decide) (by decide)) (r 48 (by decide) (by decide) (by decide))
  · exact RD_c h4 h5 (c 10 (by decide) (by decide)) (h39 5 (by decide) (by decide)) (h39 20 (by decide) (by decide)) (fun V _ => ⟨by rw [r 43 (by decide) (by decide) (by decide)], by rw [r 44 (by decide) (by decide) (by decide)], by rw [r 45 (by decide) (by decide) (by decide)], by rw [r 42 (by decide) (by decide) (by decide)], by rw [r 40 (by decide) (by decide) (by decide)]⟩) (r 54 (by decide) (by decide) (by decide)) (r 55 (by decide) (by decide) (by decide)) (r 56 (by decide) (by decide) (by decide)) (r 57 (by decide) (by decide) (by decide))
  · exact RT_c h5 (h39 20 (by decide) (by decide)) (fun H hH => c (21 + H) (by omega) (by omega)) (fun H _ => by rw [c 34 (by decide) (by decide)]) nh (r 54 (by decide) (by decide) (by decide)) (r 55 (by decide) (by decide) (by decide)) (r 56 (by decide) (by decide) (by decide)) (r 57 (by decide) (by decide) (by decide))
  · exact RF_c h6 (c 11 (by decide) (by decide)) (r 50 (by decide) (by decide) (by decide)) (h39 15 (by decide) (by decide))
  · exact RG_c h7 (c 36 (by decide) (by decide)) (r 60 (by decide) (by decide) (by decide)) (r 61 (by decide) (by decide) (by decide)) (r 62 (by decide) (by decide) (by decide)) (h39 35 (by decide) (by decide))
  · exact RH_c h8 (c 15 (by decide) (by decide)) (h39 27 (by decide) (by decide)) (h39 28 (by decide) (by decide))
  · unfold IA at h9 ⊢
    rw [h39 1 (by decide) (by decide), h39 5 (by decide) (by decide), h39 12 (by decide) (by decide), h39 15 (by decide) (by decide), h39 19 (by decide) (by decide), h39 20 (by decide) (by decide), h39 0 (by decide) (by decide), h39 35 (by decide) (by decide)]
    exact h9
  · exact IB_c h10 (h39 1 (by decide) (by decide)) (r 40 (by decide) (by decide) (by decide))
  · exact IC_c h11 (h39 1 (by decide) (by decide)) (h39 5 (by decide) (by decide)) (h39 0 (by decide) (by decide)) (r 43 (by decide) (by decide) (by decide)) (r 45 (by decide) (by decide) (by decide)) (r 46 (by decide) (by decide) (by decide))
  · exact ID_c h12 (h39 12 (by decide) (by decide)) (r 48 (by decide) (by decide) (by decide))
  · exact IE_c h13 (h39 20 (by decide) (by decide)) (r 52 (by decide) (by decide) (by decide)) (r 53 (by decide) (by decide) (by decide))
  · exact IG_c h14 (r 51 (by decide) (by decide) (by decide))
theorem s_broken {μ ν : Mem} (h : RLL μ ν) (s b : Int32) : RLL (cg_broken μ s b) (gf_broken ν s b) := by
  obtain ⟨a1, a2, a3, a4, a5, a6, a7, a8, a9, a10, a11⟩ := id h.1
  rw [cg_broken, gf_broken]
  by_cases ok : 0 ≤ s ∧ s ≤ 5
  · rw [if_pos ok, if_pos ok]
    refine RLL_sc h (fun a x _ => mset_ne a x) (fun a x _ _ => mset_ne a x) ?_ (fun j x _ => ms_j x)
    simp only [RA, ms_eq, ms_j, mset_row, mset_ne, ne_eq, Nat.reduceEqDiff, not_false_eq_true, a1, a2, a3, a4, a5, a6, a7, a8, a9, a10, a11, and_self]
  · rw [if_neg ok, if_neg ok]
    exact h
theorem s_forget {μ ν : Mem} (h : RLL μ ν) (p : Int32) : bz (oc_forget μ p) = bz (ok_forget ν p) ∧ RLL (cg_forget μ p) (gf_forget ν p) := by
  obtain ⟨a1, a2, a3, a4, a5, a6, a7, a8, a9, a10, a11⟩ := id h.1
  have e : oc_forget μ p ↔ ok_forget ν p := by unfold oc_forget ok_forget; rw [a3]
  by_cases ok : ok_forget ν p
  · rw [bz, bz, cg_forget, gf_forget, if_pos (e.mpr ok), if_pos ok, if_pos (e.mpr ok), if_pos ok]
    refine ⟨rfl, RLL_sc h (fun a x _ => mset_ne a x) (fun a x _ _ => mset_ne a x) ?_ (fun j _ x => ms_j x)⟩
    simp only [RA, ms_eq, ms_j, mset_row, mset_ne, ne_eq, Nat.reduceEqDiff, not_false_eq_true, a1, a2, a3, a4, a5, a6, a7, a8, a9, a10, a11, and_self]
  · rw [bz, bz, cg_forget, gf_forget, if_neg (fun z => ok (e.mp z)), if_neg ok, if_neg (fun z => ok (e.mp z)), if_neg ok]
    exact ⟨rfl, h⟩
