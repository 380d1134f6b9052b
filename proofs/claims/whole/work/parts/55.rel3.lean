/-! end, feed, ends, rule, record, fault -/
theorem s_end {μ ν : Mem} (h : RLL μ ν) (n : Int32) : cf_end μ n = rf_end ν n ∧ RLL (cg_end μ n) (gf_end ν n) := by
  obtain ⟨h1, h2, h3, h4, h5, h6, h7, h8, h9, h10, h11, h12, h13, h14⟩ := id h
  obtain ⟨a1, a2, a3, a4, a5, a6, a7, a8, a9, a10, a11⟩ := id h1
  obtain ⟨b1, b2, b3, b4, b5, b6, b7, b8, b9, b10, b11⟩ := id h2
  obtain ⟨nt, nv, nr, nb, nh, et, ev, er, eb, eh⟩ := IA_12 h9
  rw [cf_end, rf_end, cg_end, gf_end, a9]
  by_cases ok : 0 ≤ n ∧ n ≤ ν 39 19
  · rw [if_pos ok, if_pos ok, if_pos ok]
    refine ⟨rfl, ?_⟩
    refine ⟨?_, ?_, ?_, ?_, ?_, ?_, ?_, ?_, ?_, ?_, ?_, ?_, ?_, ?_⟩
    · simp only [RA, ms_eq, ms_j, mset_row, mset_ne, ne_eq, Nat.reduceEqDiff, not_false_eq_true, a1, a2, a3, a4, a5, a6, a7, a8, a9, a10, a11, and_self]
    · simp only [RB, ms_eq, ms_j, mset_row, mset_ne, ne_eq, Nat.reduceEqDiff, not_false_eq_true, b1, b2, b3, b4, b5, b6, b7, b8, b9, b10, b11, and_self]
    · exact RC_c h3 (by simp only [ms_eq, ms_j, mset_ne, ne_eq, Nat.reduceEqDiff, not_false_eq_true]) (by simp only [ms_eq, ms_j, mset_ne, ne_eq, Nat.reduceEqDiff, not_false_eq_true]) (by simp only [ms_eq, ms_j, mset_ne, ne_eq, Nat.reduceEqDiff, not_false_eq_true]) (by simp only [ms_eq, ms_j, mset_ne, ne_eq, Nat.reduceEqDiff, not_false_eq_true])
    · exact RD_c h4 h5 (by simp only [ms_eq, ms_j, mset_ne, ne_eq, Nat.reduceEqDiff, not_false_eq_true]) (by simp only [ms_eq, ms_j, mset_ne, ne_eq, Nat.reduceEqDiff, not_false_eq_true]) (by simp only [ms_eq, ms_j, mset_ne, ne_eq, Nat.reduceEqDiff, not_false_eq_true]) (fun V hV => ⟨(by simp only [ms_eq, ms_j, mset_ne, ne_eq, Nat.reduceEqDiff, not_false_eq_true]), (by simp only [ms_eq, ms_j, mset_ne, ne_eq, Nat.reduceEqDiff, not_false_eq_true]), (by simp only [ms_eq, ms_j, mset_ne, ne_eq, Nat.reduceEqDiff, not_false_eq_true]), (by simp only [ms_eq, ms_j, mset_ne, ne_eq, Nat.reduceEqDiff, not_false_eq_true]), (by simp only [ms_eq, ms_j, mset_ne, ne_eq, Nat.reduceEqDiff, not_false_eq_true])⟩) (by simp only [ms_eq, ms_j, mset_ne, ne_eq, Nat.reduceEqDiff, not_false_eq_true]) (by simp only [ms_eq, ms_j, mset_ne, ne_eq, Nat.reduceEqDiff, not_false_eq_true]) (by simp only [ms_eq, ms_j, mset_ne, ne_eq, Nat.reduceEqDiff, not_false_eq_true]) (by simp only [ms_eq, ms_j, mset_ne, ne_eq, Nat.reduceEqDiff, not_false_eq_true])
    · exact RT_c h5 (by simp only [ms_eq, ms_j, mset_ne, ne_eq, Nat.reduceEqDiff, not_false_eq_true]) (fun H hH => by rw [mset_ne _ (by omega)]) (fun H hH => (by simp only [ms_eq, ms_j, mset_ne, ne_eq, Nat.reduceEqDiff, not_false_eq_true])) nh (by simp only [ms_eq, ms_j, mset_ne, ne_eq, Nat.reduceEqDiff, not_false_eq_true]) (by simp only [ms_eq, ms_j, mset_ne, ne_eq, Nat.reduceEqDiff, not_false_eq_true]) (by simp only [ms_eq, ms_j, mset_ne, ne_eq, Nat.reduceEqDiff, not_false_eq_true]) (by simp only [ms_eq, ms_j, mset_ne, ne_eq, Nat.reduceEqDiff, not_false_eq_true])
    · exact RF_c h6 (by simp only [ms_eq, ms_j, mset_ne, ne_eq, Nat.reduceEqDiff, not_false_eq_true]) (by simp only [ms_eq, ms_j, mset_ne, ne_eq, Nat.reduceEqDiff, not_false_eq_true]) (by simp only [ms_eq, ms_j, mset_ne, ne_eq, Nat.reduceEqDiff, not_false_eq_true])
    · exact RG_c h7 (by simp only [ms_eq, ms_j, mset_ne, ne_eq, Nat.reduceEqDiff, not_false_eq_true]) (by simp only [ms_eq, ms_j, mset_ne, ne_eq, Nat.reduceEqDiff, not_false_eq_true]) (by simp only [ms_eq, ms_j, mset_ne, ne_eq, Nat.reduceEqDiff, not_false_eq_true]) (by simp only [ms_eq, ms_j, mset_ne, ne_eq, Nat.reduceEqDiff, not_false_eq_true]) (by simp only [ms_eq, ms_j, mset_ne, ne_eq, Nat.reduceEqDiff, not_false_eq_true])
    · exact RH_c h8 (by simp only [ms_eq, ms_j, mset_ne, ne_eq, Nat.reduceEqDiff, not_false_eq_true]) (by simp only [ms_eq, ms_j, mset_ne, ne_eq, Nat.reduceEqDiff, not_false_eq_true]) (by simp only [ms_eq, ms_j, mset_ne, ne_eq, Nat.reduceEqDiff, not_false_eq_true])
    · unfold IA at h9 ⊢
      simp only [ms_eq, ms_j, mset_row, mset_ne, ne_eq, Nat.reduceEqDiff, not_false_eq_true]
      obtain ⟨q1, q2, q3, q4, q5, q6⟩ := h9
      exact ⟨q1, q2, q3, q4, ⟨ok.1, Int32.le_trans ok.2 q5.2⟩, q6⟩
    · exact IB_c h10 (by simp only [ms_eq, ms_j, mset_ne, ne_eq, Nat.reduceEqDiff, not_false_eq_true]) (by simp only [ms_eq, ms_j, mset_ne, ne_eq, Nat.reduceEqDiff, not_false_eq_true])
    · exact IC_c h11 (by simp only [ms_eq, ms_j, mset_ne, ne_eq, Nat.reduceEqDiff, not_false_eq_true]) (by simp only [ms_eq, ms_j, mset_ne, ne_eq, Nat.reduceEqDiff, not_false_eq_true]) (by simp only [ms_eq, ms_j, mset_ne, ne_eq, Nat.reduceEqDiff, not_false_eq_true]) (by simp only [ms_eq, ms_j, mset_ne, ne_eq, Nat.reduceEqDiff, not_false_eq_true]) (by simp only [ms_eq, ms_j, mset_ne, ne_eq, Nat.reduceEqDiff, not_false_eq_true]) (by simp only [ms_eq, ms_j, mset_ne, ne_eq, Nat.reduceEqDiff, not_false_eq_true])
    · exact ID_c h12 (by simp only [ms_eq, ms_j, mset_ne, ne_eq, Nat.reduceEqDiff, not_false_eq_true]) (by simp only [ms_eq, ms_j, mset_ne, ne_eq, Nat.reduceEqDiff, not_false_eq_true])
    · exact IE_c h13 (by simp only [ms_eq, ms_j, mset_ne, ne_eq, Nat.reduceEqDiff, not_false_eq_true]) (by simp only [ms_eq, ms_j, mset_ne, ne_eq, Nat.reduceEqDiff, not_false_eq_true]) (by simp only [ms_eq, ms_j, mset_ne, ne_eq, Nat.reduceEqDiff, not_false_eq_true])
    · exact IG_c h14 (by simp only [ms_eq, ms_j, mset_ne, ne_eq, Nat.reduceEqDiff, not_false_eq_true])
  · rw [if_neg ok, if_neg ok, if_neg ok]
    exact ⟨rfl, h⟩
theorem s_fault {μ ν : Mem} (h : RLL μ ν) (w : Int32) : cf_fault μ w = (if w = 0 then ν 39 27 else if w = 1 then ν 39 28 else -1) := by
  have h8 := h.2.2.2.2.2.2.2.1
  unfold cf_fault
  rcases h8 with ⟨q1, q2, q3⟩ | ⟨q1, q2, q3⟩
  · rw [if_pos q1, q2, q3]
    split
    · rfl
    · split <;> rfl
  · rw [if_neg (by rw [q1]; decide), q2, q3]
theorem h_lt {ν : Mem} (h9 : IA ν) {x : Int32} (c : 0 ≤ x ∧ x ≤ ν 39 20 - 1) : ∃ H, H < nH ν ∧ x = nI H ∧ x.toNatClampNeg = H := by
  obtain ⟨H, hH, hHe⟩ := nIx (x := x) (M := 11) (n := 11) rfl c.1 (by have := h9.2.2.2.2.2.1; grind)
  obtain ⟨-, -, -, -, -, -, -, -, -, eh⟩ := IA_12 h9
  have h5 := h9.2.2.2.2.2.1
  have lt : x < ν 39 20 := by grind
  exact ⟨H, by have := cl_ne eh (by have := (IA_12 h9).2.2.2.2.1; omega) c.1 lt; rw [hHe, nI_clamp (by omega)] at this; exact this, hHe, by rw [hHe]; exact nI_clamp (by omega)⟩
theorem s_cov {μ ν : Mem} (h : RLL μ ν) {H : Nat} (hH : H < nH ν) (d : Int32) : cov μ H d ↔ (0 ≤ ν 53 H ∧ ν 53 H ≤ d) := by
  have b9 := h.2.1.2.2.2.2.2.2.2.2.1
  obtain ⟨-, q⟩ := h.2.2.2.2.2.2.2.2.2.2.2.2.1 H hH
  unfold cov
  rw [b9]
  rcases q with q | q
  · rw [q]
    constructor
    · intro z
      exact absurd rfl z.1
    · intro z
      exact absurd z.1 (by decide)
  · constructor
    · intro z
      exact ⟨q.1, z.2⟩
    · intro z
      exact ⟨by grind, z.2⟩
theorem s_ends {μ ν : Mem} (h : RLL μ ν) (x d : Int32) : bz (oc_ends μ x d) = bz (ok_ends ν x d) ∧ RLL (cg_ends μ x d) (gf_ends ν x d) := by
  obtain ⟨h1, h2, h3, h4, h5, h6, h7, h8, h9, h10, h11, h12, h13, h14⟩ := id h
  obtain ⟨a1, a2, a3, a4, a5, a6, a7, a8, a9, a10, a11⟩ := id h1
  obtain ⟨b1, b2, b3, b4, b5, b6, b7, b8, b9, b10, b11⟩ := id h2
  obtain ⟨nt, nv, nr, nb, nh, et, ev, er, eb, eh⟩ := IA_12 h9
  have e : oc_ends μ x d ↔ ok_ends ν x d := by
    unfold oc_ends ok_ends
    rw [a8, a1, b8]
    constructor
    · rintro ⟨q1, q2, q3, q4⟩
      obtain ⟨H, hH, he, hc⟩ := h_lt h9 q1
      rw [hc] at q2 q4 ⊢
      exact ⟨q1, fun z => q2 ((s_cov h hH _).mpr z), q3, q4⟩
    · rintro ⟨q1, q2, q3, q4⟩
      obtain ⟨H, hH, he, hc⟩ := h_lt h9 q1
      rw [hc] at q2 q4 ⊢
      exact ⟨q1, fun z => q2 ((s_cov h hH _).mp z), q3, q4⟩
  by_cases ok : ok_ends ν x d
  · rw [bz, bz, cg_ends, gf_ends, if_pos (e.mpr ok), if_pos ok, if_pos (e.mpr ok), if_pos ok]
    refine ⟨rfl, ?_⟩
    refine ⟨?_, ?_, ?_, ?_, ?_, ?_, ?_, ?_, ?_, ?_, ?_, ?_, ?_, ?_⟩
    · simp only [RA, ms_eq, ms_j, mset_row, mset_ne, ne_eq, Nat.reduceEqDiff, not_false_eq_true, a1, a2, a3, a4, a5, a6, a7, a8, a9, a10, a11, and_self]
    · simp only [RB, ms_eq, ms_j, mset_row, mset_ne, ne_eq, Nat.reduceEqDiff, not_false_eq_true, b1, b2, b3, b4, b5, b6, b7, b8, b9, b10, b11, and_self]
    · exact RC_c h3 (by simp only [ms_eq, ms_j, mset_ne, ne_eq, Nat.reduceEqDiff, not_false_eq_true]) (by simp only [ms_eq, ms_j, mset_ne, ne_eq, Nat.reduceEqDiff, not_false_eq_true]) (by simp only [ms_eq, ms_j, mset_ne, ne_eq, Nat.reduceEqDiff, not_false_eq_true]) (by simp only [ms_eq, ms_j, mset_ne, ne_eq, Nat.reduceEqDiff, not_false_eq_true])
    · exact RD_c h4 h5 (by simp only [ms_eq, ms_j, mset_ne, ne_eq, Nat.reduceEqDiff, not_false_eq_true]) (by simp only [ms_eq, ms_j, mset_ne, ne_eq, Nat.reduceEqDiff, not_false_eq_true]) (by simp only [ms_eq, ms_j, mset_ne, ne_eq, Nat.reduceEqDiff, not_false_eq_true]) (fun V hV => ⟨(by simp only [ms_eq, ms_j, mset_ne, ne_eq, Nat.reduceEqDiff, not_false_eq_true]), (by simp only [ms_eq, ms_j, mset_ne, ne_eq, Nat.reduceEqDiff, not_false_eq_true]), (by simp only [ms_eq, ms_j, mset_ne, ne_eq, Nat.reduceEqDiff, not_false_eq_true]), (by simp only [ms_eq, ms_j, mset_ne, ne_eq, Nat.reduceEqDiff, not_false_eq_true]), (by simp only [ms_eq, ms_j, mset_ne, ne_eq, Nat.reduceEqDiff, not_false_eq_true])⟩) (by simp only [ms_eq, ms_j, mset_ne, ne_eq, Nat.reduceEqDiff, not_false_eq_true]) (by simp only [ms_eq, ms_j, mset_ne, ne_eq, Nat.reduceEqDiff, not_false_eq_true]) (by simp only [ms_eq, ms_j, mset_ne, ne_eq, Nat.reduceEqDiff, not_false_eq_true]) (by simp only [ms_eq, ms_j, mset_ne, ne_eq, Nat.reduceEqDiff, not_false_eq_true])
    · exact RT_c h5 (by simp only [ms_eq, ms_j, mset_ne, ne_eq, Nat.reduceEqDiff, not_false_eq_true]) (fun H hH => by rw [mset_ne _ (by omega)]) (fun H hH => (by simp only [ms_eq, ms_j, mset_ne, ne_eq, Nat.reduceEqDiff, not_false_eq_true])) nh (by simp only [ms_eq, ms_j, mset_ne, ne_eq, Nat.reduceEqDiff, not_false_eq_true]) (by simp only [ms_eq, ms_j, mset_ne, ne_eq, Nat.reduceEqDiff, not_false_eq_true]) (by simp only [ms_eq, ms_j, mset_ne, ne_eq, Nat.reduceEqDiff, not_false_eq_true]) (by simp only [ms_eq, ms_j, mset_ne, ne_eq, Nat.reduceEqDiff, not_false_eq_true])
    · exact RF_c h6 (by simp only [ms_eq, ms_j, mset_ne, ne_eq, Nat.reduceEqDiff, not_false_eq_true]) (by simp only [ms_eq, ms_j, mset_ne, ne_eq, Nat.reduceEqDiff, not_false_eq_true]) (by simp only [ms_eq, ms_j, mset_ne, ne_eq, Nat.reduceEqDiff, not_false_eq_true])
    · exact RG_c h7 (by simp only [ms_eq, ms_j, mset_ne, ne_eq, Nat.reduceEqDiff, not_false_eq_true]) (by simp only [ms_eq, ms_j, mset_ne, ne_eq, Nat.reduceEqDiff, not_false_eq_true]) (by simp only [ms_eq, ms_j, mset_ne, ne_eq, Nat.reduceEqDiff, not_false_eq_true]) (by simp only [ms_eq, ms_j, mset_ne, ne_eq, Nat.reduceEqDiff, not_false_eq_true]) (by simp only [ms_eq, ms_j, mset_ne, ne_eq, Nat.reduceEqDiff, not_false_eq_true])
    · exact RH_c h8 (by simp only [ms_eq, ms_j, mset_ne, ne_eq, Nat.reduceEqDiff, not_false_eq_true]) (by simp only [ms_eq, ms_j, mset_ne, ne_eq, Nat.reduceEqDiff, not_false_eq_true]) (by simp only [ms_eq, ms_j, mset_ne, ne_eq, Nat.reduceEqDiff, not_false_eq_true])
    · unfold IA at h9 ⊢
      simp only [ms_eq, ms_j, mset_row, mset_ne, ne_eq, Nat.reduceEqDiff, not_false_eq_true]
      exact h9
    · exact IB_c h10 (by simp only [ms_eq, ms_j, mset_ne, ne_eq, Nat.reduceEqDiff, not_false_eq_true]) (by simp only [ms_eq, ms_j, mset_ne, ne_eq, Nat.reduceEqDiff, not_false_eq_true])
    · exact IC_c h11 (by simp only [ms_eq, ms_j, mset_ne, ne_eq, Nat.reduceEqDiff, not_false_eq_true]) (by simp only [ms_eq, ms_j, mset_ne, ne_eq, Nat.reduceEqDiff, not_false_eq_true]) (by simp only [ms_eq, ms_j, mset_ne, ne_eq, Nat.reduceEqDiff, not_false_eq_true]) (by simp only [ms_eq, ms_j, mset_ne, ne_eq, Nat.reduceEqDiff, not_false_eq_true]) (by simp only [ms_eq, ms_j, mset_ne, ne_eq, Nat.reduceEqDiff, not_false_eq_true]) (by simp only [ms_eq, ms_j, mset_ne, ne_eq, Nat.reduceEqDiff, not_false_eq_true])
    · exact ID_c h12 (by simp only [ms_eq, ms_j, mset_ne, ne_eq, Nat.reduceEqDiff, not_false_eq_true]) (by simp only [ms_eq, ms_j, mset_ne, ne_eq, Nat.reduceEqDiff, not_false_eq_true])
    · intro k hk
      have e1 : nH (mset ν 53 x.toNatClampNeg d) = nH ν := by rw [nH, ms_k (by decide)]; rfl
      rw [e1] at hk
      obtain ⟨q1, q2⟩ := h13 k hk
      rw [ms_k (by decide)]
      refine ⟨q1, ?_⟩
      by_cases q : k = x.toNatClampNeg
      · rw [q, ms_eq]
        exact Or.inr ⟨Int32.le_trans h9.2.2.2.2.2.2.1.1 ok.2.2.1.1, ok.2.2.1.2⟩
      · rw [ms_j q]
        exact q2
    · exact IG_c h14 (by simp only [ms_eq, ms_j, mset_ne, ne_eq, Nat.reduceEqDiff, not_false_eq_true])
  · rw [bz, bz, cg_ends, gf_ends, if_neg (fun z => ok (e.mp z)), if_neg ok, if_neg (fun z => ok (e.mp z)), if_neg ok]
    exact ⟨rfl, h⟩
theorem mMost_s {ν : Mem} {kd : Int32} {n : Nat} : mMost ν kd (n + 1) = if ν 47 n = kd ∧ mMost ν kd n < ν 48 n then ν 48 n else mMost ν kd n := rfl
theorem s_rule {μ ν : Mem} (h : RLL μ ν) (kd d : Int32) : cf_rule μ kd d = rf_rule ν kd d ∧ RLL (cg_rule μ kd d) (gf_rule ν kd d) := by
  obtain ⟨h1, h2, h3, h4, h5, h6, h7, h8, h9, h10, h11, h12, h13, h14⟩ := id h
  obtain ⟨a1, a2, a3, a4, a5, a6, a7, a8, a9, a10, a11⟩ := id h1
  obtain ⟨b1, b2, b3, b4, b5, b6, b7, b8, b9, b10, b11⟩ := id h2
  obtain ⟨nt, nv, nr, nb, nh, et, ev, er, eb, eh⟩ := IA_12 h9
  have e : oc_rule μ kd d ↔ ok_rule ν kd d := by unfold oc_rule ok_rule; rw [a4]
  by_cases ok : ok_rule ν kd d
  · have hn2 : (ν 39 12).toNatClampNeg = nR ν := rfl
    obtain ⟨K, hK, hKe⟩ := nIx (x := kd) (M := 5) (n := 5) rfl ok.1.1 ok.1.2
    have hKc : kd.toNatClampNeg = K := by rw [hKe]; exact nI_clamp (by omega)
    have lt : nR ν < 20 := by
      rcases Nat.lt_or_ge (nR ν) 20 with q | q
      · exact q
      · exact absurd (by rw [er, show nR ν = 20 by omega]; rfl) ok.2.2
    rw [cf_rule, rf_rule, cg_rule, gf_rule, if_pos (e.mpr ok), if_pos ok, if_pos (e.mpr ok), if_pos ok, hn2, a4, hKc]
    have e12 : nR (mset (mset (mset ν 47 (nR ν) kd) 48 (nR ν) d) 39 12 (ν 39 12 + 1)) = nR ν + 1 := by
      rw [nR, ms_eq]
      exact inc_cl er nr (by decide)
    refine ⟨rfl, ?_⟩
    refine ⟨?_, ?_, ?_, ?_, ?_, ?_, ?_, ?_, ?_, ?_, ?_, ?_, ?_, ?_⟩
    · simp only [RA, ms_eq, ms_j, mset_row, mset_ne, ne_eq, Nat.reduceEqDiff, not_false_eq_true, a1, a2, a3, a4, a5, a6, a7, a8, a9, a10, a11, and_self]
    · simp only [RB, ms_eq, ms_j, mset_row, mset_ne, ne_eq, Nat.reduceEqDiff, not_false_eq_true, b1, b2, b3, b4, b5, b6, b7, b8, b9, b10, b11, and_self]
    · intro k hk
      rw [e12, mMost_s, mMost_v (ν := ν) (nR ν) (fun i hi => ⟨by rw [ms_k (by decide), ms_k (by decide), ms_j (by omega)], by rw [ms_k (by decide), ms_j (by omega), ms_k (by decide)]⟩)]
      have x47 : mset (mset (mset ν 47 (nR ν) kd) 48 (nR ν) d) 39 12 (ν 39 12 + 1) 47 (nR ν) = kd := by rw [ms_k (by decide), ms_k (by decide), ms_eq]
      have x48 : mset (mset (mset ν 47 (nR ν) kd) 48 (nR ν) d) 39 12 (ν 39 12 + 1) 48 (nR ν) = d := by rw [ms_k (by decide), ms_eq]
      rw [x47, x48, ms_k (show (37 : Nat) ≠ 0 by decide)]
      by_cases q : k = K
      · subst q
        rw [ms_eq, h3 k hk, hKe, mx]
        by_cases q2 : mMost ν (nI k) (nR ν) < d
        · rw [if_pos q2, if_pos ⟨rfl, q2⟩]
        · rw [if_neg q2, if_neg (fun z => q2 z.2)]
      · have ne : ¬ kd = nI k := fun z => q ((nI_eq (a := K) (b := k) (by omega) (by omega)).mp (hKe.symm.trans z)).symm
        rw [ms_j q, h3 k hk, if_neg (fun z => ne z.1)]
    · exact RD_c h4 h5 (by simp only [ms_eq, ms_j, mset_ne, ne_eq, Nat.reduceEqDiff, not_false_eq_true]) (by simp only [ms_eq, ms_j, mset_ne, ne_eq, Nat.reduceEqDiff, not_false_eq_true]) (by simp only [ms_eq, ms_j, mset_ne, ne_eq, Nat.reduceEqDiff, not_false_eq_true]) (fun V hV => ⟨(by simp only [ms_eq, ms_j, mset_ne, ne_eq, Nat.reduceEqDiff, not_false_eq_true]), (by simp only [ms_eq, ms_j, mset_ne, ne_eq, Nat.reduceEqDiff, not_false_eq_true]), (by simp only [ms_eq, ms_j, mset_ne, ne_eq, Nat.reduceEqDiff, not_false_eq_true]), (by simp only [ms_eq, ms_j, mset_ne, ne_eq, Nat.reduceEqDiff, not_false_eq_true]), (by simp only [ms_eq, ms_j, mset_ne, ne_eq, Nat.reduceEqDiff, not_false_eq_true])⟩) (by simp only [ms_eq, ms_j, mset_ne, ne_eq, Nat.reduceEqDiff, not_false_eq_true]) (by simp only [ms_eq, ms_j, mset_ne, ne_eq, Nat.reduceEqDiff, not_false_eq_true]) (by simp only [ms_eq, ms_j, mset_ne, ne_eq, Nat.reduceEqDiff, not_false_eq_true]) (by simp only [ms_eq, ms_j, mset_ne, ne_eq, Nat.reduceEqDiff, not_false_eq_true])
    · exact RT_c h5 (by simp only [ms_eq, ms_j, mset_ne, ne_eq, Nat.reduceEqDiff, not_false_eq_true]) (fun H hH => by rw [mset_ne _ (by omega), mset_ne _ (by omega)]) (fun H hH => (by simp only [ms_eq, ms_j, mset_ne, ne_eq, Nat.reduceEqDiff, not_false_eq_true])) nh (by simp only [ms_eq, ms_j, mset_ne, ne_eq, Nat.reduceEqDiff, not_false_eq_true]) (by simp only [ms_eq, ms_j, mset_ne, ne_eq, Nat.reduceEqDiff, not_false_eq_true]) (by simp only [ms_eq, ms_j, mset_ne, ne_eq, Nat.reduceEqDiff, not_false_eq_true]) (by simp only [ms_eq, ms_j, mset_ne, ne_eq, Nat.reduceEqDiff, not_false_eq_true])
    · exact RF_c h6 (by simp only [ms_eq, ms_j, mset_ne, ne_eq, Nat.reduceEqDiff, not_false_eq_true]) (by simp only [ms_eq, ms_j, mset_ne, ne_eq, Nat.reduceEqDiff, not_false_eq_true]) (by simp only [ms_eq, ms_j, mset_ne, ne_eq, Nat.reduceEqDiff, not_false_eq_true])
    · exact RG_c h7 (by simp only [ms_eq, ms_j, mset_ne, ne_eq, Nat.reduceEqDiff, not_false_eq_true]) (by simp only [ms_eq, ms_j, mset_ne, ne_eq, Nat.reduceEqDiff, not_false_eq_true]) (by simp only [ms_eq, ms_j, mset_ne, ne_eq, Nat.reduceEqDiff, not_false_eq_true]) (by simp only [ms_eq, ms_j, mset_ne, ne_eq, Nat.reduceEqDiff, not_false_eq_true]) (by simp only [ms_eq, ms_j, mset_ne, ne_eq, Nat.reduceEqDiff, not_false_eq_true])
    · exact RH_c h8 (by simp only [ms_eq, ms_j, mset_ne, ne_eq, Nat.reduceEqDiff, not_false_eq_true]) (by simp only [ms_eq, ms_j, mset_ne, ne_eq, Nat.reduceEqDiff, not_false_eq_true]) (by simp only [ms_eq, ms_j, mset_ne, ne_eq, Nat.reduceEqDiff, not_false_eq_true])
    · unfold IA at h9 ⊢
      simp only [ms_eq, ms_j, mset_row, mset_ne, ne_eq, Nat.reduceEqDiff, not_false_eq_true]
      have := ok.2.2
      grind
    · exact IB_c h10 (by simp only [ms_eq, ms_j, mset_ne, ne_eq, Nat.reduceEqDiff, not_false_eq_true]) (by simp only [ms_eq, ms_j, mset_ne, ne_eq, Nat.reduceEqDiff, not_false_eq_true])
    · exact IC_c h11 (by simp only [ms_eq, ms_j, mset_ne, ne_eq, Nat.reduceEqDiff, not_false_eq_true]) (by simp only [ms_eq, ms_j, mset_ne, ne_eq, Nat.reduceEqDiff, not_false_eq_true]) (by simp only [ms_eq, ms_j, mset_ne, ne_eq, Nat.reduceEqDiff, not_false_eq_true]) (by simp only [ms_eq, ms_j, mset_ne, ne_eq, Nat.reduceEqDiff, not_false_eq_true]) (by simp only [ms_eq, ms_j, mset_ne, ne_eq, Nat.reduceEqDiff, not_false_eq_true]) (by simp only [ms_eq, ms_j, mset_ne, ne_eq, Nat.reduceEqDiff, not_false_eq_true])
    · intro r hr
      rw [e12] at hr
      rw [ms_k (by decide)]
      by_cases q : r = nR ν
      · rw [q, ms_eq]
        exact ok.2.1
      · rw [ms_j q, ms_k (by decide)]
        exact h12 r (by omega)
    · exact IE_c h13 (by simp only [ms_eq, ms_j, mset_ne, ne_eq, Nat.reduceEqDiff, not_false_eq_true]) (by simp only [ms_eq, ms_j, mset_ne, ne_eq, Nat.reduceEqDiff, not_false_eq_true]) (by simp only [ms_eq, ms_j, mset_ne, ne_eq, Nat.reduceEqDiff, not_false_eq_true])
    · exact IG_c h14 (by simp only [ms_eq, ms_j, mset_ne, ne_eq, Nat.reduceEqDiff, not_false_eq_true])
  · rw [cf_rule, rf_rule, cg_rule, gf_rule, if_neg (fun z => ok (e.mp z)), if_neg ok, if_neg (fun z => ok (e.mp z)), if_neg ok]
    exact ⟨rfl, h⟩
/-! record -/
theorem cpk_N {v d s : Nat} (hs : s < 64) (hv : v < 128) (hd : d < 8192) : cpk (nI v) (nI d) (nI s) = nI (8192 * d + (64 * v + s)) := by
  have e1 : nI d <<< ((13 : Int32) &&& 31) = nI (2 ^ 13 * d) := by
    rw [pk_shlN ((13 : Int32) &&& 31) 13 rfl (by omega), Nat.mul_comm]
  have e2 : nI v <<< ((6 : Int32) &&& 31) = nI (2 ^ 6 * v) := by
    rw [pk_shlN ((6 : Int32) &&& 31) 6 rfl (by omega), Nat.mul_comm]
  unfold cpk
  rw [e1, e2, fa_or_sum (k := 13) d (by omega)]
  have e3 : 2 ^ 13 * d + 2 ^ 6 * v = 2 ^ 6 * (128 * d + v) := by omega
  rw [e3, fa_or_sum (k := 6) (128 * d + v) (by omega)]
  congr 1
  omega
theorem cpk_dec {v d s : Int32} (hs : 0 ≤ s ∧ s < 64) (hv : 0 ≤ v ∧ v < 120) (hd : 0 ≤ d ∧ d ≤ 5000) : ushr (cpk v d s) 6 &&& 127 = v ∧ ushr (cpk v d s) 13 = d ∧ cpk v d s &&& 63 = s := by
  obtain ⟨s', s1, s2⟩ := nIx (x := s) (M := 63) (n := 63) rfl hs.1 (by grind)
  obtain ⟨v', v1, v2⟩ := nIx (x := v) (M := 119) (n := 119) rfl hv.1 (by grind)
  obtain ⟨d', d1, d2⟩ := nIx (x := d) (M := 5000) (n := 5000) rfl hd.1 hd.2
  rw [s2, v2, d2, cpk_N (by omega) (by omega) (by omega)]
  have h32 : 8192 * d' + (64 * v' + s') < 2 ^ 32 := by omega
  refine ⟨?_, ?_, ?_⟩
  · unfold ushr
    rw [pk_ushrN h32 6 6 rfl, pk_andN (by omega) (m := 127) 7 rfl]
    congr 1
    omega
  · unfold ushr
    rw [pk_ushrN h32 13 13 rfl]
    congr 1
    omega
  · rw [pk_andN h32 (m := 63) 6 rfl]
    congr 1
    omega
theorem s_record {μ ν : Mem} (h : RLL μ ν) (i w : Int32) : cf_record μ i w = rf_record ν i w := by
  obtain ⟨h1, h2, h3, h4, h5, h6, h7, h8, h9, h10, h11, h12, h13, h14⟩ := id h
  obtain ⟨a1, a2, a3, a4, a5, a6, a7, a8, a9, a10, a11⟩ := id h1
  obtain ⟨b1, b2, b3, b4, b5, b6, b7, b8, b9, b10, b11⟩ := id h2
  obtain ⟨nt, nv, nr, nb, nh, et, ev, er, eb, eh⟩ := IA_12 h9
  have r0 : 0 ≤ ν 39 35 := by simpa [Int32.le_iff_toInt_le] using h9.2.2.2.2.2.2.2.1
  unfold cf_record rf_record
  rw [a10]
  have e : (0 ≤ i ∧ i < (if 6000 < ν 39 35 then 6000 else ν 39 35)) ↔ (0 ≤ i ∧ i ≤ (if ν 39 35 < 6000 then ν 39 35 else 6000) - 1) := by
    grind
  by_cases ok : 0 ≤ i ∧ i ≤ (if ν 39 35 < 6000 then ν 39 35 else 6000) - 1
  · rw [if_pos ok, if_pos (e.mpr ok)]
    have ok2 := e.mpr ok
    obtain ⟨j, hj, hje⟩ := nIx (x := i) (M := 5999) (n := 5999) rfl ok.1 (by grind)
    have hjc : i.toNatClampNeg = j := by rw [hje]; exact nI_clamp (by omega)
    have lt : j < nK ν := by
      have q : i < ν 39 35 := by grind
      rw [hje] at q
      have q2 : (nI j).toInt < (ν 39 35).toInt := Int32.lt_iff_toInt_lt.mp q
      rw [nI_toInt (by omega)] at q2
      unfold nK
      show j < (ν 39 35).toInt.toNat
      omega
    obtain ⟨g1, g2, g3, g4⟩ := h7 j (by omega) lt
    rw [hjc, g1]
    obtain ⟨k1, k2, k3⟩ := cpk_dec g4 g2 g3
    rw [k1, k2, k3]
  · rw [if_neg ok, if_neg (fun z => ok (e.mp z))]
/-! feed -/
theorem byte_eq (v : Int32) (k : Nat) (hk : k ≤ 24) : ushr v (nI k) &&& 255 = (v >>> (nI k &&& 31)) &&& 255 := by
  apply b_ext
  intro i hi
  rw [b_and, b_and, b_255]
  by_cases h : i < 8
  · rw [b_sshr k (by omega) v hi, if_pos (by omega)]
    have := b_ushr k (by omega) v i
    rw [show bt (ushr v (nI k)) i = bt v (k + i) from this]
  · simp [h]
theorem byte_nn (x : Int32) : 0 ≤ x &&& 255 := by
  obtain ⟨j, hj, he⟩ := pk_andE x (m := 255) 8 rfl
  rw [he]
  have : j < 256 := hj
  exact nI_pos' (by omega)
theorem RLL_pb {μ ν : Mem} (h : RLL μ ν) (hl : ν 39 19 < 60) (x : Int32) (hx : 0 ≤ x) : RLL (cpb μ x) (pb ν x) := by
  obtain ⟨h1, h2, h3, h4, h5, h6, h7, h8, h9, h10, h11, h12, h13, h14⟩ := id h
  obtain ⟨a1, a2, a3, a4, a5, a6, a7, a8, a9, a10, a11⟩ := id h1
  obtain ⟨b1, b2, b3, b4, b5, b6, b7, b8, b9, b10, b11⟩ := id h2
  obtain ⟨nt, nv, nr, nb, nh, et, ev, er, eb, eh⟩ := IA_12 h9
  unfold cpb pb
  rw [a9]
  refine ⟨?_, ?_, ?_, ?_, ?_, ?_, ?_, ?_, ?_, ?_, ?_, ?_, ?_, ?_⟩
  · simp only [RA, ms_eq, ms_j, mset_row, mset_ne, ne_eq, Nat.reduceEqDiff, not_false_eq_true, a1, a2, a3, a4, a5, a6, a7, a8, a9, a10, a11, and_self]
  · simp only [RB, ms_eq, ms_j, mset_row, mset_ne, ne_eq, Nat.reduceEqDiff, not_false_eq_true, b1, b2, b3, b4, b5, b6, b7, b8, b9, b10, b11, and_self]
  · exact RC_c h3 (by simp only [ms_eq, ms_j, mset_ne, ne_eq, Nat.reduceEqDiff, not_false_eq_true]) (by simp only [ms_eq, ms_j, mset_ne, ne_eq, Nat.reduceEqDiff, not_false_eq_true]) (by simp only [ms_eq, ms_j, mset_ne, ne_eq, Nat.reduceEqDiff, not_false_eq_true]) (by simp only [ms_eq, ms_j, mset_ne, ne_eq, Nat.reduceEqDiff, not_false_eq_true])
  · exact RD_c h4 h5 (by simp only [ms_eq, ms_j, mset_ne, ne_eq, Nat.reduceEqDiff, not_false_eq_true]) (by simp only [ms_eq, ms_j, mset_ne, ne_eq, Nat.reduceEqDiff, not_false_eq_true]) (by simp only [ms_eq, ms_j, mset_ne, ne_eq, Nat.reduceEqDiff, not_false_eq_true]) (fun V hV => ⟨(by simp only [ms_eq, ms_j, mset_ne, ne_eq, Nat.reduceEqDiff, not_false_eq_true]), (by simp only [ms_eq, ms_j, mset_ne, ne_eq, Nat.reduceEqDiff, not_false_eq_true]), (by simp only [ms_eq, ms_j, mset_ne, ne_eq, Nat.reduceEqDiff, not_false_eq_true]), (by simp only [ms_eq, ms_j, mset_ne, ne_eq, Nat.reduceEqDiff, not_false_eq_true]), (by simp only [ms_eq, ms_j, mset_ne, ne_eq, Nat.reduceEqDiff, not_false_eq_true])⟩) (by simp only [ms_eq, ms_j, mset_ne, ne_eq, Nat.reduceEqDiff, not_false_eq_true]) (by simp only [ms_eq, ms_j, mset_ne, ne_eq, Nat.reduceEqDiff, not_false_eq_true]) (by simp only [ms_eq, ms_j, mset_ne, ne_eq, Nat.reduceEqDiff, not_false_eq_true]) (by simp only [ms_eq, ms_j, mset_ne, ne_eq, Nat.reduceEqDiff, not_false_eq_true])
  · exact RT_c h5 (by simp only [ms_eq, ms_j, mset_ne, ne_eq, Nat.reduceEqDiff, not_false_eq_true]) (fun H hH => by rw [mset_ne _ (by omega), mset_ne _ (by omega)]) (fun H hH => (by simp only [ms_eq, ms_j, mset_ne, ne_eq, Nat.reduceEqDiff, not_false_eq_true])) nh (by simp only [ms_eq, ms_j, mset_ne, ne_eq, Nat.reduceEqDiff, not_false_eq_true]) (by simp only [ms_eq, ms_j, mset_ne, ne_eq, Nat.reduceEqDiff, not_false_eq_true]) (by simp only [ms_eq, ms_j, mset_ne, ne_eq, Nat.reduceEqDiff, not_false_eq_true]) (by simp only [ms_eq, ms_j, mset_ne, ne_eq, Nat.reduceEqDiff, not_false_eq_true])
  · exact RF_c h6 (by simp only [ms_eq, ms_j, mset_ne, ne_eq, Nat.reduceEqDiff, not_false_eq_true]) (by simp only [ms_eq, ms_j, mset_ne, ne_eq, Nat.reduceEqDiff, not_false_eq_true]) (by simp only [ms_eq, ms_j, mset_ne, ne_eq, Nat.reduceEqDiff, not_false_eq_true])
  · exact RG_c h7 (by simp only [ms_eq, ms_j, mset_ne, ne_eq, Nat.reduceEqDiff, not_false_eq_true]) (by simp only [ms_eq, ms_j, mset_ne, ne_eq, Nat.reduceEqDiff, not_false_eq_true]) (by simp only [ms_eq, ms_j, mset_ne, ne_eq, Nat.reduceEqDiff, not_false_eq_true]) (by simp only [ms_eq, ms_j, mset_ne, ne_eq, Nat.reduceEqDiff, not_false_eq_true]) (by simp only [ms_eq, ms_j, mset_ne, ne_eq, Nat.reduceEqDiff, not_false_eq_true])
  · exact RH_c h8 (by simp only [ms_eq, ms_j, mset_ne, ne_eq, Nat.reduceEqDiff, not_false_eq_true]) (by simp only [ms_eq, ms_j, mset_ne, ne_eq, Nat.reduceEqDiff, not_false_eq_true]) (by simp only [ms_eq, ms_j, mset_ne, ne_eq, Nat.reduceEqDiff, not_false_eq_true])
  · unfold IA at h9 ⊢
    simp only [ms_eq, ms_j, mset_row, mset_ne, ne_eq, Nat.reduceEqDiff, not_false_eq_true]
    grind
  · exact IB_c h10 (by simp only [ms_eq, ms_j, mset_ne, ne_eq, Nat.reduceEqDiff, not_false_eq_true]) (by simp only [ms_eq, ms_j, mset_ne, ne_eq, Nat.reduceEqDiff, not_false_eq_true])
  · exact IC_c h11 (by simp only [ms_eq, ms_j, mset_ne, ne_eq, Nat.reduceEqDiff, not_false_eq_true]) (by simp only [ms_eq, ms_j, mset_ne, ne_eq, Nat.reduceEqDiff, not_false_eq_true]) (by simp only [ms_eq, ms_j, mset_ne, ne_eq, Nat.reduceEqDiff, not_false_eq_true]) (by simp only [ms_eq, ms_j, mset_ne, ne_eq, Nat.reduceEqDiff, not_false_eq_true]) (by simp only [ms_eq, ms_j, mset_ne, ne_eq, Nat.reduceEqDiff, not_false_eq_true]) (by simp only [ms_eq, ms_j, mset_ne, ne_eq, Nat.reduceEqDiff, not_false_eq_true])
  · exact ID_c h12 (by simp only [ms_eq, ms_j, mset_ne, ne_eq, Nat.reduceEqDiff, not_false_eq_true]) (by simp only [ms_eq, ms_j, mset_ne, ne_eq, Nat.reduceEqDiff, not_false_eq_true])
  · exact IE_c h13 (by simp only [ms_eq, ms_j, mset_ne, ne_eq, Nat.reduceEqDiff, not_false_eq_true]) (by simp only [ms_eq, ms_j, mset_ne, ne_eq, Nat.reduceEqDiff, not_false_eq_true]) (by simp only [ms_eq, ms_j, mset_ne, ne_eq, Nat.reduceEqDiff, not_false_eq_true])
  · intro i
    rw [ms_k (by decide)]
    by_cases q : i = (ν 39 19).toNatClampNeg
    · rw [q, ms_eq]
      exact hx
    · rw [ms_j q]
      exact h14 i
theorem RLL_f4 {μ ν : Mem} (h : RLL μ ν) (hl : ν 39 19 ≤ 56) (v : Int32) : RLL (cf4 μ v) (f4 ν v) ∧ f4 ν v 39 19 = ν 39 19 + 4 := by
  have i0 : 0 ≤ ν 39 19 := h.2.2.2.2.2.2.2.2.1.2.2.2.2.1.1
  have e24 : ushr v 24 &&& 255 = (v >>> ((24 : Int32) &&& 31)) &&& 255 := byte_eq v 24 (by decide)
  have e16 : ushr v 16 &&& 255 = (v >>> ((16 : Int32) &&& 31)) &&& 255 := byte_eq v 16 (by decide)
  have e8 : ushr v 8 &&& 255 = (v >>> ((8 : Int32) &&& 31)) &&& 255 := byte_eq v 8 (by decide)
  have e0 : ushr v 0 &&& 255 = (v >>> ((0 : Int32) &&& 31)) &&& 255 := byte_eq v 0 (by decide)
  unfold cf4
  rw [e24, e16, e8, e0]
  refine ⟨?_, by rw [f4_n]; grind⟩
  refine RLL_pb (RLL_pb (RLL_pb (RLL_pb h (by grind) _ (byte_nn _)) (by rw [pb_n]; grind) _ (byte_nn _)) (by rw [pb_n, pb_n]; grind) _ (byte_nn _)) (by rw [pb_n, pb_n, pb_n]; grind) _ (byte_nn _)
theorem s_feed {μ ν : Mem} (h : RLL μ ν) (a b c d e : Int32) : cf_feed μ = rf_feed ν ∧ RLL (cg_feed μ a b c d e) (gf_feed ν a b c d e) := by
  have a9 := h.1.2.2.2.2.2.2.2.2.1
  have i5 := h.2.2.2.2.2.2.2.2.1.2.2.2.2.1
  rw [cf_feed, rf_feed, cg_feed, gf_feed]
  unfold oc_feed ok_feed
  rw [a9]
  by_cases ok : ¬ 60 < ν 39 19 + 20
  · rw [if_pos ok, if_pos ok, if_pos ok]
    refine ⟨rfl, ?_⟩
    obtain ⟨r1, k1⟩ := RLL_f4 h (by grind) a
    obtain ⟨r2, k2⟩ := RLL_f4 r1 (by rw [k1]; grind) b
    obtain ⟨r3, k3⟩ := RLL_f4 r2 (by rw [k2, k1]; grind) c
    obtain ⟨r4, k4⟩ := RLL_f4 r3 (by rw [k3, k2, k1]; grind) d
    obtain ⟨r5, k5⟩ := RLL_f4 r4 (by rw [k4, k3, k2, k1]; grind) e
    exact r5
  · rw [if_neg ok, if_neg ok, if_neg ok]
    exact ⟨rfl, h⟩
