/-! the reader's standing -/
def RI (m : Mem) (A T P O : Nat) : Prop := PA m A T ∧ m 39 32 = nI P ∧ m 54 12 = nI O ∧ P + O ≤ A
theorem PA_c {m m' : Mem} {A T : Nat} (h : PA m A T) (h1 : m' 39 29 = m 39 29) (h2 : m' 39 19 = m 39 19) : PA m' A T := ⟨by rw [h1]; exact h.1, by rw [h2]; exact h.2.1, h.2.2⟩
theorem begF_RI {m : Mem} {c : Int32} {A T P O : Nat} (h : RI m A T P O) (hl : A < T) (hr : begR m c = 0) : ∃ A' P' O', RI (begF m c) A' T P' O' ∧ A < A' := by
  obtain ⟨hp, hP, hO, hPO⟩ := h
  have hT := hp.2.2.2
  have hpl : pl m = P := by rw [pl, hP]; exact nI_clamp (by omega)
  unfold begR at hr
  unfold begF
  split at hr
  · rename_i h1
    rw [if_pos h1]
    split at hr
    · exact absurd hr (by decide)
    · rename_i h2
      rw [if_neg h2]
      refine ⟨A + 1, P + 1, O, ⟨adv_PA (PA_c hp ?_ ?_) hl, ?_, ?_, by omega⟩, by omega⟩
      · simp [pushM, mset_app]
      · simp [pushM, mset_app]
      · rw [adv_k (Or.inr (by decide))]
        simp only [pushM, mset_app, ↓reduceIte, Nat.reduceEqDiff]
        rw [hP]
        exact nI_1 P
      · rw [adv_k (Or.inl (by decide))]
        simp only [pushM, mset_app, ↓reduceIte, Nat.reduceEqDiff]
        exact hO
  · rename_i h1
    rw [if_neg h1]
    split at hr
    · rename_i h2
      rw [if_pos h2, if_pos hr]
      obtain ⟨A', p', hA'⟩ := letF_PA (c := c) hp hl
      have q1 : letF m c 39 32 = nI P := by rw [letF_k (by decide) (by decide) (by decide) (by decide) (Or.inr (by decide))]; exact hP
      obtain ⟨O1, q2, q3⟩ : ∃ O1, letF m c 54 12 = nI O1 ∧ O1 ≤ O + 1 := by
        rcases letF_n (c := c) hO with z | z
        · exact ⟨O, z, by omega⟩
        · exact ⟨O + 1, z, Nat.le_refl _⟩
      obtain ⟨g, g1, g2, g3⟩ := notsM_st P (letF m c) O1 q1 q2
      rw [hpl]
      exact ⟨A', g, O1 + (P - g), ⟨PA_c p' (notsM_k (by decide) (by decide) (by decide) (by decide) (Or.inr ⟨by decide, by decide⟩) P _) (notsM_k (by decide) (by decide) (by decide) (by decide) (Or.inr ⟨by decide, by decide⟩) P _), g2, g3, by omega⟩, hA'⟩
    · exact absurd hr (by decide)
theorem behF_RI {m : Mem} {c : Int32} {A T P O : Nat} (h : RI m A T P O) (hl : A < T) (hr : behR m c = 0) : ∃ A' P' O', RI (behF m c) A' T P' O' ∧ A < A' := by
  obtain ⟨hp, hP, hO, hPO⟩ := h
  have hT := hp.2.2.2
  have hpl : pl m = P := by rw [pl, hP]; exact nI_clamp (by omega)
  have wp : ∀ le, PA (workM le P m) A T := fun le => PA_c hp (workM_k (by decide) (by decide) (by decide) (by decide) (Or.inr (by decide)) P m) (workM_k (by decide) (by decide) (by decide) (by decide) (Or.inr (by decide)) P m)
  unfold behR at hr
  unfold behF
  rw [hpl] at hr ⊢
  split at hr
  · rename_i h1
    rw [if_pos h1]
    split at hr
    · exact absurd hr (by decide)
    · rename_i h2
      rw [if_neg h2]
      obtain ⟨g, g1, g2, g3⟩ := workM_st (le := 124) P m O hP hO
      have hg : 1 ≤ g := by
        rcases Nat.eq_zero_or_pos g with h9 | h9
        · exact absurd (by rw [g2, h9]; rfl) h2
        · exact h9
      have hplw : pl (workM 124 P m) = g := by rw [pl, g2]; exact nI_clamp (by omega)
      have q1 : workM 124 P m 39 32 - 1 = nI (g - 1) := by rw [g2]; exact nI_sub1 hg
      obtain ⟨g', k1, k2, k3⟩ := notsM_st (g - 1) (mset (mset (workM 124 P m) 39 32 (workM 124 P m 39 32 - 1)) 39 33 (workM 124 P m 39 33 - 1)) (O + (P - g)) (by rw [ms_j (by decide), ms_eq, q1]) (by rw [ms_k (by decide), ms_k (by decide), g3])
      have e : clsM (workM 124 P m) = notsM (g - 1) (mset (mset (workM 124 P m) 39 32 (workM 124 P m 39 32 - 1)) 39 33 (workM 124 P m 39 33 - 1)) := by rw [clsM, hplw]
      rw [e]
      refine ⟨A + 1, g', O + (P - g) + (g - 1 - g'), ⟨adv_PA (PA_c (wp 124) ?_ ?_) hl, ?_, ?_, by omega⟩, by omega⟩
      · rw [notsM_k (by decide) (by decide) (by decide) (by decide) (Or.inr ⟨by decide, by decide⟩), ms_j (by decide), ms_j (by decide)]
      · rw [notsM_k (by decide) (by decide) (by decide) (by decide) (Or.inr ⟨by decide, by decide⟩), ms_j (by decide), ms_j (by decide)]
      · rw [adv_k (Or.inr (by decide))]
        exact k2
      · rw [adv_k (Or.inl (by decide))]
        exact k3
  · rename_i h1
    rw [if_neg h1]
    split at hr
    · rename_i h2
      rw [if_pos h2]
      obtain ⟨g, g1, g2, g3⟩ := workM_st (le := c) P m O hP hO
      refine ⟨A + 1, g + 1, O + (P - g), ⟨adv_PA (PA_c (wp c) ?_ ?_) hl, ?_, ?_, by omega⟩, by omega⟩
      · simp [pushM, mset_app]
      · simp [pushM, mset_app]
      · rw [adv_k (Or.inr (by decide))]
        simp only [pushM, mset_app, ↓reduceIte, Nat.reduceEqDiff]
        rw [g2]
        exact nI_1 g
      · rw [adv_k (Or.inl (by decide))]
        simp only [pushM, mset_app, ↓reduceIte, Nat.reduceEqDiff]
        exact g3
    · exact absurd hr (by decide)
