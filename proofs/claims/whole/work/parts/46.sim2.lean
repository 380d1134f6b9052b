/-! both readers: where they stand, blanks, numbers -/
def PS (m ν : Mem) (A T : Nat) : Prop := m 15 8 = nI A ∧ PA ν A T ∧ m 16 1 = nI T ∧ m 17 = ν 51
theorem cby_sv {m ν : Mem} {A T : Nat} (h : PS m ν A T) : cby m (m 15 8) = sv ν (ν 39 29) := by
  obtain ⟨h1, ⟨h2, h3, h4, h5⟩, h6, h7⟩ := h
  unfold cby sv
  have p0 : 0 ≤ nI A := nI_pos' (by omega)
  rw [h1, h2, h6, h3, h7]
  by_cases hc : nI A < nI T
  · rw [if_pos ⟨p0, hc⟩, if_pos hc]
  · rw [if_neg (fun z => hc z.2), if_neg hc]
theorem PS_adv {m ν : Mem} {A T : Nat} (h : PS m ν A T) (hl : A < T) : PS (cadv m) (adv ν) (A + 1) T := by
  obtain ⟨h1, h2, h6, h7⟩ := h
  refine ⟨by rw [cadv, ms_eq, h1]; exact nI_1 A, adv_PA h2 hl, by rw [cadv_ne (by decide)]; exact h6, ?_⟩
  rw [cadv_ne (by decide), h7]
  funext j
  rw [adv_k (Or.inl (by decide))]
theorem sv_end {ν : Mem} {A T : Nat} (h : PA ν A T) (he : A = T) : sv ν (ν 39 29) = -1 := by
  rw [sv, h.1, h.2.1, if_neg (nI_nlt (by omega) (by have := h.2.2.2; omega))]
theorem sv_in {ν : Mem} {A T : Nat} (h : PA ν A T) (hs : ¬ sv ν (ν 39 29) = -1) : A < T := by
  rcases Nat.lt_or_ge A T with h9 | h9
  · exact h9
  · exact absurd (sv_end h (by have := h.2.2.1; omega)) hs
theorem skip_sim : ∀ (g f : Nat) (m ν : Mem) (A T : Nat), PS m ν A T → A + g = T → g ≤ f → ∃ A', PS (csk f m) (skM g ν) A' T ∧ A ≤ A'
  | 0, f, m, ν, A, T, h, hg, hf => by
    have e : csk f m = m := by
      cases f with
      | zero => rfl
      | succ f =>
        refine if_neg ?_
        rw [cby_sv h, sv_end h.2.1 (by omega)]
        decide
    rw [e]
    exact ⟨A, h, Nat.le_refl A⟩
  | g + 1, f, m, ν, A, T, h, hg, hf => by
    obtain ⟨f', hf'⟩ : ∃ f', f = f' + 1 := ⟨f - 1, by omega⟩
    subst hf'
    by_cases hc : sv ν (ν 39 29) = 32
    · have e : csk (f' + 1) m = csk f' (cadv m) := if_pos (by rw [cby_sv h]; exact hc)
      have e2 : skM (g + 1) ν = skM g (adv ν) := if_pos hc
      rw [e, e2]
      obtain ⟨A', h1, h2⟩ := skip_sim g f' (cadv m) (adv ν) (A + 1) T (PS_adv h (by omega)) (by omega) (by omega)
      exact ⟨A', h1, by omega⟩
    · have e : csk (f' + 1) m = m := if_neg (by rw [cby_sv h]; exact hc)
      have e2 : skM (g + 1) ν = ν := if_neg hc
      rw [e, e2]
      exact ⟨A, h, Nat.le_refl A⟩
def VR (c r : Int32) : Prop := (0 ≤ r ∧ r ≤ 5000 ∧ c = r) ∨ (5000 < r ∧ r ≤ 1000000 ∧ c = 5001)
theorem ten {r b : Int32} (h0 : 0 ≤ r.toInt) (h1 : r.toInt ≤ 100000) (b0 : 48 ≤ b.toInt) (b1 : b.toInt ≤ 57) : (10 * r + b - 48).toInt = 10 * r.toInt + b.toInt - 48 := by
  have e1 : (10 * r).toInt = 10 * r.toInt := by
    rw [Int32.toInt_mul]
    simp only [Int32.reduceToInt, Int.bmod_def]
    omega
  have e2 : (10 * r + b).toInt = 10 * r.toInt + b.toInt := by
    rw [Int32.toInt_add, e1]
    simp only [Int.bmod_def]
    omega
  rw [Int32.toInt_sub, e2]
  simp only [Int32.reduceToInt, Int.bmod_def]
  omega
theorem VR_step {c r b : Int32} (h : VR c r) (hb : isd b) : VR (cnx c b) (if r < 100000 then 10 * r + b - 48 else r) := by
  obtain ⟨b0, b1⟩ := hb
  have b0' : 48 ≤ b.toInt := by simpa [Int32.le_iff_toInt_le] using b0
  have b1' : b.toInt ≤ 57 := by simpa [Int32.le_iff_toInt_le] using b1
  have hc0 : ¬ c < 0 := by
    rcases h with ⟨h1, h2, h3⟩ | ⟨h1, h2, h3⟩
    · rw [h3]; grind
    · rw [h3]; decide
  have e : mx c 0 = c := if_neg hc0
  have e2 : c * 10 = 10 * c := Int32.mul_comm c 10
  unfold cnx
  rw [e, e2]
  rcases h with ⟨h1, h2, h3⟩ | ⟨h1, h2, h3⟩
  · subst h3
    have c0 : 0 ≤ c.toInt := by simpa [Int32.le_iff_toInt_le] using h1
    have c1 : c.toInt ≤ 5000 := by simpa [Int32.le_iff_toInt_le] using h2
    have h4 : c < 100000 := by
      simp only [Int32.lt_iff_toInt_lt, Int32.reduceToInt]
      omega
    rw [if_pos h4]
    have e3 := ten c0 (by omega) b0' b1'
    generalize 10 * c + b - 48 = z at e3 ⊢
    unfold VR
    simp only [Int32.lt_iff_toInt_lt, Int32.le_iff_toInt_le, Int32.reduceToInt]
    by_cases h5 : 5001 < z.toInt
    · rw [if_pos h5]
      exact Or.inr ⟨by omega, by omega, rfl⟩
    · rw [if_neg h5]
      by_cases h6 : z.toInt = 5001
      · have h7 : z = 5001 := Int32.toInt_inj.mp (h6.trans rfl)
        exact Or.inr ⟨by omega, by omega, h7⟩
      · exact Or.inl ⟨by omega, by omega, rfl⟩
  · subst h3
    have r0 : 5000 < r.toInt := by simpa [Int32.lt_iff_toInt_lt] using h1
    have r1 : r.toInt ≤ 1000000 := by simpa [Int32.le_iff_toInt_le] using h2
    have e3 := ten (r := 5001) (b := b) (by decide) (by decide) b0' b1'
    have e4 : (5001 : Int32).toInt = 5001 := rfl
    rw [e4] at e3
    have h5 : 5001 < 10 * (5001 : Int32) + b - 48 := by
      simp only [Int32.lt_iff_toInt_lt]
      rw [e3]
      show (5001 : Int) < _
      omega
    rw [if_pos h5]
    right
    by_cases h6 : r < 100000
    · have r2 : r.toInt < 100000 := by simpa [Int32.lt_iff_toInt_lt] using h6
      have e5 := ten (r := r) (b := b) (by omega) (by omega) b0' b1'
      rw [if_pos h6]
      generalize 10 * r + b - 48 = z at e5 ⊢
      simp only [Int32.lt_iff_toInt_lt, Int32.le_iff_toInt_le, Int32.reduceToInt]
      exact ⟨by omega, by omega, trivial⟩
    · rw [if_neg h6]
      exact ⟨h1, h2, rfl⟩
theorem num_sim : ∀ (g f : Nat) (vc vr : Int32) (m ν : Mem) (A T : Nat), PS m ν A T → A + g = T → g ≤ f → VR vc vr → ∃ A', PS (cnM f m) (numM g ν) A' T ∧ A ≤ A' ∧ VR (cnV f vc m) (numV g vr ν)
  | 0, f, vc, vr, m, ν, A, T, h, hg, hf, hv => by
    have hd : ¬ isd (cby m (m 15 8)) := by
      rw [cby_sv h, sv_end h.2.1 (by omega)]
      decide
    have e : cnM f m = m := by
      cases f with
      | zero => rfl
      | succ f => exact if_neg hd
    have e2 : cnV f vc m = vc := by
      cases f with
      | zero => rfl
      | succ f => exact if_neg hd
    rw [e, e2]
    exact ⟨A, h, Nat.le_refl A, hv⟩
  | g + 1, f, vc, vr, m, ν, A, T, h, hg, hf, hv => by
    obtain ⟨f', hf'⟩ : ∃ f', f = f' + 1 := ⟨f - 1, by omega⟩
    subst hf'
    by_cases hc : isd (sv ν (ν 39 29))
    · have e : cnM (f' + 1) m = cnM f' (cadv m) := if_pos (by rw [cby_sv h]; exact hc)
      have e2 : numM (g + 1) ν = numM g (adv ν) := if_pos hc
      have e3 : cnV (f' + 1) vc m = cnV f' (cnx vc (cby m (m 15 8))) (cadv m) := if_pos (by rw [cby_sv h]; exact hc)
      have e4 : numV (g + 1) vr ν = numV g (if vr < 100000 then 10 * vr + sv ν (ν 39 29) - 48 else vr) (adv ν) := if_pos hc
      rw [e, e2, e3, e4, cby_sv h]
      obtain ⟨A', h1, h2, h3⟩ := num_sim g f' _ _ (cadv m) (adv ν) (A + 1) T (PS_adv h (by omega)) (by omega) (by omega) (VR_step hv hc)
      exact ⟨A', h1, by omega, h3⟩
    · have e : cnM (f' + 1) m = m := if_neg (by rw [cby_sv h]; exact hc)
      have e2 : numM (g + 1) ν = ν := if_neg hc
      have e3 : cnV (f' + 1) vc m = vc := if_neg (by rw [cby_sv h]; exact hc)
      have e4 : numV (g + 1) vr ν = vr := if_neg hc
      rw [e, e2, e3, e4]
      exact ⟨A, h, Nat.le_refl A, hv⟩
def NR (c r : Int32) : Prop := (c = -1 ∧ r = -1) ∨ VR c r
theorem num_top {m ν : Mem} {A T : Nat} (h : PS m ν A T) : ∃ A', PS (cnm m) (nM ν) A' T ∧ A ≤ A' ∧ NR (cn m) (rn ν) := by
  have hz := PA_fz h.2.1
  have h60 := h.2.1.2.2.2
  by_cases hc : isd (sv ν (ν 39 29))
  · have hc' : isd (cby m (m 15 8)) := by rw [cby_sv h]; exact hc
    have e1 : cn m = cnV 60 0 m := by
      have a1 : cnV 60 (-1) m = cnV 59 (cnx (-1) (cby m (m 15 8))) (cadv m) := if_pos hc'
      have a2 : cnV 60 0 m = cnV 59 (cnx 0 (cby m (m 15 8))) (cadv m) := if_pos hc'
      rw [cn, a1, a2]
      rfl
    have e2 : rn ν = numV (fz ν) 0 ν := if_pos hc
    obtain ⟨A', h1, h2, h3⟩ := num_sim (fz ν) 60 0 0 m ν A T h hz (by omega) (Or.inl ⟨by decide, by decide, rfl⟩)
    exact ⟨A', h1, h2, Or.inr (by rw [e1, e2]; exact h3)⟩
  · have hc' : ¬ isd (cby m (m 15 8)) := by rw [cby_sv h]; exact hc
    have e1 : cn m = -1 := if_neg hc'
    have e2 : rn ν = -1 := if_neg hc
    have e3 : cnm m = m := if_neg hc'
    have e4 : nM ν = ν := numM_no hc
    rw [e1, e2, e3, e4]
    exact ⟨A, h, Nat.le_refl A, Or.inl ⟨rfl, rfl⟩⟩
theorem NR_neg {c r : Int32} (h : NR c r) : (c = -1) ↔ r < 0 := by
  rcases h with ⟨h1, h2⟩ | ⟨h1, h2, h3⟩ | ⟨h1, h2, h3⟩
  · rw [h1, h2]; decide
  · rw [h3]; grind
  · rw [h3]; grind
theorem NR_le {c r k : Int32} (h : NR c r) (hn : ¬ c = -1) (hk : k ≤ 5000) : (k < c ↔ k < r) ∧ (¬ 5000 < r → c = r) ∧ 0 ≤ r := by
  rcases h with ⟨h1, h2⟩ | ⟨h1, h2, h3⟩ | ⟨h1, h2, h3⟩
  · exact absurd h1 hn
  · rw [h3]; exact ⟨Iff.rfl, fun _ => rfl, h1⟩
  · rw [h3]; grind
