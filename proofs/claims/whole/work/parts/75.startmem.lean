/-! the memory at the start -/
def mu0 (xs : Nat → Int32) : Mem := fun k => if k = 63 then xs else if k = 37 then fk 6 else if k = 35 then (fun j => if j = 2 then 1 else 0) else if k = 39 then (fun j => if j = 36 then 1 else if j = 27 then -1 else if j = 28 then -1 else 0) else fun _ => 0
theorem mu0_z (xs : Nat → Int32) {k : Nat} (h1 : k ≠ 63) (h2 : k ≠ 37) (h3 : k ≠ 35) (h4 : k ≠ 39) : mu0 xs k = fun _ => 0 := by
  unfold mu0
  rw [if_neg h1, if_neg h2, if_neg h3, if_neg h4]
theorem mu0_39 (xs : Nat → Int32) : mu0 xs 39 = (fun j => if j = 36 then 1 else if j = 27 then -1 else if j = 28 then -1 else 0) := rfl
theorem mu0_35 (xs : Nat → Int32) : mu0 xs 35 = (fun j => if j = 2 then 1 else 0) := rfl
theorem fk_m1 : ∀ k, k < 6 → fk 6 k = -1 := by decide
theorem mu0_RLL (xs : Nat → Int32) : RLL (mu0 xs) (mu0 xs) := by
  have z : ∀ k, k ≠ 63 → k ≠ 37 → k ≠ 35 → k ≠ 39 → mu0 xs k = fun _ => 0 := fun k => mu0_z xs
  have n1 : nT (mu0 xs) = 0 := rfl
  have n2 : nV (mu0 xs) = 0 := rfl
  have n3 : nR (mu0 xs) = 0 := rfl
  have n4 : nB (mu0 xs) = 0 := rfl
  have n5 : nH (mu0 xs) = 0 := rfl
  have n6 : nK (mu0 xs) = 0 := rfl
  refine ⟨?_, ?_, ?_, ?_, ?_, ?_, ?_, ?_, ?_, ?_, ?_, ?_, ?_, ?_⟩
  · exact ⟨rfl, rfl, rfl, rfl, rfl, rfl, rfl, rfl, rfl, rfl, rfl⟩
  · exact ⟨rfl, rfl, rfl, rfl, rfl, rfl, rfl, rfl, rfl, rfl, rfl⟩
  · intro k hk
    rw [n3]
    exact (fk_m1 k hk).trans rfl
  · intro v hv
    rw [n2, if_neg (Nat.not_lt_zero v)]
    rfl
  · intro H hH
    rw [n5] at hH
    exact absurd hH (Nat.not_lt_zero H)
  · intro b hb v hv
    refine ⟨?_, fun _ => rfl⟩
    rw [show mu0 xs 11 v = 0 from rfl, show mu0 xs 50 (120 * b + v) = 0 from rfl, b_0]
    simp
  · intro i h1 h2
    rw [n6] at h2
    exact absurd h2 (Nat.not_lt_zero i)
  · exact Or.inl ⟨rfl, rfl, rfl⟩
  · refine ⟨?_, ?_, ?_, ?_, ?_, ?_, ?_, ?_⟩ <;> (simp only [mu0_39]; decide)
  · intro i hi
    rw [n1] at hi
    exact absurd hi (Nat.not_lt_zero i)
  · intro i hi
    rw [n2] at hi
    exact absurd hi (Nat.not_lt_zero i)
  · intro i hi
    rw [n3] at hi
    exact absurd hi (Nat.not_lt_zero i)
  · intro i hi
    rw [n5] at hi
    exact absurd hi (Nat.not_lt_zero i)
  · intro i
    rw [show mu0 xs 51 i = 0 from rfl]
    decide
