/-! goesOn: jumps against day by day -/
def Eh (ν : Mem) (H : Nat) : Nat := if ν 53 H = -1 then 5001 else (ν 53 H).toNatClampNeg
abbrev lvs (ν : Mem) (set : Int32) (H D : Nat) : Prop := bt set H = true ∧ livP ν H (nI D)
def hu (ν : Mem) (set : Int32) (D : Nat) : Nat → Nat
  | 0 => D
  | k + 1 => if lvs ν set k D then max (hu ν set D k) (Eh ν k) else hu ν set D k
theorem Eh_le {ν : Mem} (h : IE ν) {H : Nat} (hH : H < nH ν) : Eh ν H ≤ 5001 ∧ (if ν 53 H = -1 then (5001 : Int32) else ν 53 H) = nI (Eh ν H) := by
  obtain ⟨-, q⟩ := h H hH
  unfold Eh
  by_cases z : ν 53 H = -1
  · rw [if_pos z, if_pos z]
    exact ⟨Nat.le_refl _, rfl⟩
  · rw [if_neg z, if_neg z]
    rcases q with q | q
    · exact absurd q z
    · obtain ⟨j, hj, he⟩ := nIx (x := ν 53 H) (M := 5000) (n := 5000) rfl q.1 q.2
      have e : (ν 53 H).toNatClampNeg = j := by rw [he]; exact nI_clamp (by omega)
      rw [e]
      exact ⟨by omega, he⟩
theorem lv_E {ν : Mem} (h : IE ν) {H D : Nat} (hH : H < nH ν) (hD : D ≤ 9000) : livP ν H (nI D) ↔ (ν 52 H ≤ nI D ∧ (ν 53 H = -1 ∨ D < Eh ν H)) := by
  obtain ⟨-, q⟩ := h H hH
  unfold livP
  by_cases z : ν 53 H = -1
  · rw [z]
    exact ⟨fun y => ⟨y.1, Or.inl rfl⟩, fun y => ⟨y.1, Or.inl (by decide)⟩⟩
  · rcases q with q | q
    · exact absurd q z
    · obtain ⟨e1, e2⟩ := Eh_le h hH
      rw [if_neg z] at e2
      rw [e2]
      constructor
      · rintro ⟨y1, y2 | y2⟩
        · exact absurd y2 (nI_pos (by omega))
        · exact ⟨y1, Or.inr ((nI_ltI (by omega) (by omega)).mp y2)⟩
      · rintro ⟨y1, y2 | y2⟩
        · rw [← e2] at y2
          exact absurd y2 z
        · exact ⟨y1, Or.inr (nI_lt y2 (by omega))⟩
theorem mx_nI {a b : Nat} (ha : a < 2 ^ 31) (hb : b < 2 ^ 31) : mx (nI a) (nI b) = nI (max a b) := by
  unfold mx
  by_cases q : a < b
  · rw [if_pos (nI_lt q hb), Nat.max_eq_right (by omega)]
  · rw [if_neg (nI_nlt (by omega) ha), Nat.max_eq_left (by omega)]
theorem hu_le {ν : Mem} (h : IE ν) {set : Int32} {D : Nat} : ∀ n, n ≤ nH ν → D ≤ hu ν set D n ∧ hu ν set D n ≤ max D 5001 ∧ (∀ k, k < n → lvs ν set k D → Eh ν k ≤ hu ν set D n) ∧ (hu ν set D n = D ∨ ∃ k, k < n ∧ lvs ν set k D ∧ Eh ν k = hu ν set D n)
  | 0, _ => ⟨Nat.le_refl _, Nat.le_max_left _ _, fun k hk => absurd hk (Nat.not_lt_zero k), Or.inl rfl⟩
  | n + 1, hn => by
    obtain ⟨i1, i2, i3, i4⟩ := hu_le h (set := set) (D := D) n (by omega)
    have e := (Eh_le h (H := n) (by omega)).1
    unfold hu
    by_cases q : lvs ν set n D
    · rw [if_pos q]
      refine ⟨by omega, by omega, fun k hk hl => ?_, ?_⟩
      · by_cases z : k = n
        · rw [z]
          exact Nat.le_max_right _ _
        · have := i3 k (by omega) hl
          omega
      · rcases Nat.le_total (Eh ν n) (hu ν set D n) with z | z
        · rw [Nat.max_eq_left z]
          rcases i4 with y | ⟨k, k1, k2, k3⟩
          · exact Or.inl y
          · exact Or.inr ⟨k, by omega, k2, k3⟩
        · rw [Nat.max_eq_right z]
          exact Or.inr ⟨n, by omega, q, rfl⟩
    · rw [if_neg q]
      refine ⟨i1, i2, fun k hk hl => ?_, ?_⟩
      · by_cases z : k = n
        · rw [z] at hl
          exact absurd hl q
        · exact i3 k (by omega) hl
      · rcases i4 with y | ⟨k, k1, k2, k3⟩
        · exact Or.inl y
        · exact Or.inr ⟨k, by omega, k2, k3⟩
theorem chu_hu {μ ν : Mem} (h : RLL μ ν) {set : Int32} {D : Nat} (hD : D ≤ 9000) : ∀ n, n ≤ nH ν → chu μ set (nI D) n = nI (hu ν set D n)
  | 0, _ => rfl
  | n + 1, hn => by
    have nh : nH ν ≤ 12 := (IA_12 h.2.2.2.2.2.2.2.2.1).2.2.2.2.1
    have ih := chu_hu h (set := set) hD n (by omega)
    have hE := h.2.2.2.2.2.2.2.2.2.2.2.2.1
    have b9 := h.2.1.2.2.2.2.2.2.2.2.1
    obtain ⟨e1, e2⟩ := Eh_le hE (H := n) (by omega)
    obtain ⟨i1, i2, -⟩ := hu_le hE (set := set) (D := D) n (by omega)
    have e : ((set >>> (nI n &&& 31)) &&& 1 = 1 ∧ cliv μ n (nI D)) ↔ lvs ν set n D := by
      rw [shr_bt (by omega), liv_eq h (by omega)]
    have e3 : (if μ 14 n = -1 then (5001 : Int32) else μ 14 n) = nI (Eh ν n) := by rw [congrFun b9 n]; exact e2
    unfold chu hu
    rw [ih, e3]
    by_cases q : lvs ν set n D
    · rw [if_pos (e.mpr q), if_pos q]
      exact mx_nI (by omega) (by omega)
    · rw [if_neg (fun z => q (e.mp z)), if_neg q]
abbrev free (ν : Mem) (set : Int32) (D : Nat) : Prop := rf_living ν set (nI D) = 0
theorem free_iff {ν : Mem} (nh : nH ν ≤ 12) {set : Int32} {D : Nat} : free ν set D ↔ ∀ k, k < nH ν → ¬ lvs ν set k D := by
  constructor
  · intro z k hk hl
    have q := livb (ν := ν) (set := set) (d := nI D) (i := k) (by omega) (nH ν) nh
    have z' : liv ν set (nI D) (nH ν) = 0 := z
    rw [z', b_0, decide_eq_true hk, hl.1, decide_eq_true hl.2] at q
    cases q
  · intro z
    apply b_ext
    intro i hi
    show bt (liv ν set (nI D) (nH ν)) i = _
    rw [livb hi _ nh, b_0]
    by_cases l : i < nH ν
    · cases hb : bt set i
      · simp
      · have : ¬ livP ν i (nI D) := fun y => z i l ⟨hb, y⟩
        rw [decide_eq_false this]
        simp
    · rw [decide_eq_false l]
      simp
def cE (ν : Mem) (D : Nat) : Nat → Nat
  | 0 => 0
  | k + 1 => cE ν D k + (if D < Eh ν k then 1 else 0)
theorem cE_le {ν : Mem} {D : Nat} : ∀ n, cE ν D n ≤ n
  | 0 => Nat.le_refl 0
  | n + 1 => by
    have := cE_le (ν := ν) (D := D) n
    unfold cE
    split <;> omega
theorem cE_mono {ν : Mem} {D U : Nat} (h : D ≤ U) : ∀ n, cE ν U n ≤ cE ν D n
  | 0 => Nat.le_refl 0
  | n + 1 => by
    have := cE_mono (ν := ν) h n
    unfold cE
    split
    · rw [if_pos (by omega)]
      omega
    · omega
theorem cE_lt {ν : Mem} {D U k : Nat} (h : D ≤ U) (h1 : D < Eh ν k) (h2 : ¬ U < Eh ν k) : ∀ n, k < n → cE ν U n < cE ν D n
  | 0, hk => absurd hk (Nat.not_lt_zero k)
  | n + 1, hk => by
    unfold cE
    by_cases q : k = n
    · subst q
      rw [if_neg h2, if_pos h1]
      have := cE_mono (ν := ν) h k
      omega
    · have := cE_lt h h1 h2 n (by omega)
      by_cases z : U < Eh ν n
      · rw [if_pos z, if_pos (by omega)]
        omega
      · rw [if_neg z]
        omega
theorem cE_0 {ν : Mem} {D : Nat} : ∀ n, cE ν D n = 0 → ∀ k, k < n → ¬ D < Eh ν k
  | 0, _, k, hk => absurd hk (Nat.not_lt_zero k)
  | n + 1, h, k, hk => by
    unfold cE at h
    by_cases q : k = n
    · subst q
      intro z
      rw [if_pos z] at h
      omega
    · exact cE_0 n (by omega) k (by omega)
theorem cgo_sim {μ ν : Mem} (h : RLL μ ν) {V : Nat} : ∀ (n D : Nat), D ≤ 9000 → cE ν D (nH ν) ≤ n → ∃ R, cgo μ V n (nI D) = nI R ∧ D ≤ R ∧ R ≤ 9000 ∧ (∀ x, D ≤ x → x < R → x ≤ 5000 → ¬ free ν (μ 10 V) x) ∧ (R ≤ 5000 → free ν (μ 10 V) R)
  | 0, D, hD, hc => by
    have nh : nH ν ≤ 12 := (IA_12 h.2.2.2.2.2.2.2.2.1).2.2.2.2.1
    have hE := h.2.2.2.2.2.2.2.2.2.2.2.2.1
    refine ⟨D, rfl, Nat.le_refl D, hD, fun x x1 x2 => by omega, fun h5 => ?_⟩
    rw [free_iff nh]
    intro k hk hl
    have q := cE_0 (ν := ν) (D := D) (nH ν) (by omega) k hk
    rcases ((lv_E hE hk hD).mp hl.2).2 with z | z
    · have : Eh ν k = 5001 := if_pos z
      omega
    · exact q z
  | n + 1, D, hD, hc => by
    have nh : nH ν ≤ 12 := (IA_12 h.2.2.2.2.2.2.2.2.1).2.2.2.2.1
    have hE := h.2.2.2.2.2.2.2.2.2.2.2.2.1
    obtain ⟨u1, u2, u3, u4⟩ := hu_le hE (set := μ 10 V) (D := D) (nH ν) (Nat.le_refl _)
    have ec : chu μ (μ 10 V) (nI D) (cH μ) = nI (hu ν (μ 10 V) D (nH ν)) := by rw [cH_eq h]; exact chu_hu h hD _ (Nat.le_refl _)
    generalize hu ν (μ 10 V) D (nH ν) = U at *
    unfold cgo
    rw [ec]
    by_cases q : U = D
    · rw [if_pos (by rw [q])]
      refine ⟨D, rfl, Nat.le_refl D, hD, fun x x1 x2 => by omega, fun h5 => ?_⟩
      rw [free_iff nh]
      intro k hk hl
      have y := u3 k hk hl
      rcases ((lv_E hE hk hD).mp hl.2).2 with z | z
      · have : Eh ν k = 5001 := if_pos z
        omega
      · omega
    · have ne : ¬ nI U = nI D := fun z => q ((nI_eq (by omega) (by omega)).mp z)
      rw [if_neg ne]
      rcases u4 with z | ⟨k, k1, k2, k3⟩
      · exact absurd z q
      · have lt := cE_lt (ν := ν) (D := D) (U := U) (k := k) u1 (by omega) (by omega) (nH ν) k1
        obtain ⟨R, r1, r2, r3, r4, r5⟩ := cgo_sim h (V := V) n U (by omega) (by omega)
        refine ⟨R, r1, by omega, r3, fun x x1 x2 x3 => ?_, r5⟩
        by_cases y : U ≤ x
        · exact r4 x y x2 x3
        · rw [free_iff nh]
          intro w
          refine w k k1 ⟨k2.1, (lv_E hE k1 (by omega)).mpr ⟨?_, Or.inr (by omega)⟩⟩
          exact Int32.le_trans k2.2.1 (nI_le x1 (by omega))
theorem gon_sim {ν : Mem} {set : Int32} {R : Nat} : ∀ (f D : Nat), f = 5001 - D → D ≤ R → (∀ x, D ≤ x → x < R → x ≤ 5000 → ¬ free ν set x) → (R ≤ 5000 → free ν set R) → gon ν set f D = if R ≤ 5000 then nI R else -1
  | 0, D, hf, hR, h1, h2 => by
    rw [if_neg (by omega)]
    rfl
  | f + 1, D, hf, hR, h1, h2 => by
    unfold gon
    by_cases q : D = R
    · subst q
      have z := h2 (by omega)
      rw [if_neg (fun y => y z), if_pos (by omega)]
    · rw [if_pos (h1 D (Nat.le_refl D) (by omega) (by omega))]
      exact gon_sim f (D + 1) (by omega) (by omega) (fun x x1 x2 x3 => h1 x (by omega) x2 x3) h2
theorem s_goes {μ ν : Mem} (h : RLL μ ν) {V : Nat} (hV : V < nV ν) : ∃ R, cgs μ V = nI R ∧ R ≤ 9000 ∧ rf_goes ν (nI V) = if R ≤ 5000 then nI R else -1 := by
  obtain ⟨h1, h2, h3, h4, h5, h6, h7, h8, h9, h10, h11, h12, h13, h14⟩ := id h
  obtain ⟨a1, a2, a3, a4, a5, a6, a7, a8, a9, a10, a11⟩ := id h1
  obtain ⟨b1, b2, b3, b4, b5, b6, b7, b8, b9, b10, b11⟩ := id h2
  obtain ⟨nt, nv, nr, nb, nh, et, ev, er, eb, eh⟩ := IA_12 h9
  obtain ⟨t1, t2⟩ := s_term h hV
  have z := h4 V (by omega)
  rw [if_pos hV] at z
  obtain ⟨C, hC, hCe⟩ := nIx (x := ν 39 0) (M := 5000) (n := 5000) rfl h9.2.2.2.2.2.2.1.1 h9.2.2.2.2.2.2.1.2
  have key : ∀ D, cdf μ V = nI D → D ≤ 9000 → ∃ R, cgs μ V = nI R ∧ D ≤ R ∧ R ≤ 9000 ∧ gon ν (rf_fitting ν (nI V)) (5001 - D) D = if R ≤ 5000 then nI R else -1 := fun D e1 e2 => by
    obtain ⟨R, r1, r2, r3, r4, r5⟩ := cgo_sim h (V := V) (nH ν) D e2 (cE_le _)
    rw [z] at r4 r5
    refine ⟨R, ?_, r2, r3, gon_sim _ D rfl r2 r4 r5⟩
    unfold cgs
    rw [cH_eq h, e1]
    exact r1
  unfold rf_goes gd0
  by_cases due : rf_due ν (nI V) (ν 39 0)
  · have e1 : cdf μ V = nI C := by
      rw [due_def (by omega)] at due
      rw [cdf, t1, a3, b2, b4, a1]
      by_cases w : (ν 39 11 >>> (ν 41 (ν 43 V).toNatClampNeg &&& 31)) &&& 1 = 1
      · rw [if_pos w]
        exact hCe
      · rw [if_neg w]
        rcases due with y | y
        · exact absurd y w
        · rw [if_neg (by have := y.1; grind), mx]
          split
          · exact hCe
          · have : rf_term ν (nI V) = ν 39 0 := by have := y.2; grind
            rw [this]
            exact hCe
    obtain ⟨R, r1, r2, r3, r4⟩ := key C e1 (by omega)
    refine ⟨R, r1, r3, ?_⟩
    rw [if_pos due, hCe, if_neg (nI_pos (by omega)), nI_clamp (by omega)]
    exact r4
  · rw [if_neg due]
    have due' := due
    rw [due_def (by omega)] at due'
    have w : ¬ (ν 39 11 >>> (ν 41 (ν 43 V).toNatClampNeg &&& 31)) &&& 1 = 1 := fun y => due' (Or.inl y)
    rcases t2 with q | q
    · have e1 : cdf μ V = nI 5001 := by
        rw [cdf, t1, a3, b2, b4, a1, if_neg w, if_pos q]
        rfl
      obtain ⟨R, r1, r2, r3, r4⟩ := key 5001 e1 (by omega)
      refine ⟨R, r1, r3, ?_⟩
      rw [q, if_pos (by decide), if_neg (by omega)]
    · obtain ⟨D, hD, hDe⟩ := nIx (x := rf_term ν (nI V)) (M := 9000) (n := 9000) rfl q.1 q.2
      have lt : ν 39 0 < rf_term ν (nI V) := by
        have : ¬ rf_term ν (nI V) ≤ ν 39 0 := fun y => due' (Or.inr ⟨q.1, y⟩)
        grind
      have e1 : cdf μ V = nI D := by
        rw [cdf, t1, a3, b2, b4, a1, if_neg w, if_neg (by have := q.1; grind), mx, if_neg (by grind)]
        exact hDe
      obtain ⟨R, r1, r2, r3, r4⟩ := key D e1 hD
      refine ⟨R, r1, r3, ?_⟩
      rw [hDe, if_neg (nI_pos (by omega)), nI_clamp (by omega)]
      exact r4
/-! would, versionOf, about -/
theorem s_would {μ ν : Mem} (h : RLL μ ν) (d w : Int32) : cf_would μ d w = rf_would ν d w := by
  obtain ⟨h1, h2, h3, h4, h5, h6, h7, h8, h9, h10, h11, h12, h13, h14⟩ := id h
  obtain ⟨a1, a2, a3, a4, a5, a6, a7, a8, a9, a10, a11⟩ := id h1
  obtain ⟨b1, b2, b3, b4, b5, b6, b7, b8, b9, b10, b11⟩ := id h2
  obtain ⟨nt, nv, nr, nb, nh, et, ev, er, eb, eh⟩ := IA_12 h9
  unfold cf_would rf_would
  rw [a1, a7]
  by_cases ok : (ν 39 0 ≤ d ∧ d ≤ 5000) ∧ (0 ≤ w ∧ w ≤ 1)
  · rw [if_pos ok, if_pos ok]
    refine cnt_eq _ (fun k hk => ?_)
    have hk' : k < nV ν := hk
    obtain ⟨R, r1, r2, r3⟩ := s_goes h hk'
    unfold cwd fwd
    rw [b7]
    congr 1
    apply propext
    rw [s_due h hk' ok.1.1 ok.1.2, r1, r3]
    have e : d < nI R ↔ ((if R ≤ 5000 then nI R else -1) < 0 ∨ d < (if R ≤ 5000 then nI R else -1)) := by
      by_cases q : R ≤ 5000
      · rw [if_pos q]
        exact ⟨fun y => Or.inr y, fun y => y.elim (fun z => absurd z (nI_pos (by omega))) id⟩
      · rw [if_neg q]
        refine ⟨fun _ => Or.inl (by decide), fun _ => ?_⟩
        have : nI 5000 < nI R := nI_lt (by omega) (by omega)
        exact Int32.lt_of_le_of_lt ok.1.2 this
    rw [e]
  · rw [if_neg ok, if_neg ok]
theorem s_vof {μ ν : Mem} (h : RLL μ ν) (v w : Int32) : cf_vof μ v w = rf_vof ν v w := by
  obtain ⟨h1, h2, h3, h4, h5, h6, h7, h8, h9, h10, h11, h12, h13, h14⟩ := id h
  obtain ⟨a1, a2, a3, a4, a5, a6, a7, a8, a9, a10, a11⟩ := id h1
  obtain ⟨b1, b2, b3, b4, b5, b6, b7, b8, b9, b10, b11⟩ := id h2
  obtain ⟨nt, nv, nr, nb, nh, et, ev, er, eb, eh⟩ := IA_12 h9
  have e : (0 ≤ v ∧ v < μ 5 6) ↔ (0 ≤ v ∧ v ≤ ν 39 5 - 1) := by
    rw [a7]
    have := h9.2.1
    grind
  unfold cf_vof rf_vof
  by_cases ok : 0 ≤ v ∧ v ≤ ν 39 5 - 1
  · rw [if_pos (e.mpr ok), if_pos ok]
    obtain ⟨V, hV, hVe, hVc⟩ := v_lt h9 ok
    have y6 : μ 6 V = ν 43 V := by rw [b4]
    have y7 : μ 7 V = ν 44 V := by rw [b5]
    have y8 : μ 8 V = ν 45 V := by rw [b6]
    have y9 : μ 9 V = ν 46 V := by rw [b7]
    unfold cvc vofc
    obtain ⟨R, r1, r2, r3⟩ := s_goes h hV
    have x4 := s_cvl h hV
    have x5 := (s_term h hV).1
    have x6 : bz (cdf μ V ≤ μ 0 13) = bz (rf_due ν v (ν 39 0)) := by
      have y := s_due h hV (Int32.le_refl (ν 39 0)) h9.2.2.2.2.2.2.1.2
      rw [hVe, a1]
      unfold bz
      by_cases q : rf_due ν (nI V) (ν 39 0)
      · rw [if_pos (y.mpr q), if_pos q]
      · rw [if_neg (fun z => q (y.mp z)), if_neg q]
    have x7 : (if cgs μ V ≤ 5000 then cgs μ V else -1) = rf_goes ν v := by
      rw [hVe, r3, r1]
      by_cases q : R ≤ 5000
      · rw [if_pos q, if_pos (show nI R ≤ 5000 from nI_le (b := 5000) q (by decide))]
      · rw [if_neg q, if_neg (show ¬ nI R ≤ 5000 from nI_ge (a := 5000) (by omega) (by omega))]
    have x4' : (μ 10 V &&& cvl μ) = rf_living ν (rf_fitting ν v) (ν 39 0) := by rw [hVe]; exact x4
    have x5' : ctm μ V = rf_term ν v := by rw [hVe]; exact x5
    simp only [hVc, y6, y7, y8, y9, x4', x5', x6, x7]
  · rw [if_neg (fun z => ok (e.mp z)), if_neg ok]
theorem held_iff {μ ν : Mem} (h : RLL μ ν) {k : Nat} (hk : k < nV ν) : rf_held ν (nI k) (ν 39 0) ↔ ¬ (μ 10 k &&& cvl μ) = 0 := by
  rw [s_cvl h hk]
theorem abx3 {w T : Int32} (t2 : 0 ≤ T) (t3 : T ≤ 40) : ((¬ w < 20 ∧ (0 ≤ w - 60 ∧ w - 60 < T)) ↔ (60 ≤ w ∧ w ≤ 59 + T)) ∧ ((¬ w < 20 ∧ (0 ≤ w - 20 ∧ w - 20 < T)) ↔ (20 ≤ w ∧ w ≤ 19 + T)) ∧ ((60 ≤ w ∧ w ≤ 59 + T) → ¬ (20 ≤ w ∧ w ≤ 19 + T)) := by
  simp only [Int32.le_iff_toInt_le, Int32.lt_iff_toInt_lt, Int32.toInt_sub, Int32.toInt_add, Int32.reduceToInt, Int.bmod_def] at *
  have := w.toInt_lt
  have := w.le_toInt
  refine ⟨?_, ?_, ?_⟩ <;> omega
theorem ab_small {w T : Int32} (t2 : 0 ≤ T) (t3 : T ≤ 40) (h : w < 20) : ¬ (20 ≤ w ∧ w ≤ 19 + T) ∧ ¬ (60 ≤ w ∧ w ≤ 59 + T) := by
  refine ⟨fun z => ?_, fun z => ?_⟩ <;> grind
theorem s_caw {μ ν : Mem} (h : RLL μ ν) (w : Int32) : caw μ w = if 20 ≤ w ∧ w ≤ 19 + ν 39 1 then ν 41 (w - 20).toNatClampNeg else if 60 ≤ w ∧ w ≤ 59 + ν 39 1 then ν 42 (w - 60).toNatClampNeg else -1 := by
  obtain ⟨h1, h2, h3, h4, h5, h6, h7, h8, h9, h10, h11, h12, h13, h14⟩ := id h
  obtain ⟨a1, a2, a3, a4, a5, a6, a7, a8, a9, a10, a11⟩ := id h1
  obtain ⟨b1, b2, b3, b4, b5, b6, b7, b8, b9, b10, b11⟩ := id h2
  obtain ⟨nt, nv, nr, nb, nh, et, ev, er, eb, eh⟩ := IA_12 h9
  obtain ⟨x1, x2, x3⟩ := abx3 (w := w) h9.1.1 h9.1.2
  unfold caw
  rw [a6, b2, b3]
  by_cases c0 : w < 20
  · obtain ⟨y1, y2⟩ := ab_small h9.1.1 h9.1.2 c0
    rw [if_pos c0, if_neg y1, if_neg y2]
  · rw [if_neg c0]
    by_cases c1 : 60 ≤ w ∧ w ≤ 59 + ν 39 1
    · rw [if_pos (x1.mpr c1).2, if_neg (x3 c1), if_pos c1]
    · rw [if_neg (fun z => c1 (x1.mp ⟨c0, z⟩)), if_neg c1]
      by_cases c2 : 20 ≤ w ∧ w ≤ 19 + ν 39 1
      · rw [if_pos (x2.mpr c2).2, if_pos c2]
      · rw [if_neg (fun z => c2 (x2.mp ⟨c0, z⟩)), if_neg c2]
theorem s_about {μ ν : Mem} (h : RLL μ ν) (w : Int32) : cac μ w = rf_about ν w := by
  obtain ⟨h1, h2, h3, h4, h5, h6, h7, h8, h9, h10, h11, h12, h13, h14⟩ := id h
  obtain ⟨a1, a2, a3, a4, a5, a6, a7, a8, a9, a10, a11⟩ := id h1
  obtain ⟨b1, b2, b3, b4, b5, b6, b7, b8, b9, b10, b11⟩ := id h2
  obtain ⟨nt, nv, nr, nb, nh, et, ev, er, eb, eh⟩ := IA_12 h9
  have en : (ν 39 5).toNatClampNeg = nV ν := rfl
  have c6 : cnt (ct6 μ) (nV ν) = cnt (fab6 ν) (nV ν) := cnt_eq _ (fun k hk => by unfold ct6 fab6; rw [b7])
  have c7 : cnt (ct7 μ) (nV ν) = cnt (fab7 ν) (nV ν) := cnt_eq _ (fun k hk => by
    unfold ct7 fab7 cwc
    rw [b7, a2, a1]
    congr 1
    apply propext
    rw [s_due h hk (Int32.le_refl _) h9.2.2.2.2.2.2.1.2, held_iff h hk, Classical.not_not])
  have c8 : cnt (ct8 μ) (nV ν) = cnt (fab8 ν) (nV ν) := cnt_eq _ (fun k hk => by
    unfold ct8 fab8
    rw [b7]
    congr 1
    apply propext
    rw [held_iff h hk])
  unfold cac rf_about abc
  rw [a1, a2, a4, a6, a7, a8, a9, a10, en, c6, c7, c8, s_caw h]
  have small : ∀ x : Int32, x < 20 → w = x → ¬ (20 ≤ w ∧ w ≤ 19 + ν 39 1) ∧ ¬ (60 ≤ w ∧ w ≤ 59 + ν 39 1) := fun x hx hw => ab_small h9.1.1 h9.1.2 (by rw [hw]; exact hx)
  by_cases q0 : w = 0
  · obtain ⟨y1, y2⟩ := small 0 (by decide) q0
    rw [if_pos q0, if_neg y1, if_neg y2, if_pos q0]
  rw [if_neg q0, if_neg q0]
  by_cases q1 : w = 1
  · obtain ⟨y1, y2⟩ := small 1 (by decide) q1
    rw [if_pos q1, if_neg y1, if_neg y2, if_pos q1]
  rw [if_neg q1, if_neg q1]
  by_cases q2 : w = 2
  · obtain ⟨y1, y2⟩ := small 2 (by decide) q2
    rw [if_pos q2, if_neg y1, if_neg y2, if_pos q2]
  rw [if_neg q2, if_neg q2]
  by_cases q3 : w = 3
  · obtain ⟨y1, y2⟩ := small 3 (by decide) q3
    rw [if_pos q3, if_neg y1, if_neg y2, if_pos q3]
  rw [if_neg q3, if_neg q3]
  by_cases q4 : w = 4
  · obtain ⟨y1, y2⟩ := small 4 (by decide) q4
    rw [if_pos q4, if_neg y1, if_neg y2, if_pos q4]
  rw [if_neg q4, if_neg q4]
  by_cases q5 : w = 5
  · obtain ⟨y1, y2⟩ := small 5 (by decide) q5
    rw [if_pos q5, if_neg y1, if_neg y2, if_pos q5]
  rw [if_neg q5, if_neg q5]
  by_cases q6 : w = 6
  · obtain ⟨y1, y2⟩ := small 6 (by decide) q6
    rw [if_pos q6, if_neg y1, if_neg y2, if_pos q6]
  rw [if_neg q6, if_neg q6]
  by_cases q7 : w = 7
  · obtain ⟨y1, y2⟩ := small 7 (by decide) q7
    rw [if_pos q7, if_neg y1, if_neg y2, if_pos q7]
  rw [if_neg q7, if_neg q7]
  by_cases q8 : w = 8
  · obtain ⟨y1, y2⟩ := small 8 (by decide) q8
    rw [if_pos q8, if_neg y1, if_neg y2, if_pos q8]
  rw [if_neg q8, if_neg q8]
  by_cases q9 : w = 9
  · obtain ⟨y1, y2⟩ := small 9 (by decide) q9
    rw [if_pos q9, if_neg y1, if_neg y2, if_pos q9]
  rw [if_neg q9, if_neg q9]
  by_cases q10 : w = 10
  · obtain ⟨y1, y2⟩ := small 10 (by decide) q10
    rw [if_pos q10, if_neg y1, if_neg y2, if_pos q10]
  rw [if_neg q10, if_neg q10]
