/-! what is asked: fits, fit, living, terms, dues -/
theorem fit_bit {μ ν : Mem} (h : RLL μ ν) {H k : Nat} (hH : H < nH ν) (hk : k < nV ν) : ((μ 10 k >>> (nI H &&& 31)) &&& 1 = 1) ↔ rf_fit ν H (nI k) = true := by
  obtain ⟨nt, nv, nr, nb, nh, et, ev, er, eb, eh⟩ := IA_12 h.2.2.2.2.2.2.2.2.1
  have z := h.2.2.2.1 k (by omega)
  rw [if_pos hk] at z
  rw [shr_bt (by omega), z]
  show bt (fts ν (nI k) (nH ν)) H = true ↔ _
  rw [fts_bt (by omega) _ nh, decide_eq_true hH, Bool.true_and]
theorem cfp_eq {μ ν : Mem} (h : RLL μ ν) {H k : Nat} (hH : H < nH ν) (hk : k < nV ν) : cfp μ (nI H) k = decide (¬ ν 46 k = 0 ∧ rf_fit ν H (nI k) = true) := by
  have b7 := h.2.1.2.2.2.2.2.2.1
  unfold cfp
  rw [b7]
  congr 1
  apply propext
  rw [fit_bit h hH hk]
theorem cnt_eq {f g : Nat → Bool} : ∀ n, (∀ k, k < n → f k = g k) → cnt f n = cnt g n
  | 0, _ => rfl
  | n + 1, h => by rw [cnt_s, cnt_s, cnt_eq n (fun k hk => h k (by omega)), h n (by omega)]
theorem fsc_cnt {ν : Mem} {H : Nat} : ∀ n, fsc ν H n = cnt (fun k => decide (¬ ν 46 k = 0 ∧ rf_fit ν H (nI k) = true)) n
  | 0 => rfl
  | n + 1 => by
    unfold fsc
    rw [cnt_s, fsc_cnt n]
    simp only [decide_eq_true_eq]
theorem s_fits {μ ν : Mem} (h : RLL μ ν) (x : Int32) : cf_fits μ x = rf_fits ν x := by
  obtain ⟨h1, h2, h3, h4, h5, h6, h7, h8, h9, h10, h11, h12, h13, h14⟩ := id h
  obtain ⟨a1, a2, a3, a4, a5, a6, a7, a8, a9, a10, a11⟩ := id h1
  obtain ⟨b1, b2, b3, b4, b5, b6, b7, b8, b9, b10, b11⟩ := id h2
  obtain ⟨nt, nv, nr, nb, nh, et, ev, er, eb, eh⟩ := IA_12 h9
  have e : (0 ≤ x ∧ x < μ 12 2) ↔ (0 ≤ x ∧ x ≤ ν 39 20 - 1) := by
    rw [a8]
    have := h9.2.2.2.2.2.1
    grind
  unfold cf_fits rf_fits
  by_cases ok : 0 ≤ x ∧ x ≤ ν 39 20 - 1
  · rw [if_pos (e.mpr ok), if_pos ok]
    obtain ⟨H, hH, he, hc⟩ := h_lt h9 ok
    rw [hc, he, a7, fsc_cnt]
    exact cnt_eq _ (fun k hk => cfp_eq h hH hk)
  · rw [if_neg (fun z => ok (e.mp z)), if_neg ok]
theorem cfx_eq {μ ν : Mem} (h : RLL μ ν) {H : Nat} (hH : H < nH ν) (i : Int32) : ∀ f k, k + f ≤ nV ν → cfx μ (nI H) i f k = ftx ν H i f k
  | 0, _, _ => rfl
  | f + 1, k, hk => by
    have ih := cfx_eq h hH i f (k + 1) (by omega)
    have e1 := cfp_eq h hH (k := k) (by omega)
    have e2 : cnt (cfp μ (nI H)) k = fsc ν H k := by
      rw [fsc_cnt]
      exact cnt_eq _ (fun j hj => cfp_eq h hH (by omega))
    unfold cfx ftx
    rw [ih, e1, e2]
    simp only [decide_eq_true_eq]
theorem ftx_neg {ν : Mem} {H : Nat} {i : Int32} (hi : i < 0) : ∀ f k, k + f ≤ 120 → ftx ν H i f k = -1
  | 0, _, _ => rfl
  | f + 1, k, hk => by
    unfold ftx
    rw [if_neg, ftx_neg hi f (k + 1) (by omega)]
    rintro ⟨-, q⟩
    rw [fsc_cnt] at q
    have c := (cnt_le (f := fun k => decide (¬ ν 46 k = 0 ∧ rf_fit ν H (nI k) = true)) k (by omega)).1
    rw [q] at c
    have : i.toInt < 0 := by simpa [Int32.lt_iff_toInt_lt] using hi
    omega
theorem s_fit {μ ν : Mem} (h : RLL μ ν) (x i : Int32) : cf_fit μ x i = rf_ith ν x i := by
  obtain ⟨h1, h2, h3, h4, h5, h6, h7, h8, h9, h10, h11, h12, h13, h14⟩ := id h
  obtain ⟨a1, a2, a3, a4, a5, a6, a7, a8, a9, a10, a11⟩ := id h1
  obtain ⟨b1, b2, b3, b4, b5, b6, b7, b8, b9, b10, b11⟩ := id h2
  obtain ⟨nt, nv, nr, nb, nh, et, ev, er, eb, eh⟩ := IA_12 h9
  have e : (0 ≤ x ∧ x < μ 12 2) ↔ (0 ≤ x ∧ x ≤ ν 39 20 - 1) := by
    rw [a8]
    have := h9.2.2.2.2.2.1
    grind
  unfold cf_fit rf_ith
  by_cases ok : 0 ≤ x ∧ x ≤ ν 39 20 - 1
  · rw [if_pos (e.mpr ok), if_pos ok]
    obtain ⟨H, hH, he, hc⟩ := h_lt h9 ok
    rw [hc, he, a7]
    by_cases q : 0 ≤ i
    · rw [if_pos q]
      exact cfx_eq h hH i (nV ν) 0 (by omega)
    · rw [if_neg q]
      exact (ftx_neg (by grind) (nV ν) 0 (by omega)).symm
  · rw [if_neg (fun z => ok (e.mp z)), if_neg ok]
/-! living -/
theorem liv_eq {μ ν : Mem} (h : RLL μ ν) {H : Nat} (hH : H < nH ν) (d : Int32) : cliv μ H d ↔ livP ν H d := by
  have b8 := h.2.1.2.2.2.2.2.2.2.1
  obtain ⟨-, q⟩ := h.2.2.2.2.2.2.2.2.2.2.2.2.1 H hH
  unfold cliv livP
  rw [s_cov h hH, b8]
  rcases q with q | q
  · rw [q]
    constructor
    · exact fun z => ⟨z.1, Or.inl (by decide)⟩
    · exact fun z => ⟨z.1, fun y => absurd y.1 (by decide)⟩
  · constructor
    · exact fun z => ⟨z.1, Or.inr (by have := z.2; grind)⟩
    · exact fun z => ⟨z.1, fun y => by rcases z.2 with w | w <;> grind⟩
theorem clo_bt {μ : Mem} {d : Int32} {i : Nat} (hi : i < 32) : ∀ n, n ≤ 12 → bt (clo μ d n) i = (decide (i < n) && decide (cliv μ i d))
  | 0, _ => by
    rw [decide_eq_false (Nat.not_lt_zero i)]
    exact b_0 i
  | n + 1, hn => by
    have ih := clo_bt (μ := μ) (d := d) hi n (by omega)
    unfold clo
    by_cases q : i = n
    · subst q
      by_cases c : cliv μ i d
      · rw [if_pos c, b_or, bt_sh (by omega) hi, decide_eq_true c]
        simp
      · rw [if_neg c, ih, decide_eq_false c]
        simp
    · have e2 : decide (i < n + 1) = decide (i < n) := by
        by_cases l : i < n
        · rw [decide_eq_true l, decide_eq_true (by omega)]
        · rw [decide_eq_false l, decide_eq_false (by omega)]
      rw [e2]
      split
      · rw [b_or, ih, bt_sh (by omega) hi, decide_eq_false q, Bool.or_false]
      · exact ih
theorem livb {ν : Mem} {set d : Int32} {i : Nat} (hi : i < 32) : ∀ n, n ≤ 12 → bt (liv ν set d n) i = (decide (i < n) && (bt set i && decide (livP ν i d)))
  | 0, _ => by
    rw [decide_eq_false (Nat.not_lt_zero i)]
    exact b_0 i
  | n + 1, hn => by
    have ih := livb (ν := ν) (set := set) (d := d) hi n (by omega)
    unfold liv
    rw [b_or, ih]
    by_cases q : i = n
    · subst q
      by_cases c : (set >>> (nI i &&& 31)) &&& 1 = 1 ∧ livP ν i d
      · rw [if_pos c, bt_sh (by omega) hi, (shr_bt (by omega)).mp c.1, decide_eq_true c.2]
        simp
      · rw [if_neg c, b_0]
        have e : (bt set i && decide (livP ν i d)) = false := by
          cases hb : bt set i
          · rfl
          · exact decide_eq_false (fun y => c ⟨(shr_bt (by omega)).mpr hb, y⟩)
        rw [e]
        simp
    · have e1 : bt (if (set >>> (nI n &&& 31)) &&& 1 = 1 ∧ livP ν n d then (1 : Int32) <<< (nI n &&& 31) else 0) i = false := by
        split
        · rw [bt_sh (by omega) hi, decide_eq_false q]
        · exact b_0 i
      have e2 : decide (i < n + 1) = decide (i < n) := by
        by_cases l : i < n
        · rw [decide_eq_true l, decide_eq_true (by omega)]
        · rw [decide_eq_false l, decide_eq_false (by omega)]
      rw [e1, e2, Bool.or_false]
theorem s_living {μ ν : Mem} (h : RLL μ ν) (set d : Int32) : (set &&& clo μ d (nH ν)) = rf_living ν set d := by
  obtain ⟨nt, nv, nr, nb, nh, et, ev, er, eb, eh⟩ := IA_12 h.2.2.2.2.2.2.2.2.1
  apply b_ext
  intro i hi
  show _ = bt (liv ν set d (nH ν)) i
  rw [b_and, clo_bt hi _ nh, livb hi _ nh]
  by_cases l : i < nH ν
  · rw [decide_eq_true l]
    have e : decide (cliv μ i d) = decide (livP ν i d) := decide_eq_decide.mpr (liv_eq h l d)
    rw [e]
    simp
  · rw [decide_eq_false l]
    simp
theorem cH_eq {μ ν : Mem} (h : RLL μ ν) : cH μ = nH ν := by rw [cH, h.1.2.2.2.2.2.2.2.1]; rfl
theorem s_cvl {μ ν : Mem} (h : RLL μ ν) {V : Nat} (hV : V < nV ν) : (μ 10 V &&& cvl μ) = rf_living ν (rf_fitting ν (nI V)) (ν 39 0) := by
  have nv := (IA_12 h.2.2.2.2.2.2.2.2.1).2.1
  have z := h.2.2.2.1 V (by omega)
  rw [if_pos hV] at z
  rw [z, cvl, cH_eq h, h.1.1]
  exact s_living h _ _
/-! terms -/
theorem mMost_rng {ν : Mem} (h : ID ν) {kd : Int32} : ∀ n, n ≤ nR ν → mMost ν kd n = -1 ∨ (0 ≤ mMost ν kd n ∧ mMost ν kd n ≤ 4000)
  | 0, _ => Or.inl rfl
  | n + 1, hn => by
    rw [mMost_s]
    split
    · exact Or.inr (h n (by omega))
    · exact mMost_rng h n (by omega)
def mst (ν : Mem) (V : Nat) : Int32 := mMost ν (ν 40 (ν 43 V).toNatClampNeg) (nR ν)
theorem s_clr {μ ν : Mem} (h : RLL μ ν) {V : Nat} (hV : V < nV ν) : clr μ V = mst ν V := by
  obtain ⟨h1, h2, h3, h4, h5, h6, h7, h8, h9, h10, h11, h12, h13, h14⟩ := id h
  obtain ⟨a1, a2, a3, a4, a5, a6, a7, a8, a9, a10, a11⟩ := id h1
  obtain ⟨b1, b2, b3, b4, b5, b6, b7, b8, b9, b10, b11⟩ := id h2
  obtain ⟨nt, nv, nr, nb, nh, et, ev, er, eb, eh⟩ := IA_12 h9
  have q1 := h11 V hV
  have q2 : (ν 43 V).toNatClampNeg < nT ν := cl_ne et (by omega) q1.1.1 q1.1.2
  have q3 := h10 _ q2
  obtain ⟨k, hk, hke⟩ := nIx (x := ν 40 (ν 43 V).toNatClampNeg) (M := 5) (n := 5) rfl q3.1 (by have := q3.2; grind)
  unfold clr mst
  rw [b4, b1, hke, nI_clamp (by omega)]
  exact h3 k (by omega)
theorem mst_rng {μ ν : Mem} (h : RLL μ ν) (V : Nat) : mst ν V = -1 ∨ (0 ≤ mst ν V ∧ mst ν V ≤ 4000) := mMost_rng h.2.2.2.2.2.2.2.2.2.2.2.1 _ (Nat.le_refl _)
theorem add_t {x y : Int32} (x0 : 0 ≤ x) (x1 : x ≤ 5000) (y0 : 0 ≤ y) (y1 : y ≤ 4000) : 0 ≤ x + y ∧ x + y ≤ 9000 := by grind
theorem rf_term_mst {ν : Mem} {V : Nat} (hV : V < 120) : rf_term ν (nI V) = if mst ν V < 0 then -1 else ν 45 V + mst ν V := by
  have e : (nI V).toNatClampNeg = V := nI_clamp (by omega)
  unfold rf_term
  rw [e]
  rfl
theorem s_term {μ ν : Mem} (h : RLL μ ν) {V : Nat} (hV : V < nV ν) : ctm μ V = rf_term ν (nI V) ∧ (rf_term ν (nI V) = -1 ∨ (0 ≤ rf_term ν (nI V) ∧ rf_term ν (nI V) ≤ 9000)) := by
  obtain ⟨h1, h2, h3, h4, h5, h6, h7, h8, h9, h10, h11, h12, h13, h14⟩ := id h
  obtain ⟨a1, a2, a3, a4, a5, a6, a7, a8, a9, a10, a11⟩ := id h1
  obtain ⟨b1, b2, b3, b4, b5, b6, b7, b8, b9, b10, b11⟩ := id h2
  obtain ⟨nt, nv, nr, nb, nh, et, ev, er, eb, eh⟩ := IA_12 h9
  have q1 := h11 V hV
  rw [rf_term_mst (by omega), ctm, s_clr h hV, b6]
  rcases mst_rng h V with q | q
  · rw [if_pos q, if_pos (by rw [q]; decide)]
    exact ⟨rfl, Or.inl rfl⟩
  · rw [if_neg (by grind), if_neg (by grind)]
    exact ⟨rfl, Or.inr (add_t q1.2.1.1 (Int32.le_trans q1.2.1.2 h9.2.2.2.2.2.2.1.2) q.1 q.2)⟩
theorem s_T9 {μ ν : Mem} (h : RLL μ ν) : T9 ν := by
  intro i hi
  rcases (s_term h hi).2 with q | q
  · rw [q]; decide
  · exact q.2
theorem due_def {ν : Mem} {V : Nat} (hV : V < 120) (d : Int32) : rf_due ν (nI V) d ↔ ((ν 39 11 >>> (ν 41 (ν 43 V).toNatClampNeg &&& 31)) &&& 1 = 1 ∨ (0 ≤ rf_term ν (nI V) ∧ rf_term ν (nI V) ≤ d)) := by
  have e : (nI V).toNatClampNeg = V := nI_clamp (by omega)
  unfold rf_due
  rw [e]
theorem s_due {μ ν : Mem} (h : RLL μ ν) {V : Nat} (hV : V < nV ν) {d : Int32} (d0 : ν 39 0 ≤ d) (d1 : d ≤ 5000) : cdf μ V ≤ d ↔ rf_due ν (nI V) d := by
  obtain ⟨h1, h2, h3, h4, h5, h6, h7, h8, h9, h10, h11, h12, h13, h14⟩ := id h
  obtain ⟨a1, a2, a3, a4, a5, a6, a7, a8, a9, a10, a11⟩ := id h1
  obtain ⟨b1, b2, b3, b4, b5, b6, b7, b8, b9, b10, b11⟩ := id h2
  obtain ⟨nt, nv, nr, nb, nh, et, ev, er, eb, eh⟩ := IA_12 h9
  obtain ⟨t1, t2⟩ := s_term h hV
  rw [due_def (by omega), cdf, t1, a3, b2, b4, a1]
  by_cases w : (ν 39 11 >>> (ν 41 (ν 43 V).toNatClampNeg &&& 31)) &&& 1 = 1
  · rw [if_pos w]
    exact ⟨fun _ => Or.inl w, fun _ => d0⟩
  · rw [if_neg w]
    rcases t2 with q | q
    · rw [q, if_pos rfl]
      constructor
      · intro z
        exact absurd (Int32.le_trans z d1) (by decide)
      · rintro (z | z)
        · exact absurd z w
        · exact absurd z.1 (by decide)
    · rw [if_neg (by grind), mx]
      constructor
      · intro z
        right
        refine ⟨q.1, ?_⟩
        split at z <;> grind
      · rintro (z | z)
        · exact absurd z w
        · split
          · exact d0
          · exact z.2
theorem s_COk {μ ν : Mem} (h : RLL μ ν) : CsOk μ := by
  obtain ⟨h1, h2, h3, h4, h5, h6, h7, h8, h9, h10, h11, h12, h13, h14⟩ := id h
  obtain ⟨a1, a2, a3, a4, a5, a6, a7, a8, a9, a10, a11⟩ := id h1
  obtain ⟨b1, b2, b3, b4, b5, b6, b7, b8, b9, b10, b11⟩ := id h2
  obtain ⟨nt, nv, nr, nb, nh, et, ev, er, eb, eh⟩ := IA_12 h9
  intro V hV
  have hV' : V < nV ν := by rw [a7] at hV; exact hV
  have q1 := h11 V hV'
  have q2 : (ν 43 V).toNatClampNeg < nT ν := cl_ne et (by omega) q1.1.1 q1.1.2
  have q3 := h10 _ q2
  unfold COk
  rw [b4, b1]
  exact ⟨q1.1.1, by have := h9.1.2; have := q1.1.2; grind, q3.1, q3.2⟩
theorem s_VsOk {μ ν : Mem} (h : RLL μ ν) : VsOk ν := by
  obtain ⟨h1, h2, h3, h4, h5, h6, h7, h8, h9, h10, h11, h12, h13, h14⟩ := id h
  obtain ⟨a1, a2, a3, a4, a5, a6, a7, a8, a9, a10, a11⟩ := id h1
  obtain ⟨b1, b2, b3, b4, b5, b6, b7, b8, b9, b10, b11⟩ := id h2
  obtain ⟨nt, nv, nr, nb, nh, et, ev, er, eb, eh⟩ := IA_12 h9
  intro V hV
  have q1 := h11 V hV
  exact ⟨q1.1.1, by have := h9.1.2; have := q1.1.2; grind⟩
theorem s_TsOk {μ ν : Mem} (h : RLL μ ν) : TsOk ν := fun i hi => TR_TOk (h.2.2.2.2.1 i hi)
theorem s_CTk {μ ν : Mem} (h : RLL μ ν) : ∀ i, i < cH μ → CTk μ i := fun i hi => TR_CTk (h.2.2.2.2.1 i (by rw [cH_eq h] at hi; exact hi))
theorem s_KOk {μ ν : Mem} (h : RLL μ ν) : KOk μ := by
  obtain ⟨h1, h2, h3, h4, h5, h6, h7, h8, h9, h10, h11, h12, h13, h14⟩ := id h
  obtain ⟨a1, a2, a3, a4, a5, a6, a7, a8, a9, a10, a11⟩ := id h1
  obtain ⟨b1, b2, b3, b4, b5, b6, b7, b8, b9, b10, b11⟩ := id h2
  obtain ⟨nt, nv, nr, nb, nh, et, ev, er, eb, eh⟩ := IA_12 h9
  intro i hi
  rw [a6] at hi
  rw [b1]
  exact h10 i hi
