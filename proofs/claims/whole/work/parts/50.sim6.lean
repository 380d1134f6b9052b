/-! both readers: the whole text -/
theorem skp_ne {ν : Mem} {a : Nat} (h : a ≠ 39) : skp ν a = ν a := by funext j; exact skM_k (Or.inl h) _ _
theorem skp_j {ν : Mem} {j : Nat} (h : j ≠ 29) : skp ν 39 j = ν 39 j := skM_k (Or.inr h) _ _
theorem plc_ne {ν : Mem} {a : Nat} (h : a ≠ 39) : plc ν a = ν a := by rw [plc, mset_ne a h, skp_ne h]
theorem plc_j {ν : Mem} {j : Nat} (h : j ≠ 29) (h' : j ≠ 30) : plc ν 39 j = ν 39 j := by rw [plc, ms_j h', skp_j h]
theorem cpl_ne {m : Mem} {a : Nat} (h : a ≠ 15) : cpl m a = m a := by rw [cpl, mset_ne a h, csk_ne h]
theorem cpl_j {m : Mem} {j : Nat} (h : j ≠ 8) (h' : j ≠ 11) : cpl m 15 j = m 15 j := by rw [cpl, ms_j h', csk_j h]
theorem pl_RX {m ν : Mem} {w : Bool} {A T P O : Nat} (hx : RX m ν w A T P O) : ∃ A', RX (cpl m) (plc ν) w A' T P O ∧ A ≤ A' := by
  obtain ⟨h1, h2, h3, h4, h5, h6, h7, h8⟩ := hx
  have h60 := h1.2.1.2.2.2
  obtain ⟨A', g1, g2⟩ := skip_sim (fz ν) 60 m ν A T h1 (PA_fz h1.2.1) (by have := PA_fz h1.2.1; omega)
  have e58 : plc ν 58 = ν 58 := plc_ne (by decide)
  refine ⟨A', ⟨?_, ?_, ?_, by omega, ?_, ?_, ?_, ?_⟩, g2⟩
  · exact PS_c g1 (ms_j (by decide)) (ms_k (by decide)) (mset_ne 17 (by decide)) (ms_j (by decide)) (ms_j (by decide)) (mset_ne 51 (by decide))
  · exact PL_c h2 (cpl_j (by decide) (by decide)) (cpl_j (by decide) (by decide)) (cpl_j (by decide) (by decide)) (cpl_ne (by decide)) e58 (plc_j (by decide) (by decide)) (plc_j (by decide) (by decide))
  · rw [e58]
    exact TX_c h3 (cpl_ne (by decide)) (cpl_ne (by decide)) (plc_ne (by decide)) (plc_ne (by decide)) (plc_ne (by decide)) (plc_ne (by decide))
  · rw [e58]
    omega
  · rw [cpl_j (by decide) (by decide)]
    exact h6
  · rw [cpl_j (by decide) (by decide)]
    exact h7
  · rw [cpl_j (by decide) (by decide)]
    exact h8
theorem begF_k {m : Mem} {c : Int32} {a j : Nat} (h1 : a ≠ 55) (h2 : a ≠ 56) (h3 : a ≠ 57) (h4 : a ≠ 54) (h5 : a ≠ 58) (h6 : a ≠ 39 ∨ (j ≠ 29 ∧ j ≠ 32 ∧ j ≠ 33)) : begF m c a j = m a j := by
  have h29 : a ≠ 39 ∨ j ≠ 29 := h6.imp id (fun z => z.1)
  have h23 : a ≠ 39 ∨ (j ≠ 32 ∧ j ≠ 33) := h6.imp id (fun z => z.2)
  unfold begF
  split
  · split
    · rfl
    · rw [adv_k h29, pushM]
      rcases h6 with h | ⟨-, x, y⟩
      · rw [ms_k h, ms_k h5, ms_k h]
      · rw [ms_j x, ms_k h5, ms_j y]
  split
  · split
    · rw [notsM_k h1 h2 h3 h4 h23, letF_k h1 h2 h3 h4 h29]
    · rw [letF_k h1 h2 h3 h4 h29]
  · rfl
theorem behF_k {m : Mem} {c : Int32} {a j : Nat} (h1 : a ≠ 55) (h2 : a ≠ 56) (h3 : a ≠ 57) (h4 : a ≠ 54) (h5 : a ≠ 58) (h6 : a ≠ 39 ∨ (j ≠ 29 ∧ j ≠ 32 ∧ j ≠ 33)) : behF m c a j = m a j := by
  have h29 : a ≠ 39 ∨ j ≠ 29 := h6.imp id (fun z => z.1)
  have h23 : a ≠ 39 ∨ (j ≠ 32 ∧ j ≠ 33) := h6.imp id (fun z => z.2)
  have h2' : a ≠ 39 ∨ j ≠ 32 := h6.imp id (fun z => z.2.1)
  unfold behF
  split
  · split
    · exact workM_k h1 h2 h3 h4 h2' _ _
    · rw [adv_k h29, clsM, notsM_k h1 h2 h3 h4 h23]
      have e : ∀ x y, mset (mset (workM 124 (pl m) m) 39 32 x) 39 33 y a j = workM 124 (pl m) m a j := fun x y => by
        rcases h6 with h | ⟨-, u, v⟩
        · rw [ms_k h, ms_k h]
        · rw [ms_j v, ms_j u]
      rw [e]
      exact workM_k h1 h2 h3 h4 h2' _ _
  split
  · rw [adv_k h29, pushM]
    have e : ∀ x y, mset (mset (workM c (pl m) m) 58 x c) 39 32 y a j = workM c (pl m) m a j := fun x y => by
      rcases h6 with h | ⟨-, u, v⟩
      · rw [ms_k h, ms_k h5]
      · rw [ms_j u, ms_k h5]
    rw [e]
    exact workM_k h1 h2 h3 h4 h2' _ _
  · rfl
theorem fin_k {w : Bool} {m : Mem} {a j : Nat} (h1 : a ≠ 55) (h2 : a ≠ 56) (h3 : a ≠ 57) (h4 : a ≠ 54) (h6 : a ≠ 39 ∨ j ≠ 32) : (fin w m).2 a j = m a j := by
  unfold fin
  split
  · exact workM_k h1 h2 h3 h4 h6 _ _
  · rfl
theorem crt_done {m : Mem} (f : Nat) (h : m 15 7 = 1) : crt f m = m := by
  cases f with
  | zero => rfl
  | succ f => exact if_neg (by rw [h]; decide)
theorem sv_neg {m ν : Mem} {A T : Nat} (h : PS m ν A T) (hB : ∀ i, 0 ≤ m 17 i) : sv ν (ν 39 29) < 0 ↔ sv ν (ν 39 29) = -1 := by
  constructor
  · intro z
    unfold sv at z ⊢
    split
    · rename_i hc
      rw [if_pos hc, ← h.2.2.2] at z
      exact absurd z (by have := hB (ν 39 29).toNatClampNeg; grind)
    · rfl
  · intro z
    rw [z]
    decide
def RE (m' : Mem) (r : Int32 × Mem) : Prop := m' 15 10 = r.1 ∧ m' 15 7 = 1 ∧ (¬ r.1 = 0 → m' 15 11 = r.2 39 30) ∧ (r.1 = 0 → ∃ O', TX m' r.2 O' 1)
theorem tok_sim {m ν : Mem} {w : Bool} {A T P O : Nat} (hx : RX m ν w A T P O) (hB : ∀ i, 0 ≤ m 17 i) : ∃ A', A ≤ A' ∧ A' ≤ T ∧ crt1 m (cqP m) 15 11 = plc ν 39 30 ∧ (sv (plc ν) (plc ν 39 29) < 0 → RE (crt1 m (cqP m)) (fin w (plc ν))) ∧ (¬ sv (plc ν) (plc ν 39 29) < 0 → (w = true → Tk (crt1 m (cqP m)) (behF (plc ν) (sv (plc ν) (plc ν 39 29))) (decide (sv (plc ν) (plc ν 39 29) = 41)) (behR (plc ν) (sv (plc ν) (plc ν 39 29))) A' T) ∧ (w = false → Tk (crt1 m (cqP m)) (begF (plc ν) (sv (plc ν) (plc ν 39 29))) (decide (¬ sv (plc ν) (plc ν 39 29) = 33 ∧ ¬ sv (plc ν) (plc ν 39 29) = 40)) (begR (plc ν) (sv (plc ν) (plc ν 39 29))) A' T)) := by
  obtain ⟨A', hx', hA⟩ := pl_RX hx
  have hq : cqP m = P := by rw [cqP, hx.2.1.1]; exact nI_clamp (by have := hx.2.1.2.2.1; omega)
  have hB' : ∀ i, 0 ≤ cpl m 17 i := fun i => by rw [cpl_ne (by decide)]; exact hB i
  have hs := cby_sv hx'.1
  have hneg := sv_neg hx'.1 hB'
  have ht : ctok m = sv (plc ν) (plc ν 39 29) := hs
  have h6 : c3 m 15 6 = if w = true then 0 else 1 := by rw [c3, cadv_j (by decide)]; exact hx'.2.2.2.2.2.1
  have e11 : cpl m 15 11 = plc ν 39 30 := by
    have a1 : cpl m 15 11 = cpl m 15 8 := by rw [cpl, ms_eq, ms_j (by decide)]
    have a2 : plc ν 39 30 = plc ν 39 29 := by rw [plc, ms_eq, ms_j (by decide)]
    rw [a1, a2, hx'.1.1, hx'.1.2.1.1]
  have hp : crt1 m (cqP m) 15 11 = plc ν 39 30 := by rw [crt1_Fx.2.2.1]; exact e11
  refine ⟨A', hA, hx'.1.2.1.2.2.1, hp, fun hn => ?_, fun hn => ⟨fun hw => ?_, fun hw => ?_⟩⟩
  · have ht1 : ctok m = -1 := ht.trans (hneg.mp hn)
    have e : crt1 m (cqP m) = cre (cadv (cpl m)) P := by rw [crt1, if_pos ht1, hq]; rfl
    obtain ⟨f1, f2, f3⟩ := fin_sim hx'
    refine ⟨by rw [e]; exact f1, by rw [e]; exact f2, fun _ => ?_, fun z => by rw [e]; exact f3 z⟩
    rw [hp, fin_k (by decide) (by decide) (by decide) (by decide) (Or.inr (by decide))]
  · subst hw
    have hl := sv_in hx'.1.2.1 (fun z => hn (hneg.mpr z))
    have ht1 : ¬ ctok m = -1 := by rw [ht]; exact fun z => hn (hneg.mpr z)
    have e : crt1 m (cqP m) = crb (cadv (cpl m)) P (sv (plc ν) (plc ν 39 29)) := by rw [crt1, if_neg ht1, if_pos (show c3 m 15 6 = 0 from h6), hq, ht]; rfl
    rw [e]
    exact beh_sim hx' hl
  · subst hw
    have hl := sv_in hx'.1.2.1 (fun z => hn (hneg.mpr z))
    have ht1 : ¬ ctok m = -1 := by rw [ht]; exact fun z => hn (hneg.mpr z)
    have e : crt1 m (cqP m) = cro (cadv (cpl m)) P (sv (plc ν) (plc ν 39 29)) := by rw [crt1, if_neg ht1, if_neg (by rw [h6]; decide), hq, ht]; rfl
    rw [e]
    exact beg_sim hx' hl
theorem read_sim : ∀ (g f : Nat) (w : Bool) (m ν : Mem) (A T P O : Nat), RX m ν w A T P O → (∀ i, 0 ≤ m 17 i) → T - A + 1 ≤ g → T - A + 1 ≤ f → RE (crt f m) (readP g w ν)
  | 0, f, w, m, ν, A, T, P, O, hx, hB, hg, hf => by omega
  | g + 1, f, w, m, ν, A, T, P, O, hx, hB, hg, hf => by
    obtain ⟨f', hf'⟩ : ∃ f', f = f' + 1 := ⟨f - 1, by omega⟩
    subst hf'
    obtain ⟨A', hA, hAT, hp, hend, htok⟩ := tok_sim hx hB
    have e : crt (f' + 1) m = crt f' (crt1 m (cqP m)) := if_pos hx.2.2.2.2.2.2.1
    have hB1 : ∀ i, 0 ≤ crt1 m (cqP m) 17 i := fun i => by rw [crt1_Fx.1 17 (by decide) (by decide) (by decide) (by decide), cpl_ne (by decide)]; exact hB i
    rw [e, readP_s]
    by_cases hn : sv (plc ν) (plc ν 39 29) < 0
    · have he := hend hn
      rw [if_pos hn, crt_done f' he.2.1]
      exact he
    · rw [if_neg hn]
      obtain ⟨t1, t2⟩ := htok hn
      cases w with
      | true =>
        rw [if_pos rfl]
        rcases t1 rfl with ⟨hr, A2, P2, O2, rx, hA2⟩ | ⟨hr, h10, h7⟩
        · rw [if_pos hr]
          exact read_sim g f' _ _ _ A2 T P2 O2 rx hB1 (by have := rx.1.2.1.2.2.1; omega) (by have := rx.1.2.1.2.2.1; omega)
        · rw [if_neg hr, crt_done f' h7]
          refine ⟨h10, h7, fun _ => ?_, fun z => absurd z hr⟩
          show _ = behF (plc ν) _ 39 30
          rw [hp, behF_k (by decide) (by decide) (by decide) (by decide) (by decide) (Or.inr ⟨by decide, by decide, by decide⟩)]
      | false =>
        rw [if_neg (by decide)]
        rcases t2 rfl with ⟨hr, A2, P2, O2, rx, hA2⟩ | ⟨hr, h10, h7⟩
        · rw [if_pos hr]
          exact read_sim g f' _ _ _ A2 T P2 O2 rx hB1 (by have := rx.1.2.1.2.2.1; omega) (by have := rx.1.2.1.2.2.1; omega)
        · rw [if_neg hr, crt_done f' h7]
          refine ⟨h10, h7, fun _ => ?_, fun z => absurd z hr⟩
          show _ = begF (plc ν) _ 39 30
          rw [hp, begF_k (by decide) (by decide) (by decide) (by decide) (by decide) (Or.inr ⟨by decide, by decide, by decide⟩)]
/-! the class's loop may go on -/
def GR (m : Mem) : Prop := (m 15 7 = 0 → ∃ ν w A T P O, RX m ν w A T P O) ∧ ∀ i, 0 ≤ m 17 i
theorem sg_sum {f : Nat → Int32} : ∀ P, (∀ i, i < P → sg (f i)) → P = opn f P + bnr f P
  | 0, _ => rfl
  | P + 1, h => by
    have ih := sg_sum P (fun i hi => h i (by omega))
    rcases h P (by omega) with q | q | q | q
    · obtain ⟨r1, r2, -, -⟩ := cc33 q
      omega
    · obtain ⟨r1, r2, -⟩ := ccbi (Or.inl q)
      omega
    · obtain ⟨r1, r2, -⟩ := cc40 q
      omega
    · obtain ⟨r1, r2, -⟩ := ccbi (Or.inr q)
      omega
theorem cwo_40 {a b : Int32} (ha : ¬ a = 40) (hb : ¬ b = 40) : ∀ (f P : Nat) (m : Mem), m 15 3 = nI P → P ≤ 60 → 1 ≤ ctc (m 20) 40 P → ¬ cwo a b f P m 15 3 = 0
  | f, 0, m, h, h60, hc => by
    have : ctc (m 20) 40 0 = 0 := rfl
    omega
  | 0, P + 1, m, h, h60, hc => by
    show ¬ m 15 3 = 0
    rw [h]
    exact nI_ne0 (by omega) (by omega)
  | f + 1, P + 1, m, h, h60, hc => by
    unfold cwo
    split
    · rename_i hx
      have n40 : ¬ m 20 P = 40 := fun z => by
        rcases hx with q | q
        · exact ha (q.symm.trans z)
        · exact hb (q.symm.trans z)
      rw [ctc_n n40] at hc
      exact cwo_40 ha hb f P (cwo1 m P) (by rw [cwo1, ms_eq]) (by omega) (by rw [cwo1_ne (by decide) (by decide) (by decide)]; exact hc)
    · rw [h]
      exact nI_ne0 (by omega) (by omega)
theorem GR_go (m : Mem) (h : GR m) (h7 : m 15 7 = 0) : CH m ∧ GR (crt1 m (cqP m)) := by
  obtain ⟨h1, hB⟩ := h
  obtain ⟨ν, w, A, T, P, O, hx⟩ := h1 h7
  have hq : cqP m = P := by rw [cqP, hx.2.1.1]; exact nI_clamp (by have := hx.2.1.2.2.1; omega)
  obtain ⟨A', hA, hAT, hp, hend, htok⟩ := tok_sim hx hB
  obtain ⟨g1, g2, g3, g4, g5, g6, g7, g8⟩ := hx
  obtain ⟨p1, p2, p3, p4, p5, p6, p7, p8, p9, p10⟩ := id g2
  have hsum := sg_sum P p5
  have h60 := g1.2.1.2.2.2
  have hAT' := g1.2.1.2.2.1
  have hcc : ctc (m 20) 40 P = ctc (ν 58) 40 P := ctc_c P p4
  have hle : ctc (ν 58) 40 P ≤ opn (ν 58) P := by unfold opn; omega
  refine ⟨⟨?_, fun h5 => ?_⟩, fun z7 => ?_, fun i => ?_⟩
  · rw [hq]
    exact ⟨p1, by omega, by rw [g3.1]; exact nI_pos' (by have := g3.2.2.1; omega), by rw [g1.2.2.1]; exact nI_le (b := 60) h60 (by decide)⟩
  · rw [hq]
    refine cwo_40 (by decide) (by decide) 60 P (c3 m) ?_ p3 ?_
    · rw [c3, cadv_j (by decide), cpl_j (by decide) (by decide)]
      exact p1
    · rw [c3, cadv_ne (by decide), cpl_ne (by decide), hcc]
      rcases Nat.eq_zero_or_pos (ctc (ν 58) 40 P) with h9 | h9
      · exact absurd (by rw [p10, h9]; rfl) h5
      · exact h9
  · by_cases hn : sv (plc ν) (plc ν 39 29) < 0
    · have := (hend hn).2.1
      rw [z7] at this
      exact absurd this (by decide)
    · obtain ⟨t1, t2⟩ := htok hn
      cases w with
      | true =>
        rcases t1 rfl with ⟨hr, A2, P2, O2, rx, hA2⟩ | ⟨hr, h10, h77⟩
        · exact ⟨_, _, A2, T, P2, O2, rx⟩
        · rw [z7] at h77
          exact absurd h77 (by decide)
      | false =>
        rcases t2 rfl with ⟨hr, A2, P2, O2, rx, hA2⟩ | ⟨hr, h10, h77⟩
        · exact ⟨_, _, A2, T, P2, O2, rx⟩
        · rw [z7] at h77
          exact absurd h77 (by decide)
  · rw [crt1_Fx.1 17 (by decide) (by decide) (by decide) (by decide), cpl_ne (by decide)]
    exact hB i
