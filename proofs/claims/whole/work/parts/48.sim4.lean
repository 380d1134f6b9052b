/-! both readers: tokens, the end -/
theorem PL_pl {m ν : Mem} {P : Nat} {w : Bool} (h : PL m ν P w) : pl ν = P := by
  rw [pl, h.2.1]
  exact nI_clamp (by have := h.2.2.1; omega)
theorem open_sim {m ν : Mem} {A T P O : Nat} {c : Int32} (hx : RX m ν false A T P O) (hl : A < T) (hc : c = 33 ∨ c = 40) : Tk (cou (cadv m) P c) (if ν 39 33 = 12 then ν else adv (pushM (mset ν 39 33 (ν 39 33 + 1)) c)) false (if ν 39 33 = 12 then 3 else 0) A T := by
  obtain ⟨h1, h2, h3, h4, h5, h6, h7, h8⟩ := hx
  obtain ⟨p1, p2, p3, p4, p5, p6, p7, p8, p9, p10⟩ := id h2
  have h60 := h1.2.1.2.2.2
  have e4 : cadv m 15 4 = nI (opn (ν 58) P) := by rw [cadv_j (by decide)]; exact p7
  by_cases h : opn (ν 58) P = 12
  · have e1 : ν 39 33 = 12 := by rw [p8, h]; rfl
    rw [if_pos e1, if_pos e1, cou, e4, h, if_neg (by decide)]
    exact Tk_bad (by decide)
  · have e1 : ¬ ν 39 33 = 12 := by
      rw [p8]
      intro z
      exact h ((nI_eq (a := opn (ν 58) P) (b := 12) (by omega) (by decide)).mp z)
    have l1 : nI (opn (ν 58) P) < 12 := nI_lt (b := 12) (by omega) (by decide)
    rw [if_neg e1, if_neg e1, cou, e4, if_pos l1]
    left
    refine ⟨rfl, A + 1, P + 1, O, ?_, by omega⟩
    generalize hn : adv (pushM (mset ν 39 33 (ν 39 33 + 1)) c) = ν'
    have hplm : pl (mset ν 39 33 (ν 39 33 + 1)) = P := by rw [pl, ms_j (by decide), p2]; exact nI_clamp (by omega)
    have k58 : ∀ i, ν' 58 i = if i = P then c else ν 58 i := fun i => by
      rw [← hn, adv_ne (by decide), pushM, ms_k (by decide), hplm]
      simp [mset_app]
    have k39 : ∀ j, j ≠ 29 → j ≠ 32 → j ≠ 33 → ν' 39 j = ν 39 j := fun j a b d => by
      rw [← hn, adv_k (Or.inr a), pushM, ms_j b, ms_k (by decide), ms_j d]
    have k32 : ν' 39 32 = nI (P + 1) := by
      rw [← hn, adv_k (Or.inr (by decide)), pushM, ms_eq, ms_j (by decide), p2]
      exact nI_1 P
    have k33 : ν' 39 33 = nI (opn (ν 58) P + 1) := by
      rw [← hn, adv_k (Or.inr (by decide)), pushM, ms_j (by decide), ms_k (by decide), ms_eq, p8]
      exact nI_1 _
    have k29 : ν' 39 29 = nI (A + 1) := by
      rw [← hn, adv, ms_eq, pushM, ms_j (by decide), ms_k (by decide), ms_j (by decide), h1.2.1.1]
      exact nI_1 A
    have kne : ∀ a, a ≠ 39 → a ≠ 58 → ν' a = ν a := fun a x y => by
      rw [← hn, adv_ne x, pushM, mset_ne a x, mset_ne a y, mset_ne a x]
    have pre : ∀ i, i < P → ν' 58 i = ν 58 i := fun i hi => by rw [k58, if_neg (by omega)]
    have at_ : ν' 58 P = c := by rw [k58, if_pos rfl]
    have cc : ∀ x, ctc (ν' 58) x P = ctc (ν 58) x P := fun x => ctc_c P pre
    have bb : bnr (ν' 58) P = bnr (ν 58) P := by unfold bnr; rw [cc, cc]
    have oo : opn (ν' 58) P = opn (ν 58) P := by unfold opn; rw [cc, cc]
    have hop : opn (ν' 58) (P + 1) = opn (ν 58) P + 1 ∧ bnr (ν' 58) (P + 1) = bnr (ν 58) P ∧ ctc (ν' 58) 40 (P + 1) = ctc (ν 58) 40 P + (if c = 40 then 1 else 0) := by
      rcases hc with q | q
      · obtain ⟨r1, r2, r3, r4⟩ := cc33 (at_.trans q)
        rw [r1, r2, r3, oo, bb, cc, if_neg (by rw [q]; decide)]
        exact ⟨rfl, rfl, rfl⟩
      · obtain ⟨r1, r2, r3⟩ := cc40 (at_.trans q)
        rw [r1, r2, r3, oo, bb, cc, if_pos q]
        exact ⟨rfl, rfl, rfl⟩
    obtain ⟨o1, o2, o3⟩ := hop
    have m1ne : ∀ a, a ≠ 15 → cou1 (cadv m) c a = m a := fun a ha => by
      unfold cou1
      split
      · rw [mset_ne a ha, mset_ne a ha, cadv_ne ha]
      · rw [mset_ne a ha, cadv_ne ha]
    have m1j : ∀ j, j ≠ 4 → j ≠ 5 → cou1 (cadv m) c 15 j = cadv m 15 j := fun j x y => by
      unfold cou1
      split
      · rw [ms_j y, ms_j x]
      · rw [ms_j x]
    have m14 : cou1 (cadv m) c 15 4 = nI (opn (ν 58) P + 1) := by
      unfold cou1
      split
      · rw [ms_j (by decide), ms_eq, e4]
        exact nI_1 _
      · rw [ms_eq, e4]
        exact nI_1 _
    have m15 : cou1 (cadv m) c 15 5 = nI (ctc (ν 58) 40 P + (if c = 40 then 1 else 0)) := by
      unfold cou1
      split
      · rw [ms_eq, cadv_j (by decide), p10]
        exact nI_1 _
      · rw [ms_j (by decide), cadv_j (by decide), p10]
        rfl
    have j15 : ∀ j, j ≠ 3 → cpo (cou1 (cadv m) c) P c 15 j = cou1 (cadv m) c 15 j := fun j hj => by rw [cpo, ms_j hj, ms_k (by decide)]
    have jne : ∀ a, a ≠ 15 → a ≠ 20 → cpo (cou1 (cadv m) c) P c a = m a := fun a x y => by rw [cpo, mset_ne a x, mset_ne a y, m1ne a x]
    refine ⟨?_, ?_, ?_, by omega, ?_, ?_, ?_, ?_⟩
    · refine ⟨?_, ⟨k29, ?_, by omega, h60⟩, ?_, ?_⟩
      · rw [j15 8 (by decide), m1j 8 (by decide) (by decide), cadv, ms_eq, h1.1]
        exact nI_1 A
      · rw [k39 19 (by decide) (by decide) (by decide)]
        exact h1.2.1.2.1
      · rw [jne 16 (by decide) (by decide)]
        exact h1.2.2.1
      · rw [jne 17 (by decide) (by decide), kne 51 (by decide) (by decide)]
        exact h1.2.2.2
    · refine ⟨by rw [cpo, ms_eq], k32, by omega, fun i hi => ?_, fun i hi => ?_, fun i hi hx => ?_, ?_, ?_, by omega, ?_⟩
      · rw [cpo, ms_k (by decide), k58]
        by_cases e : i = P
        · rw [if_pos e, e, ms_eq]
        · rw [if_neg e, ms_j e, m1ne 20 (by decide)]
          exact p4 i (by omega)
      · rw [k58]
        by_cases e : i = P
        · rw [if_pos e]
          rcases hc with q | q
          · exact Or.inl q
          · exact Or.inr (Or.inr (Or.inl q))
        · rw [if_neg e]
          exact p5 i (by omega)
      · by_cases e : i = P
        · exact Or.inr ⟨rfl, by omega⟩
        · left
          rw [k58, if_neg e] at hx
          rcases p6 i (by omega) hx with ⟨q1, q2⟩ | ⟨-, q2⟩
          · refine ⟨by omega, ?_⟩
            rw [pre (i + 1) q1]
            exact q2
          · refine ⟨by omega, ?_⟩
            rw [q2, at_]
            exact hc
      · rw [j15 4 (by decide), m14, o1]
      · rw [k33, o1]
      · rw [j15 5 (by decide), m15, o3]
    · rw [o2]
      exact TX_c h3 (jne 33 (by decide) (by decide)) (jne 34 (by decide) (by decide)) (kne 54 (by decide) (by decide)) (kne 55 (by decide) (by decide)) (kne 56 (by decide) (by decide)) (kne 57 (by decide) (by decide))
    · rw [o2]
      have h5' : 2 * bnr (ν 58) P + wi false ≤ A := h5
      omega
    · rw [j15 6 (by decide), m1j 6 (by decide) (by decide), cadv_j (by decide)]
      exact h6
    · rw [j15 7 (by decide), m1j 7 (by decide) (by decide), cadv_j (by decide)]
      exact h7
    · rw [j15 10 (by decide), m1j 10 (by decide) (by decide), cadv_j (by decide)]
      exact h8
theorem beg_sim {m ν : Mem} {A T P O : Nat} {c : Int32} (hx : RX m ν false A T P O) (hl : A < T) : Tk (cro (cadv m) P c) (begF ν c) (decide (¬ c = 33 ∧ ¬ c = 40)) (begR ν c) A T := by
  have hpl := PL_pl hx.2.1
  unfold cro begF begR
  rw [hpl]
  by_cases c1 : c = 33 ∨ c = 40
  · rw [if_pos c1, if_pos c1, if_pos c1, decide_eq_false (fun z => c1.elim z.1 z.2)]
    exact open_sim hx hl c1
  · have ed : decide (¬ c = 33 ∧ ¬ c = 40) = true := decide_eq_true ⟨fun z => c1 (Or.inl z), fun z => c1 (Or.inr z)⟩
    rw [if_neg c1, if_neg c1, if_neg c1, ed]
    by_cases c2 : c = 119
    · rw [if_pos c2, if_pos (Or.inl c2), if_pos (Or.inl c2)]
      subst c2
      exact let_sim hx hl (by decide) rfl (by decide) (Or.inl ⟨rfl, rfl⟩)
    rw [if_neg c2]
    by_cases c3 : c = 112
    · rw [if_pos c3, if_pos (Or.inr (Or.inl c3)), if_pos (Or.inr (Or.inl c3))]
      subst c3
      exact let_sim hx hl (by decide) rfl (by decide) (Or.inr (Or.inl ⟨rfl, rfl⟩))
    rw [if_neg c3]
    by_cases c4 : c = 107
    · rw [if_pos c4, if_pos (Or.inr (Or.inr (Or.inl c4))), if_pos (Or.inr (Or.inr (Or.inl c4)))]
      subst c4
      exact let_sim hx hl (by decide) rfl (by decide) (Or.inr (Or.inr ⟨rfl, rfl⟩))
    rw [if_neg c4]
    by_cases c5 : c = 100
    · rw [if_pos c5, if_pos (Or.inr (Or.inr (Or.inr c5))), if_pos (Or.inr (Or.inr (Or.inr c5)))]
      subst c5
      exact day_sim hx hl
    · have c6 : ¬ isL c := fun z => by
        rcases z with z | z | z | z
        · exact c2 z
        · exact c3 z
        · exact c4 z
        · exact c5 z
      rw [if_neg c5, if_neg c6, if_neg c6]
      exact Tk_bad (by decide)
theorem workM_58 {le : Int32} (f : Nat) (m : Mem) : workM le f m 58 = m 58 := by
  funext j
  exact workM_k (by decide) (by decide) (by decide) (by decide) (Or.inl (by decide)) f m
theorem workM_51 {le : Int32} (f : Nat) (m : Mem) : workM le f m 51 = m 51 := by
  funext j
  exact workM_k (by decide) (by decide) (by decide) (by decide) (Or.inl (by decide)) f m
/-- both have worked out; the class stands behind the sign already -/
theorem wk_top {m ν : Mem} {A T P O : Nat} {le : Int32} (hx : RX m ν true A T P O) (hle : wkb le) : ∃ P' O', P' ≤ P ∧ PL (cwo 38 le 60 P (cadv m)) (workM le P ν) P' true ∧ TX (cwo 38 le 60 P (cadv m)) (workM le P ν) O' (bnr (ν 58) P' + 1) ∧ P' + O' = P + O ∧ bnr (ν 58) P' ≤ bnr (ν 58) P ∧ ctc (ν 58) 40 P' = ctc (ν 58) 40 P ∧ (P' = 0 ∨ ν 58 (P' - 1) = 40 ∨ (le = 38 ∧ ν 58 (P' - 1) = 124)) := by
  obtain ⟨h1, h2, h3, h4, h5, h6, h7, h8⟩ := hx
  have h60 := h1.2.1.2.2.2
  have hA := h1.2.1.2.2.1
  have h5' : 2 * bnr (ν 58) P + 1 ≤ A := h5
  refine work_sim le hle P 60 (cadv m) ν O ?_ (by omega) ?_ (by omega) (by omega)
  · exact PL_c h2 (cadv_j (by decide)) (cadv_j (by decide)) (cadv_j (by decide)) (cadv_ne (by decide)) rfl rfl rfl
  · exact TX_c h3 (cadv_ne (by decide)) (cadv_ne (by decide)) rfl rfl rfl rfl
theorem sign_sim {m ν : Mem} {A T P O : Nat} {c : Int32} (hx : RX m ν true A T P O) (hl : A < T) (hc : wkb c) : ∃ A' P' O', RX (crs (cadv m) P c c) (adv (pushM (workM c P ν) c)) false A' T P' O' ∧ A < A' := by
  obtain ⟨P', O', w0, w1, w2, w3, w4, w5, w6⟩ := wk_top hx hc
  obtain ⟨h1, h2, h3, h4, h5, h6, h7, h8⟩ := hx
  obtain ⟨p1, p2, p3, p4, p5, p6, p7, p8, p9, p10⟩ := id w1
  have h60 := h1.2.1.2.2.2
  have h5' : 2 * bnr (ν 58) P + 1 ≤ A := h5
  have e58 := workM_58 (le := c) P ν
  have hplw : pl (workM c P ν) = P' := PL_pl w1
  have hq : cqP (cwo 38 c 60 P (cadv m)) = P' := by rw [cqP, p1]; exact nI_clamp (by omega)
  refine ⟨A + 1, P' + 1, O', ?_, by omega⟩
  unfold crs
  rw [hq]
  generalize hm : cwo 38 c 60 P (cadv m) = m1 at *
  have m1ne : ∀ a, a ≠ 15 → a ≠ 33 → a ≠ 34 → m1 a = m a := fun a x y z => by rw [← hm, cwo_ne y z x, cadv_ne x]
  have m1j : ∀ j, j ≠ 3 → m1 15 j = cadv m 15 j := fun j hj => by rw [← hm, cwo_j hj]
  generalize hn : adv (pushM (workM c P ν) c) = ν'
  have k58 : ∀ i, ν' 58 i = if i = P' then c else ν 58 i := fun i => by
    rw [← hn, adv_ne (by decide), pushM, ms_k (by decide), hplw]
    simp [mset_app, e58]
  have wk39 : ∀ j, j ≠ 32 → workM c P ν 39 j = ν 39 j := fun j hj => workM_k (by decide) (by decide) (by decide) (by decide) (Or.inr hj) P ν
  have k39 : ∀ j, j ≠ 29 → j ≠ 32 → ν' 39 j = ν 39 j := fun j a b => by
    rw [← hn, adv_k (Or.inr a), pushM, ms_j b, ms_k (by decide), wk39 j b]
  have k32 : ν' 39 32 = nI (P' + 1) := by
    rw [← hn, adv_k (Or.inr (by decide)), pushM, ms_eq, p2]
    exact nI_1 P'
  have k33 : ν' 39 33 = workM c P ν 39 33 := by rw [k39 33 (by decide) (by decide), wk39 33 (by decide)]
  have k29 : ν' 39 29 = nI (A + 1) := by
    rw [← hn, adv, ms_eq, pushM, ms_j (by decide), ms_k (by decide), wk39 29 (by decide), h1.2.1.1]
    exact nI_1 A
  have kne : ∀ a, a ≠ 39 → a ≠ 58 → ν' a = workM c P ν a := fun a x y => by
    rw [← hn, adv_ne x, pushM, mset_ne a x, mset_ne a y]
  rw [e58] at p4 p5 p6 p7 p8 p9 p10
  have pre : ∀ i, i < P' → ν' 58 i = ν 58 i := fun i hi => by rw [k58, if_neg (by omega)]
  have at_ : ν' 58 P' = c := by rw [k58, if_pos rfl]
  have cc : ∀ x, ctc (ν' 58) x P' = ctc (ν 58) x P' := fun x => ctc_c P' pre
  have bb : bnr (ν' 58) P' = bnr (ν 58) P' := by unfold bnr; rw [cc, cc]
  have oo : opn (ν' 58) P' = opn (ν 58) P' := by unfold opn; rw [cc, cc]
  obtain ⟨o1, o2, o3⟩ := ccbi (f := ν' 58) (P := P') (by rw [at_]; exact hc)
  rw [oo] at o1
  rw [bb] at o2
  rw [cc] at o3
  have j15 : ∀ j, j ≠ 3 → j ≠ 6 → mset (cpo m1 P' c) 15 6 1 15 j = m1 15 j := fun j x y => by rw [ms_j y, cpo, ms_j x, ms_k (by decide)]
  have jne : ∀ a, a ≠ 15 → a ≠ 20 → mset (cpo m1 P' c) 15 6 1 a = m1 a := fun a x y => by rw [mset_ne a x, cpo, mset_ne a x, mset_ne a y]
  refine ⟨?_, ?_, ?_, by omega, ?_, ?_, ?_, ?_⟩
  · refine ⟨?_, ⟨k29, ?_, by omega, h60⟩, ?_, ?_⟩
    · rw [j15 8 (by decide) (by decide), m1j 8 (by decide), cadv, ms_eq, h1.1]
      exact nI_1 A
    · rw [k39 19 (by decide) (by decide)]
      exact h1.2.1.2.1
    · rw [jne 16 (by decide) (by decide), m1ne 16 (by decide) (by decide) (by decide)]
      exact h1.2.2.1
    · rw [jne 17 (by decide) (by decide), m1ne 17 (by decide) (by decide) (by decide), kne 51 (by decide) (by decide), workM_51]
      exact h1.2.2.2
  · refine ⟨by rw [ms_j (by decide), cpo, ms_eq], k32, by omega, fun i hi => ?_, fun i hi => ?_, fun i hi hx => ?_, ?_, ?_, by omega, ?_⟩
    · rw [ms_k (by decide), cpo, ms_k (by decide), k58]
      by_cases e : i = P'
      · rw [if_pos e, e, ms_eq]
      · rw [if_neg e, ms_j e]
        exact p4 i (by omega)
    · rw [k58]
      by_cases e : i = P'
      · rw [if_pos e]
        rcases hc with q | q
        · exact Or.inr (Or.inl q)
        · exact Or.inr (Or.inr (Or.inr q))
      · rw [if_neg e]
        exact p5 i (by omega)
    · by_cases e : i = P'
      · exfalso
        rw [k58, if_pos e] at hx
        rcases hc with q | q <;> rw [q] at hx <;> exact absurd hx (by decide)
      · left
        rw [k58, if_neg e] at hx
        rcases p6 i (by omega) hx with ⟨q1, q2⟩ | ⟨q1, -⟩
        · refine ⟨by omega, ?_⟩
          rw [pre (i + 1) q1]
          exact q2
        · cases q1
    · rw [j15 4 (by decide) (by decide), p7, o1]
    · rw [k33, p8, o1]
    · rw [j15 5 (by decide) (by decide), p10, o3]
  · rw [o2]
    exact TX_c w2 (jne 33 (by decide) (by decide)) (jne 34 (by decide) (by decide)) (kne 54 (by decide) (by decide)) (kne 55 (by decide) (by decide)) (kne 56 (by decide) (by decide)) (kne 57 (by decide) (by decide))
  · rw [o2]
    show 2 * (bnr (ν 58) P' + 1) + 0 ≤ A + 1
    omega
  · rw [ms_eq]
    rfl
  · rw [j15 7 (by decide) (by decide), m1j 7 (by decide), cadv_j (by decide)]
    exact h7
  · rw [j15 10 (by decide) (by decide), m1j 10 (by decide), cadv_j (by decide)]
    exact h8
