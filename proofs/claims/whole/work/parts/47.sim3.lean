/-! both readers: a token where one is wanted -/
def wi (w : Bool) : Nat := if w = true then 1 else 0
def RX (m ν : Mem) (w : Bool) (A T P O : Nat) : Prop := PS m ν A T ∧ PL m ν P w ∧ TX m ν O (bnr (ν 58) P + wi w) ∧ P + O ≤ A ∧ 2 * bnr (ν 58) P + wi w ≤ A ∧ m 15 6 = (if w = true then 0 else 1) ∧ m 15 7 = 0 ∧ m 15 10 = 0
theorem ced1_ne {m : Mem} {P r : Nat} (h1 : r ≠ 33) (h2 : r ≠ 34) (h3 : r ≠ 15) : ced1 m P r = m r := by rw [ced1, cad_ne h1 h2, mset_ne r h3, mset_ne r h3]
theorem ced1_j {m : Mem} {P j : Nat} (h : j ≠ 3) (h' : j ≠ 4) : ced1 m P 15 j = m 15 j := by rw [ced1, cad_ne (by decide) (by decide), ms_j h', ms_j h]
theorem ceo_ne {r : Nat} (h1 : r ≠ 33) (h2 : r ≠ 34) (h3 : r ≠ 15) : ∀ (f P : Nat) (m : Mem), ceo f P m r = m r
  | 0, _, _ => rfl
  | _ + 1, 0, _ => rfl
  | f + 1, P + 1, m => by
    unfold ceo
    split
    · rw [ceo_ne h1 h2 h3 f P, ced1_ne h1 h2 h3]
    · rfl
theorem ceo_j {j : Nat} (h : j ≠ 3) (h' : j ≠ 4) : ∀ (f P : Nat) (m : Mem), ceo f P m 15 j = m 15 j
  | 0, _, _ => rfl
  | _ + 1, 0, _ => rfl
  | f + 1, P + 1, m => by
    unfold ceo
    split
    · rw [ceo_j h h' f P, ced1_j h h']
    · rfl
theorem PS_c {m ν m' ν' : Mem} {A T : Nat} (h : PS m ν A T) (h8 : m' 15 8 = m 15 8) (h16 : m' 16 1 = m 16 1) (h17 : m' 17 = m 17) (h29 : ν' 39 29 = ν 39 29) (h19 : ν' 39 19 = ν 39 19) (h51 : ν' 51 = ν 51) : PS m' ν' A T := by
  unfold PS PA at h ⊢
  rw [h8, h16, h17, h29, h19, h51]
  exact h
theorem notsM_58 (f : Nat) (m : Mem) : notsM f m 58 = m 58 := by
  funext j
  exact notsM_k (by decide) (by decide) (by decide) (by decide) (Or.inl (by decide)) f m
theorem notsM_51 (f : Nat) (m : Mem) : notsM f m 51 = m 51 := by
  funext j
  exact notsM_k (by decide) (by decide) (by decide) (by decide) (Or.inl (by decide)) f m
/-- endOne and nots -/
theorem end_sim {m ν : Mem} {A T P O D : Nat} (h1 : PS m ν A T) (h2 : PL m ν P false) (h3 : TX m ν O D) (hD : D = bnr (ν 58) P + 1) (hPO : P + O ≤ A) (hb : 2 * bnr (ν 58) P + 1 ≤ A) (h7 : m 15 7 = 0) (h10 : m 15 10 = 0) : ∃ P' O', RX (cend m P) (notsM P ν) true A T P' O' := by
  have h60 := h1.2.1.2.2.2
  have hA := h1.2.1.2.2.1
  have h12 : opn (ν 58) P ≤ 12 := h2.2.2.2.2.2.2.2.2.1
  obtain ⟨P', O', r1, r2, r3, r4⟩ := nots_sim P 12 m ν O D h2 (by have : ctc (ν 58) 33 P ≤ opn (ν 58) P := by unfold opn; omega
                                                                  omega) h3 (by omega) (by omega) (by omega)
  have e58 := notsM_58 P ν
  have j15 : ∀ j, j ≠ 6 → cend m P 15 j = ceo 12 P m 15 j := fun j hj => ms_j hj
  have jne : ∀ a, a ≠ 15 → cend m P a = ceo 12 P m a := fun a ha => mset_ne a ha
  refine ⟨P', O', ?_, ?_, ?_, by omega, ?_, ?_, ?_, ?_⟩
  · refine PS_c h1 ?_ ?_ ?_ ?_ ?_ ?_
    · rw [j15 8 (by decide), ceo_j (by decide) (by decide)]
    · rw [jne 16 (by decide), ceo_ne (by decide) (by decide) (by decide)]
    · rw [jne 17 (by decide), ceo_ne (by decide) (by decide) (by decide)]
    · exact notsM_k (by decide) (by decide) (by decide) (by decide) (Or.inr ⟨by decide, by decide⟩) P ν
    · exact notsM_k (by decide) (by decide) (by decide) (by decide) (Or.inr ⟨by decide, by decide⟩) P ν
    · exact notsM_51 P ν
  · exact PL_c r1 (j15 3 (by decide)) (j15 4 (by decide)) (j15 5 (by decide)) (jne 20 (by decide)) rfl rfl rfl
  · rw [e58, r4]
    have e9 : bnr (ν 58) P + wi true = D := hD.symm
    rw [e9]
    exact TX_c r2 (jne 33 (by decide)) (jne 34 (by decide)) rfl rfl rfl rfl
  · rw [e58, r4]
    exact hb
  · show mset (ceo 12 P m) 15 6 0 15 6 = _
    rw [ms_eq]
    rfl
  · rw [j15 7 (by decide), ceo_j (by decide) (by decide)]
    exact h7
  · rw [j15 10 (by decide), ceo_j (by decide) (by decide)]
    exact h10
/-- an atom, and the nots ahead of it -/
theorem one_sim {m ν : Mem} {A T P O : Nat} {w a b : Int32} (h1 : PS m ν A T) (h2 : PL m ν P false) (h3 : TX m ν O (bnr (ν 58) P)) (hPO : P + O + 1 ≤ A) (hb : 2 * bnr (ν 58) P + 1 ≤ A) (h7 : m 15 7 = 0) (h10 : m 15 10 = 0) (hv : Vo w a b) (hw : ¬ w = 4) (hw' : ¬ 4 < w) : ∃ P' O', RX (cend (cad m w a b) P) (notsM P (gf_order ν w a b)) true A T P' O' := by
  have h60 := h1.2.1.2.2.2
  have hA := h1.2.1.2.2.1
  have e58 : gf_order ν w a b 58 = ν 58 := by funext j; exact gfo_k (by decide) (by decide) (by decide) (by decide)
  have ht := TX_add (w := w) (a := a) (b := b) h3 (by omega) (by omega) hv (fun z => absurd z hw) (fun z => absurd z hw')
  rw [if_neg hw, if_neg hw'] at ht
  refine end_sim (m := cad m w a b) (ν := gf_order ν w a b) (O := O + 1) (D := bnr (ν 58) P + 1) ?_ ?_ ht (by rw [e58]) (by omega) (by rw [e58]; exact hb) ?_ ?_
  · refine PS_c h1 ?_ ?_ ?_ ?_ ?_ ?_
    · rw [cad_ne (by decide) (by decide)]
    · rw [cad_ne (by decide) (by decide)]
    · rw [cad_ne (by decide) (by decide)]
    · exact gfo_39
    · exact gfo_39
    · funext j
      exact gfo_k (by decide) (by decide) (by decide) (by decide)
  · refine PL_c h2 ?_ ?_ ?_ ?_ e58 gfo_39 gfo_39
    · rw [cad_ne (by decide) (by decide)]
    · rw [cad_ne (by decide) (by decide)]
    · rw [cad_ne (by decide) (by decide)]
    · rw [cad_ne (by decide) (by decide)]
  · rw [cad_ne (by decide) (by decide)]
    exact h7
  · rw [cad_ne (by decide) (by decide)]
    exact h10
theorem cfl_10 {m : Mem} {f : Int32} : cfl m f 15 10 = f := by rw [cfl, ms_j (by decide), ms_eq]
theorem cfl_7 {m : Mem} {f : Int32} : cfl m f 15 7 = 1 := by rw [cfl, ms_eq]
/-- how a token comes out -/
def Tk (m' ν' : Mem) (w' : Bool) (r : Int32) (A T : Nat) : Prop := (r = 0 ∧ ∃ A' P' O', RX m' ν' w' A' T P' O' ∧ A < A') ∨ (¬ r = 0 ∧ m' 15 10 = r ∧ m' 15 7 = 1)
theorem Tk_bad {m ν : Mem} {w : Bool} {r : Int32} {A T : Nat} (hr : ¬ r = 0) : Tk (cfl m r) ν w r A T := Or.inr ⟨hr, cfl_10, cfl_7⟩
/-- the state behind a number -/
theorem after_num {m ν m2 ν2 : Mem} {P O : Nat} (h2 : PL m ν P false) (h3 : TX m ν O (bnr (ν 58) P)) (h7 : m 15 7 = 0) (h10 : m 15 10 = 0) (j15 : ∀ j, j ≠ 8 → m2 15 j = m 15 j) (jne : ∀ a, a ≠ 15 → m2 a = m a) (n39 : ∀ j, j ≠ 29 → ν2 39 j = ν 39 j) (nne : ∀ a, a ≠ 39 → ν2 a = ν a) : PL m2 ν2 P false ∧ TX m2 ν2 O (bnr (ν2 58) P) ∧ m2 15 7 = 0 ∧ m2 15 10 = 0 ∧ bnr (ν2 58) P = bnr (ν 58) P := by
  have e58 := nne 58 (by decide)
  refine ⟨PL_c h2 (j15 3 (by decide)) (j15 4 (by decide)) (j15 5 (by decide)) (jne 20 (by decide)) e58 (n39 32 (by decide)) (n39 33 (by decide)), ?_, by rw [j15 7 (by decide)]; exact h7, by rw [j15 10 (by decide)]; exact h10, by rw [e58]⟩
  rw [e58]
  exact TX_c h3 (jne 33 (by decide)) (jne 34 (by decide)) (nne 54 (by decide)) (nne 55 (by decide)) (nne 56 (by decide)) (nne 57 (by decide))
theorem nM_ne {ν : Mem} {a : Nat} (h : a ≠ 39) : nM ν a = ν a := by funext j; exact nM_k (Or.inl h)
theorem adv_ne {ν : Mem} {a : Nat} (h : a ≠ 39) : adv ν a = ν a := by funext j; exact adv_k (Or.inl h)
/-- w, p, k and a number -/
theorem let_sim {m ν : Mem} {A T P O : Nat} {c w mo : Int32} (hx : RX m ν false A T P O) (hl : A < T) (hc : ¬ c = 100) (hw : lw c = w) (hm : lm c = mo + 1) (hok : (w = 0 ∧ mo = 29) ∨ (w = 1 ∧ mo = 9) ∨ (w = 2 ∧ mo = 5)) : Tk (crn (cadv m) P w mo) (if letR ν c = 0 then notsM P (letF ν c) else letF ν c) true (letR ν c) A T := by
  obtain ⟨h1, h2, h3, h4, h5, h6, h7, h8⟩ := hx
  obtain ⟨A2, q1, q2, q3⟩ := num_top (PS_adv h1 hl)
  obtain ⟨g2, g3, g7, g8, g9⟩ := after_num (m2 := cnm (cadv m)) (ν2 := nM (adv ν)) h2 h3 h7 h8 (fun j hj => by rw [cnm_j hj, cadv_j hj]) (fun a ha => by rw [cnm_ne ha, cadv_ne ha]) (fun j hj => by rw [nM_k (Or.inr hj), adv_k (Or.inr hj)]) (fun a ha => by rw [nM_ne ha, adv_ne ha])
  have hn := NR_neg q3
  by_cases c1 : cn (cadv m) = -1
  · have c2 := hn.mp c1
    have e1 : letR ν c = 1 := if_pos c2
    rw [crn, if_pos c1, e1]
    exact Tk_bad (by decide)
  · have c2 : ¬ rn (adv ν) < 0 := fun z => c1 (hn.mpr z)
    have e1 : letR ν c = if rn (adv ν) < lm c then 0 else 2 := (if_neg c2).trans (if_pos hc)
    have e2 : letF ν c = gf_order (nM (adv ν)) (lw c) (rn (adv ν)) 0 := (if_neg c2).trans (if_pos hc)
    have mo5 : mo ≤ 5000 := by rcases hok with ⟨-, z⟩ | ⟨-, z⟩ | ⟨-, z⟩ <;> rw [z] <;> decide
    obtain ⟨l1, l2, l3⟩ := NR_le q3 c1 mo5
    rw [crn, if_neg c1]
    by_cases c3 : mo < cn (cadv m)
    · have c4 : ¬ rn (adv ν) < lm c := by
        have := l1.mp c3
        rw [hm]
        rcases hok with ⟨-, z⟩ | ⟨-, z⟩ | ⟨-, z⟩ <;> rw [z] at this ⊢ <;> grind
      rw [if_pos c3, e1, if_neg c4]
      exact Tk_bad (by decide)
    · have c4 : rn (adv ν) ≤ mo := by
        have : ¬ mo < rn (adv ν) := fun z => c3 (l1.mpr z)
        grind
      have c5 : rn (adv ν) < lm c := by
        rw [hm]
        rcases hok with ⟨-, z⟩ | ⟨-, z⟩ | ⟨-, z⟩ <;> rw [z] at c4 ⊢ <;> grind
      have c6 : cn (cadv m) = rn (adv ν) := l2 (by rcases hok with ⟨-, z⟩ | ⟨-, z⟩ | ⟨-, z⟩ <;> rw [z] at c4 <;> grind)
      rw [if_neg c3, e1, if_pos c5, if_pos rfl, e2, hw, c6]
      have hv : Vo w (rn (adv ν)) 0 := by
        rcases hok with ⟨y, z⟩ | ⟨y, z⟩ | ⟨y, z⟩
        · rw [z] at c4; exact Or.inl ⟨y, l3, c4, rfl⟩
        · rw [z] at c4; exact Or.inr (Or.inl ⟨y, l3, c4, rfl⟩)
        · rw [z] at c4; exact Or.inr (Or.inr (Or.inl ⟨y, l3, c4, rfl⟩))
      have w4 : ¬ w = 4 := by rcases hok with ⟨y, -⟩ | ⟨y, -⟩ | ⟨y, -⟩ <;> rw [y] <;> decide
      have w5 : ¬ 4 < w := by rcases hok with ⟨y, -⟩ | ⟨y, -⟩ | ⟨y, -⟩ <;> rw [y] <;> decide
      have h5' : 2 * bnr (ν 58) P ≤ A := h5
      obtain ⟨P', O', r⟩ := one_sim (w := w) (a := rn (adv ν)) (b := 0) q1 g2 g3 (by omega) (by rw [g9]; omega) g7 g8 hv w4 w5
      exact Or.inl ⟨rfl, A2, P', O', r, by omega⟩
/-- d and two numbers -/
theorem day_sim {m ν : Mem} {A T P O : Nat} (hx : RX m ν false A T P O) (hl : A < T) : Tk (crd (cadv m) P) (if letR ν 100 = 0 then notsM P (letF ν 100) else letF ν 100) true (letR ν 100) A T := by
  obtain ⟨h1, h2, h3, h4, h5, h6, h7, h8⟩ := hx
  obtain ⟨A2, q1, q2, q3⟩ := num_top (PS_adv h1 hl)
  obtain ⟨g2, g3, g7, g8, g9⟩ := after_num (m2 := cnm (cadv m)) (ν2 := nM (adv ν)) h2 h3 h7 h8 (fun j hj => by rw [cnm_j hj, cadv_j hj]) (fun a ha => by rw [cnm_ne ha, cadv_ne ha]) (fun j hj => by rw [nM_k (Or.inr hj), adv_k (Or.inr hj)]) (fun a ha => by rw [nM_ne ha, adv_ne ha])
  have hn := NR_neg q3
  have es := cby_sv q1
  by_cases d1 : sv (nM (adv ν)) (nM (adv ν) 39 29) = 45
  · have hl2 := sv_lt q1.2.1 d1
    obtain ⟨A4, p1, p2, p3⟩ := num_top (PS_adv q1 hl2)
    obtain ⟨k2, k3, k7, k8, k9⟩ := after_num (m2 := cnm (cadv (cnm (cadv m)))) (ν2 := nM (adv (nM (adv ν)))) g2 g3 g7 g8 (fun j hj => by rw [cnm_j hj, cadv_j hj]) (fun a ha => by rw [cnm_ne ha, cadv_ne ha]) (fun j hj => by rw [nM_k (Or.inr hj), adv_k (Or.inr hj)]) (fun a ha => by rw [nM_ne ha, adv_ne ha])
    have hn2 := NR_neg p3
    have e0 : crd (cadv m) P = crd2 (cnm (cadv (cnm (cadv m)))) P (cn (cadv m)) (cn (cadv (cnm (cadv m)))) := if_pos (by rw [es]; exact d1)
    rw [e0, crd2]
    by_cases c1 : cn (cadv m) = -1
    · have e1 : letR ν 100 = 1 := if_pos (hn.mp c1)
      rw [if_pos (Or.inl c1), e1]
      exact Tk_bad (by decide)
    have c2 : ¬ rn (adv ν) < 0 := fun z => c1 (hn.mpr z)
    by_cases c3 : cn (cadv (cnm (cadv m))) = -1
    · have e1 : letR ν 100 = 1 := (if_neg c2).trans ((if_neg (fun z => z rfl)).trans ((if_neg (fun z => z d1)).trans (if_pos (hn2.mp c3))))
      rw [if_pos (Or.inr c3), e1]
      exact Tk_bad (by decide)
    have c4 : ¬ rn (adv (nM (adv ν))) < 0 := fun z => c3 (hn2.mpr z)
    have e1 : letR ν 100 = if rn (adv ν) ≤ 5000 ∧ (rn (adv ν) ≤ rn (adv (nM (adv ν))) ∧ rn (adv (nM (adv ν))) ≤ 5000) then 0 else 2 := (if_neg c2).trans ((if_neg (fun z => z rfl)).trans ((if_neg (fun z => z d1)).trans (if_neg c4)))
    have e2 : letF ν 100 = gf_order (nM (adv (nM (adv ν)))) 3 (rn (adv ν)) (rn (adv (nM (adv ν)))) := (if_neg c2).trans ((if_neg (fun z => z rfl)).trans ((if_neg (fun z => z d1)).trans (if_neg c4)))
    obtain ⟨l1, l2, l3⟩ := NR_le (k := 5000) q3 c1 (Int32.le_refl _)
    obtain ⟨t1, t2, t3⟩ := NR_le (k := 5000) p3 c3 (Int32.le_refl _)
    rw [if_neg (fun z => z.elim c1 c3), e1]
    by_cases ok : rn (adv ν) ≤ 5000 ∧ (rn (adv ν) ≤ rn (adv (nM (adv ν))) ∧ rn (adv (nM (adv ν))) ≤ 5000)
    · have f1 : cn (cadv m) = rn (adv ν) := l2 (by grind)
      have f2 : cn (cadv (cnm (cadv m))) = rn (adv (nM (adv ν))) := t2 (by grind)
      rw [if_pos ok, if_pos rfl, e2, f1, f2, if_neg (by grind)]
      have h5' : 2 * bnr (ν 58) P ≤ A := h5
      obtain ⟨P', O', r⟩ := one_sim (w := 3) (a := rn (adv ν)) (b := rn (adv (nM (adv ν)))) p1 k2 k3 (by omega) (by rw [k9, g9]; omega) k7 k8 (Or.inr (Or.inr (Or.inr (Or.inl ⟨rfl, l3, ok.2.1, ok.2.2⟩)))) (by decide) (by decide)
      exact Or.inl ⟨rfl, A4, P', O', r, by omega⟩
    · have f0 : 5000 < cn (cadv (cnm (cadv m))) ∨ cn (cadv (cnm (cadv m))) < cn (cadv m) := by
        by_cases y1 : 5000 < rn (adv (nM (adv ν)))
        · exact Or.inl (t1.mpr y1)
        · have f2 := t2 y1
          rw [f2]
          by_cases y2 : 5000 < rn (adv ν)
          · have := l1.mpr y2
            right
            grind
          · have f1 := l2 y2
            rw [f1]
            right
            grind
      rw [if_neg ok, if_pos f0]
      exact Tk_bad (by decide)
  · have e0 : crd (cadv m) P = crd2 (cnm (cadv m)) P (cn (cadv m)) (-1) := if_neg (by rw [es]; exact d1)
    have e1 : letR ν 100 = 1 := by
      by_cases c2 : rn (adv ν) < 0
      · exact if_pos c2
      · exact (if_neg c2).trans ((if_neg (fun z => z rfl)).trans (if_pos d1))
    rw [e0, crd2, if_pos (Or.inr rfl), e1]
    exact Tk_bad (by decide)
