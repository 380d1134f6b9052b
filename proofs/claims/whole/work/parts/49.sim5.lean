/-! both readers: brackets, the end, the whole -/
theorem adv_ord {m : Mem} {w a b : Int32} : adv (gf_order m w a b) = gf_order (adv m) w a b := by
  have e : adv m 54 12 = m 54 12 := adv_k (Or.inl (by decide))
  have e2 : gf_order m w a b 39 29 = m 39 29 := gfo_39
  unfold adv at e ⊢
  rw [e2]
  unfold gf_order
  rw [e]
  funext x y
  simp only [mset]
  grind
theorem adv_ms {m : Mem} {j : Nat} {x : Int32} (h : j ≠ 29) : adv (mset m 39 j x) = mset (adv m) 39 j x := by
  unfold adv
  rw [ms_j (by omega)]
  funext a b
  simp only [mset]
  grind
theorem adv_nots : ∀ (f : Nat) (m : Mem), adv (notsM f m) = notsM f (adv m)
  | 0, _ => rfl
  | f + 1, m => by
    have e : adv m 58 f = m 58 f := adv_k (Or.inl (by decide))
    have e3 : adv m 39 33 = m 39 33 := adv_k (Or.inr (by decide))
    unfold notsM
    rw [e]
    by_cases h : m 58 f = 33
    · rw [if_pos h, if_pos h, adv_nots f, adv_ord, adv_ms (by decide), adv_ms (by decide), e3]
    · rw [if_neg h, if_neg h]
theorem close_sim {m ν : Mem} {A T P O : Nat} (hx : RX m ν true A T P O) (hl : A < T) : Tk (ccb (cadv m) P) (behF ν 41) true (behR ν 41) A T := by
  have hpl := PL_pl hx.2.1
  obtain ⟨P', O', w0, w1, w2, w3, w4, w5, w6⟩ := wk_top hx (Or.inr rfl)
  obtain ⟨h1, h2, h3, h4, h5, h6, h7, h8⟩ := hx
  obtain ⟨p1, p2, p3, p4, p5, p6, p7, p8, p9, p10⟩ := id w1
  have h60 := h1.2.1.2.2.2
  have h5' : 2 * bnr (ν 58) P + 1 ≤ A := h5
  have e58 := workM_58 (le := 124) P ν
  have m5 : cadv m 15 5 = nI (ctc (ν 58) 40 P') := by rw [cadv_j (by decide), w5]; exact h2.2.2.2.2.2.2.2.2.2
  have eR : behR ν 41 = if workM 124 P ν 39 32 = 0 then 1 else 0 := by rw [behR, if_pos rfl, hpl]
  have eF : behF ν 41 = if workM 124 P ν 39 32 = 0 then workM 124 P ν else adv (clsM (workM 124 P ν)) := by rw [behF, if_pos rfl, hpl]
  rw [eR, eF, ccb, m5]
  by_cases hz : P' = 0
  · have z1 : nI (ctc (ν 58) 40 P') = 0 := by rw [hz]; rfl
    have z2 : workM 124 P ν 39 32 = 0 := by rw [p2, hz]; rfl
    rw [if_pos z1, if_pos z2, if_pos z2]
    exact Tk_bad (by decide)
  · obtain ⟨Q, hQ⟩ : ∃ Q, P' = Q + 1 := ⟨P' - 1, by omega⟩
    subst hQ
    have top : ν 58 Q = 40 := by
      rcases w6 with q | q | ⟨q, -⟩
      · omega
      · rw [Nat.add_sub_cancel] at q; exact q
      · exact absurd q (by decide)
    obtain ⟨c1, c2, c3⟩ := cc40 top
    have hc40 : ctc (ν 58) 40 Q ≤ opn (ν 58) Q := by unfold opn; omega
    rw [e58] at p4 p5 p6 p7 p8 p9 p10
    have z1 : ¬ nI (ctc (ν 58) 40 (Q + 1)) = 0 := by rw [c3]; exact nI_ne0 (by omega) (by omega)
    have z2 : ¬ workM 124 P ν 39 32 = 0 := by rw [p2]; exact nI_ne0 (by omega) (by omega)
    have hplw : pl (workM 124 P ν) = Q + 1 := PL_pl w1
    have hq : cqP (cwo 38 124 60 P (cadv m)) = Q + 1 := by rw [cqP, p1]; exact nI_clamp (by omega)
    rw [if_neg z1, if_neg z2, if_neg z2, hq, clsM, hplw, Nat.add_sub_cancel, adv_nots]
    left
    generalize hm : cwo 38 124 60 P (cadv m) = m1 at *
    have m1ne : ∀ a, a ≠ 15 → a ≠ 33 → a ≠ 34 → m1 a = m a := fun a x y z => by rw [← hm, cwo_ne y z x, cadv_ne x]
    have m1j : ∀ j, j ≠ 3 → m1 15 j = cadv m 15 j := fun j hj => by rw [← hm, cwo_j hj]
    generalize hn : adv (mset (mset (workM 124 P ν) 39 32 (workM 124 P ν 39 32 - 1)) 39 33 (workM 124 P ν 39 33 - 1)) = ν'
    have wk39 : ∀ j, j ≠ 32 → workM 124 P ν 39 j = ν 39 j := fun j hj => workM_k (by decide) (by decide) (by decide) (by decide) (Or.inr hj) P ν
    have kne : ∀ a, a ≠ 39 → ν' a = workM 124 P ν a := fun a x => by rw [← hn, adv_ne x, mset_ne a x, mset_ne a x]
    have k58 : ν' 58 = ν 58 := by rw [kne 58 (by decide), e58]
    have j15 : ∀ j, j ≠ 3 → j ≠ 5 → j ≠ 4 → ccb2 m1 15 j = m1 15 j := fun j x y z => by rw [ccb2, ms_j z, ms_j y, ms_j x]
    have jne : ∀ a, a ≠ 15 → ccb2 m1 a = m1 a := fun a x => by rw [ccb2, mset_ne a x, mset_ne a x, mset_ne a x]
    obtain ⟨P2, O2, r⟩ := end_sim (m := ccb2 m1) (ν := ν') (A := A + 1) (T := T) (P := Q) (O := O') (D := bnr (ν 58) (Q + 1) + 1) (by
        refine ⟨?_, ⟨?_, ?_, by omega, h60⟩, ?_, ?_⟩
        · rw [j15 8 (by decide) (by decide) (by decide), m1j 8 (by decide), cadv, ms_eq, h1.1]
          exact nI_1 A
        · rw [← hn, adv, ms_eq, ms_j (by decide), ms_j (by decide), wk39 29 (by decide), h1.2.1.1]
          exact nI_1 A
        · rw [← hn, adv_k (Or.inr (by decide)), ms_j (by decide), ms_j (by decide), wk39 19 (by decide)]
          exact h1.2.1.2.1
        · rw [jne 16 (by decide), m1ne 16 (by decide) (by decide) (by decide)]
          exact h1.2.2.1
        · rw [jne 17 (by decide), m1ne 17 (by decide) (by decide) (by decide), kne 51 (by decide), workM_51]
          exact h1.2.2.2) (by
        unfold PL
        rw [k58]
        refine ⟨?_, ?_, by omega, fun i hi => ?_, fun i hi => p5 i (by omega), fun i hi hx => ?_, ?_, ?_, by omega, ?_⟩
        · rw [ccb2, ms_j (by decide), ms_j (by decide), ms_eq, p1]
          exact nI_pred Q
        · rw [← hn, adv_k (Or.inr (by decide)), ms_j (by decide), ms_eq, p2]
          exact nI_pred Q
        · rw [jne 20 (by decide)]
          exact p4 i (by omega)
        · rcases p6 i (by omega) hx with ⟨q1, q2⟩ | ⟨q1, -⟩
          · by_cases q3 : i + 1 < Q
            · exact Or.inl ⟨q3, q2⟩
            · exact Or.inr ⟨rfl, by omega⟩
          · cases q1
        · rw [ccb2, ms_eq, p7, c1]
          exact nI_pred _
        · rw [← hn, adv_k (Or.inr (by decide)), ms_eq, p8, c1]
          exact nI_pred _
        · rw [ccb2, ms_j (by decide), ms_eq, p10, c3]
          exact nI_pred _) (TX_c w2 (jne 33 (by decide)) (jne 34 (by decide)) (kne 54 (by decide)) (kne 55 (by decide)) (kne 56 (by decide)) (kne 57 (by decide))) (by rw [k58, c2]) (by omega) (by rw [k58]; omega) (by rw [j15 7 (by decide) (by decide) (by decide), m1j 7 (by decide), cadv_j (by decide)]; exact h7) (by rw [j15 10 (by decide) (by decide) (by decide), m1j 10 (by decide), cadv_j (by decide)]; exact h8)
    exact ⟨rfl, A + 1, P2, O2, r, by omega⟩
theorem beh_sim {m ν : Mem} {A T P O : Nat} {c : Int32} (hx : RX m ν true A T P O) (hl : A < T) : Tk (crb (cadv m) P c) (behF ν c) (decide (c = 41)) (behR ν c) A T := by
  have hpl := PL_pl hx.2.1
  by_cases c1 : c = 41
  · subst c1
    have e : crb (cadv m) P 41 = ccb (cadv m) P := (if_neg (by decide)).trans (if_pos rfl)
    rw [e]
    exact close_sim hx hl
  · have ed : decide (c = 41) = false := decide_eq_false c1
    by_cases c2 : wkb c
    · have eR : behR ν c = 0 := (if_neg c1).trans (if_pos c2)
      have eF : behF ν c = adv (pushM (workM c P ν) c) := by rw [behF, if_neg c1, if_pos c2, hpl]
      have eC : crb (cadv m) P c = crs (cadv m) P c c := by
        rcases c2 with q | q
        · rw [crb, if_pos q, q]
        · rw [crb, if_neg (by rw [q]; decide), if_neg c1, if_pos q, q]
      rw [eR, eF, eC, ed]
      exact Or.inl ⟨rfl, sign_sim hx hl c2⟩
    · have eR : behR ν c = 1 := (if_neg c1).trans (if_neg c2)
      have eC : crb (cadv m) P c = cfl (cadv m) 1 := by rw [crb, if_neg (fun z => c2 (Or.inl z)), if_neg c1, if_neg (fun z => c2 (Or.inr z))]
      rw [eR, eC]
      exact Tk_bad (by decide)
theorem fin_sim {m ν : Mem} {w : Bool} {A T P O : Nat} (hx : RX m ν w A T P O) : (cre (cadv m) P) 15 10 = (fin w ν).1 ∧ (cre (cadv m) P) 15 7 = 1 ∧ ((fin w ν).1 = 0 → ∃ O', TX (cre (cadv m) P) (fin w ν).2 O' 1) := by
  have hpl := PL_pl hx.2.1
  cases w with
  | false =>
    have h6 : cadv m 15 6 = 1 := by rw [cadv_j (by decide)]; exact hx.2.2.2.2.2.1
    have e : cre (cadv m) P = cfl (cadv m) 1 := if_pos (Or.inl (by rw [h6]; decide))
    rw [e]
    exact ⟨cfl_10, cfl_7, fun z => absurd (show (1 : Int32) = 0 from z) (by decide)⟩
  | true =>
    obtain ⟨P', O', w0, w1, w2, w3, w4, w5, w6⟩ := wk_top hx (Or.inr rfl)
    obtain ⟨h1, h2, h3, h4, h5, h6, h7, h8⟩ := hx
    obtain ⟨p1, p2, p3, p4, p5, p6, p7, p8, p9, p10⟩ := id w1
    have e6 : cadv m 15 6 = 0 := by rw [cadv_j (by decide)]; exact h6
    have m5 : cadv m 15 5 = nI (ctc (ν 58) 40 P') := by rw [cadv_j (by decide), w5]; exact h2.2.2.2.2.2.2.2.2.2
    have ef : fin true ν = ((if 0 < workM 124 P ν 39 32 then 1 else 0), workM 124 P ν) := by rw [fin_1, if_pos rfl, hpl]
    rw [ef, cre, e6, m5]
    show _ = (if 0 < workM 124 P ν 39 32 then (1 : Int32) else 0) ∧ _ ∧ ((if 0 < workM 124 P ν 39 32 then (1 : Int32) else 0) = 0 → ∃ O', TX _ (workM 124 P ν) O' 1)
    have hle : ctc (ν 58) 40 P' ≤ opn (ν 58) P' := by unfold opn; omega
    rw [workM_58] at p9
    by_cases hz : P' = 0
    · have z1 : ¬ 0 < nI (ctc (ν 58) 40 P') := by rw [hz]; show ¬ 0 < nI 0; decide
      have z2 : ¬ 0 < workM 124 P ν 39 32 := by rw [p2, hz]; decide
      rw [if_neg (fun y => y.elim (fun q => q rfl) z1), if_neg z2]
      refine ⟨?_, ms_eq, fun _ => ⟨O', ?_⟩⟩
      · rw [ms_j (by decide), cwo_j (by decide), cadv_j (by decide)]
        exact h8
      · rw [hz] at w2
        exact TX_c w2 (mset_ne 33 (by decide)) (mset_ne 34 (by decide)) rfl rfl rfl rfl
    · obtain ⟨Q, hQ⟩ : ∃ Q, P' = Q + 1 := ⟨P' - 1, by omega⟩
      subst hQ
      have top : ν 58 Q = 40 := by
        rcases w6 with q | q | ⟨q, -⟩
        · omega
        · rw [Nat.add_sub_cancel] at q; exact q
        · exact absurd q (by decide)
      obtain ⟨c1, c2, c3⟩ := cc40 top
      have z1 : 0 < nI (ctc (ν 58) 40 (Q + 1)) := by
        rw [c3]
        exact nI_lt (a := 0) (by omega) (by omega)
      have z2 : 0 < workM 124 P ν 39 32 := by
        rw [p2]
        exact nI_lt (a := 0) (by omega) (by omega)
      rw [if_pos (Or.inr z1), if_pos z2]
      exact ⟨cfl_10, cfl_7, fun z => absurd z (by decide)⟩

/-! what the class's reader leaves alone -/
def Fx (m m' : Mem) : Prop := (∀ a, a ≠ 15 → a ≠ 20 → a ≠ 33 → a ≠ 34 → m' a = m a) ∧ m' 15 9 = m 15 9 ∧ m' 15 11 = m 15 11 ∧ ∀ j, j ≠ 12 → m' 34 j = m 34 j
theorem Fx_r {m : Mem} : Fx m m := ⟨fun _ _ _ _ _ => rfl, rfl, rfl, fun _ _ => rfl⟩
theorem Fx_t {m m' m'' : Mem} (h : Fx m m') (g : Fx m' m'') : Fx m m'' := ⟨fun a x y z w => by rw [g.1 a x y z w, h.1 a x y z w], by rw [g.2.1, h.2.1], by rw [g.2.2.1, h.2.2.1], fun j hj => by rw [g.2.2.2 j hj, h.2.2.2 j hj]⟩
theorem Fx_15 {m : Mem} {j : Nat} {x : Int32} (h : j ≠ 9) (h' : j ≠ 11) : Fx m (mset m 15 j x) := ⟨fun a y _ _ _ => mset_ne a y, ms_j (by omega), ms_j (by omega), fun _ _ => ms_k (by decide)⟩
theorem Fx_20 {m : Mem} {j : Nat} {x : Int32} : Fx m (mset m 20 j x) := ⟨fun a _ y _ _ => mset_ne a y, ms_k (by decide), ms_k (by decide), fun _ _ => ms_k (by decide)⟩
theorem Fx_cad {m : Mem} {w a b : Int32} : Fx m (cad m w a b) := by
  refine ⟨fun r _ _ y z => cad_ne y z, by rw [cad_ne (by decide) (by decide)], by rw [cad_ne (by decide) (by decide)], fun j hj => ?_⟩
  unfold cad
  split
  · rw [ms_j hj, ms_k (by decide)]
  · rfl
theorem Fx_cfl {m : Mem} {f : Int32} : Fx m (cfl m f) := Fx_t (Fx_15 (by decide) (by decide)) (Fx_15 (by decide) (by decide))
theorem Fx_cadv {m : Mem} : Fx m (cadv m) := Fx_15 (by decide) (by decide)
theorem Fx_ceo : ∀ (f P : Nat) (m : Mem), Fx m (ceo f P m)
  | 0, _, _ => Fx_r
  | _ + 1, 0, _ => Fx_r
  | f + 1, P + 1, m => by
    unfold ceo
    split
    · exact Fx_t (Fx_t (Fx_t (Fx_15 (by decide) (by decide)) (Fx_15 (by decide) (by decide))) Fx_cad) (Fx_ceo f P (ced1 m P))
    · exact Fx_r
theorem Fx_cend {m : Mem} {P : Nat} : Fx m (cend m P) := Fx_t (Fx_ceo 12 P m) (Fx_15 (by decide) (by decide))
theorem Fx_cwo {a b : Int32} : ∀ (f P : Nat) (m : Mem), Fx m (cwo a b f P m)
  | 0, _, _ => Fx_r
  | _ + 1, 0, _ => Fx_r
  | f + 1, P + 1, m => by
    unfold cwo
    split
    · exact Fx_t (Fx_t Fx_cad (Fx_15 (by decide) (by decide))) (Fx_cwo f P (cwo1 m P))
    · exact Fx_r
theorem Fx_cnM : ∀ (f : Nat) (m : Mem), Fx m (cnM f m)
  | 0, _ => Fx_r
  | f + 1, m => by
    unfold cnM
    split
    · exact Fx_t Fx_cadv (Fx_cnM f (cadv m))
    · exact Fx_r
theorem Fx_csk : ∀ (f : Nat) (m : Mem), Fx m (csk f m)
  | 0, _ => Fx_r
  | f + 1, m => by
    unfold csk
    split
    · exact Fx_t Fx_cadv (Fx_csk f (cadv m))
    · exact Fx_r
theorem Fx_cnm {m : Mem} : Fx m (cnm m) := Fx_cnM 60 m
theorem Fx_crn {m : Mem} {P : Nat} {w mo : Int32} : Fx m (crn m P w mo) := by
  unfold crn
  split
  · exact Fx_t Fx_cnm Fx_cfl
  split
  · exact Fx_t Fx_cnm Fx_cfl
  · exact Fx_t (Fx_t Fx_cnm Fx_cad) Fx_cend
theorem Fx_crd2 {m : Mem} {P : Nat} {a b : Int32} : Fx m (crd2 m P a b) := by
  unfold crd2
  split
  · exact Fx_cfl
  split
  · exact Fx_cfl
  · exact Fx_t Fx_cad Fx_cend
theorem Fx_crd {m : Mem} {P : Nat} : Fx m (crd m P) := by
  unfold crd
  split
  · exact Fx_t (Fx_t (Fx_t Fx_cnm Fx_cadv) Fx_cnm) Fx_crd2
  · exact Fx_t Fx_cnm Fx_crd2
theorem Fx_cpo {m : Mem} {P : Nat} {c : Int32} : Fx m (cpo m P c) := Fx_t Fx_20 (Fx_15 (by decide) (by decide))
theorem Fx_cou {m : Mem} {P : Nat} {c : Int32} : Fx m (cou m P c) := by
  unfold cou
  split
  · refine Fx_t (m' := cou1 m c) ?_ Fx_cpo
    unfold cou1
    split
    · exact Fx_t (Fx_15 (by decide) (by decide)) (Fx_15 (by decide) (by decide))
    · exact Fx_15 (by decide) (by decide)
  · exact Fx_cfl
theorem Fx_cro {m : Mem} {P : Nat} {c : Int32} : Fx m (cro m P c) := by
  unfold cro
  split
  · exact Fx_cou
  split
  · exact Fx_crn
  split
  · exact Fx_crn
  split
  · exact Fx_crn
  split
  · exact Fx_crd
  · exact Fx_cfl
theorem Fx_ccb {m : Mem} {P : Nat} : Fx m (ccb m P) := by
  unfold ccb
  split
  · exact Fx_cfl
  · exact Fx_t (Fx_t (Fx_cwo 60 P m) (Fx_t (Fx_t (Fx_15 (by decide) (by decide)) (Fx_15 (by decide) (by decide))) (Fx_15 (by decide) (by decide)))) Fx_cend
theorem Fx_crs {m : Mem} {P : Nat} {b c : Int32} : Fx m (crs m P b c) := Fx_t (Fx_t (Fx_cwo 60 P m) Fx_cpo) (Fx_15 (by decide) (by decide))
theorem Fx_crb {m : Mem} {P : Nat} {c : Int32} : Fx m (crb m P c) := by
  unfold crb
  split
  · exact Fx_crs
  split
  · exact Fx_ccb
  split
  · exact Fx_crs
  · exact Fx_cfl
theorem Fx_cre {m : Mem} {P : Nat} : Fx m (cre m P) := by
  unfold cre
  split
  · exact Fx_cfl
  · exact Fx_t (Fx_cwo 60 P m) (Fx_15 (by decide) (by decide))
theorem crt1_Fx {m : Mem} {P : Nat} : Fx (cpl m) (crt1 m P) := by
  unfold crt1
  split
  · exact Fx_t Fx_cadv Fx_cre
  split
  · exact Fx_t Fx_cadv Fx_crb
  · exact Fx_t Fx_cadv Fx_cro
