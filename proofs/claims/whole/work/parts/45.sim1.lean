/-! both readers side by side: the pile and the text -/
def ctc (f : Nat → Int32) (c : Int32) : Nat → Nat
  | 0 => 0
  | k + 1 => ctc f c k + (if f k = c then 1 else 0)
theorem ctc_y {f : Nat → Int32} {c : Int32} {k : Nat} (h : f k = c) : ctc f c (k + 1) = ctc f c k + 1 := by simp [ctc, h]
theorem ctc_n {f : Nat → Int32} {c : Int32} {k : Nat} (h : ¬ f k = c) : ctc f c (k + 1) = ctc f c k := by simp [ctc, h]
theorem ctc_x {f : Nat → Int32} {c x : Int32} {k : Nat} (h : f k = x) (hx : ¬ x = c) : ctc f c (k + 1) = ctc f c k := ctc_n (by rw [h]; exact hx)
theorem ctc_c {f g : Nat → Int32} {c : Int32} : ∀ k, (∀ i, i < k → f i = g i) → ctc f c k = ctc g c k
  | 0, _ => rfl
  | k + 1, h => by
    unfold ctc
    rw [ctc_c k (fun i hi => h i (by omega)), h k (by omega)]
abbrev sg (x : Int32) : Prop := x = 33 ∨ x = 38 ∨ x = 40 ∨ x = 124
def bnr (f : Nat → Int32) (P : Nat) : Nat := ctc f 38 P + ctc f 124 P
def opn (f : Nat → Int32) (P : Nat) : Nat := ctc f 33 P + ctc f 40 P
theorem cc33 {f : Nat → Int32} {P : Nat} (h : f P = 33) : opn f (P + 1) = opn f P + 1 ∧ bnr f (P + 1) = bnr f P ∧ ctc f 40 (P + 1) = ctc f 40 P ∧ ctc f 33 (P + 1) = ctc f 33 P + 1 := by
  unfold opn bnr
  rw [ctc_y h, ctc_x h (c := 40) (by decide), ctc_x h (c := 38) (by decide), ctc_x h (c := 124) (by decide)]
  refine ⟨by omega, by omega, rfl, rfl⟩
theorem cc40 {f : Nat → Int32} {P : Nat} (h : f P = 40) : opn f (P + 1) = opn f P + 1 ∧ bnr f (P + 1) = bnr f P ∧ ctc f 40 (P + 1) = ctc f 40 P + 1 := by
  unfold opn bnr
  rw [ctc_y h, ctc_x h (c := 33) (by decide), ctc_x h (c := 38) (by decide), ctc_x h (c := 124) (by decide)]
  refine ⟨by omega, by omega, rfl⟩
theorem ccbi {f : Nat → Int32} {P : Nat} (h : f P = 38 ∨ f P = 124) : opn f (P + 1) = opn f P ∧ bnr f (P + 1) = bnr f P + 1 ∧ ctc f 40 (P + 1) = ctc f 40 P := by
  unfold opn bnr
  rcases h with h | h
  · rw [ctc_y h, ctc_x h (c := 33) (by decide), ctc_x h (c := 40) (by decide), ctc_x h (c := 124) (by decide)]
    refine ⟨by omega, by omega, rfl⟩
  · rw [ctc_y h, ctc_x h (c := 33) (by decide), ctc_x h (c := 40) (by decide), ctc_x h (c := 38) (by decide)]
    refine ⟨by omega, by omega, rfl⟩
def PL (m ν : Mem) (P : Nat) (w : Bool) : Prop := m 15 3 = nI P ∧ ν 39 32 = nI P ∧ P ≤ 60 ∧ (∀ i, i < P → m 20 i = ν 58 i) ∧ (∀ i, i < P → sg (ν 58 i)) ∧ (∀ i, i < P → ν 58 i = 33 → (i + 1 < P ∧ (ν 58 (i + 1) = 33 ∨ ν 58 (i + 1) = 40)) ∨ (w = false ∧ i + 1 = P)) ∧ m 15 4 = nI (opn (ν 58) P) ∧ ν 39 33 = nI (opn (ν 58) P) ∧ opn (ν 58) P ≤ 12 ∧ m 15 5 = nI (ctc (ν 58) 40 P)
theorem PL_c {m ν m' ν' : Mem} {P : Nat} {w : Bool} (h : PL m ν P w) (h3 : m' 15 3 = m 15 3) (h4 : m' 15 4 = m 15 4) (h5 : m' 15 5 = m 15 5) (h20 : m' 20 = m 20) (h58 : ν' 58 = ν 58) (h32 : ν' 39 32 = ν 39 32) (h33 : ν' 39 33 = ν 39 33) : PL m' ν' P w := by
  unfold PL at h ⊢
  rw [h3, h4, h5, h20, h58, h32, h33]
  exact h
def Vo (w a b : Int32) : Prop := (w = 0 ∧ 0 ≤ a ∧ a ≤ 29 ∧ b = 0) ∨ (w = 1 ∧ 0 ≤ a ∧ a ≤ 9 ∧ b = 0) ∨ (w = 2 ∧ 0 ≤ a ∧ a ≤ 5 ∧ b = 0) ∨ (w = 3 ∧ 0 ≤ a ∧ a ≤ b ∧ b ≤ 5000) ∨ ((w = 4 ∨ w = 5 ∨ w = 6) ∧ a = 0 ∧ b = 0)
def tx1 (m ν : Mem) (k : Nat) : Prop := m 33 k = cst (ν 55 (768 + k)) (ν 56 (768 + k)) (ν 57 (768 + k)) ∧ dpt ν 768 k ≤ 30 ∧ (ν 55 (768 + k) = 4 → 1 ≤ dpt ν 768 k) ∧ (4 < ν 55 (768 + k) → 2 ≤ dpt ν 768 k) ∧ Vo (ν 55 (768 + k)) (ν 56 (768 + k)) (ν 57 (768 + k))
def TX (m ν : Mem) (O D : Nat) : Prop := m 34 12 = nI O ∧ ν 54 12 = nI O ∧ O ≤ 60 ∧ dpt ν 768 O = D ∧ ∀ k, k < O → tx1 m ν k
theorem dpt_pre {m m' : Mem} {B : Nat} : ∀ n, (∀ k, k < n → m' 55 (B + k) = m 55 (B + k)) → dpt m' B n = dpt m B n
  | 0, _ => rfl
  | n + 1, h => by
    unfold dpt
    rw [dpt_pre n (fun k hk => h k (by omega)), h n (by omega)]
theorem TX_c {m ν m' ν' : Mem} {O D : Nat} (h : TX m ν O D) (h33 : m' 33 = m 33) (h34 : m' 34 = m 34) (h4 : ν' 54 = ν 54) (h5 : ν' 55 = ν 55) (h6 : ν' 56 = ν 56) (h7 : ν' 57 = ν 57) : TX m' ν' O D := by
  have e : ∀ n, dpt ν' 768 n = dpt ν 768 n := fun n => dpt_pre n (fun k _ => by rw [h5])
  unfold TX tx1 at h ⊢
  simp only [e, h33, h34, h4, h5, h6, h7]
  exact h
theorem gfo_O {ν : Mem} {w a b : Int32} {O : Nat} (h : ν 54 12 = nI O) (hO : O ≤ 60) : gf_order ν w a b = mset (mset (mset (mset ν 55 (768 + O) w) 56 (768 + O) a) 57 (768 + O) b) 54 12 (nI (O + 1)) := by
  have e : (768 + ν 54 12).toNatClampNeg = 768 + O := by
    rw [h, show (768 : Int32) = nI 768 from rfl, nI_add]
    exact nI_clamp (by omega)
  unfold gf_order
  rw [e, h, nI_1]
theorem cad_O {m : Mem} {w a b : Int32} {O : Nat} (h : m 34 12 = nI O) (hO : O < 60) : cad m w a b = mset (mset m 33 O (cst w a b)) 34 12 (nI (O + 1)) := by
  have e : (nI O).toNatClampNeg = O := nI_clamp (by omega)
  have l : nI O < 60 := nI_lt (b := 60) hO (by decide)
  unfold cad
  rw [h, if_pos l, e, nI_1]
theorem TX_add {m ν : Mem} {O D : Nat} {w a b : Int32} (h : TX m ν O D) (hO : O < 60) (hD : D ≤ 30) (hv : Vo w a b) (h4 : w = 4 → 1 ≤ D) (h5 : 4 < w → 2 ≤ D) : TX (cad m w a b) (gf_order ν w a b) (O + 1) (if w = 4 then D else if 4 < w then D - 1 else D + 1) := by
  obtain ⟨x1, x2, x3, x4, x5⟩ := h
  rw [gfo_O x2 x3, cad_O x1 hO]
  generalize hm : mset (mset m 33 O (cst w a b)) 34 12 (nI (O + 1)) = m'
  generalize hn : mset (mset (mset (mset ν 55 (768 + O) w) 56 (768 + O) a) 57 (768 + O) b) 54 12 (nI (O + 1)) = ν'
  have a33 : ∀ k, m' 33 k = if k = O then cst w a b else m 33 k := fun k => by rw [← hm]; simp [mset_app]
  have a55 : ∀ k, ν' 55 (768 + k) = if k = O then w else ν 55 (768 + k) := fun k => by rw [← hn]; simp [mset_app]
  have a56 : ∀ k, ν' 56 (768 + k) = if k = O then a else ν 56 (768 + k) := fun k => by rw [← hn]; simp [mset_app]
  have a57 : ∀ k, ν' 57 (768 + k) = if k = O then b else ν 57 (768 + k) := fun k => by rw [← hn]; simp [mset_app]
  have hd : ∀ n, n ≤ O → dpt ν' 768 n = dpt ν 768 n := fun n hn' => dpt_pre n (fun k hk => by rw [a55, if_neg (by omega)])
  refine ⟨by rw [← hm]; exact ms_eq, by rw [← hn]; exact ms_eq, by omega, ?_, fun k hk => ?_⟩
  · unfold dpt
    rw [a55, if_pos rfl, hd O (Nat.le_refl O), x4]
  · unfold tx1
    rw [a33, a55, a56, a57, hd k (by omega)]
    by_cases e : k = O
    · subst e
      simp only [if_pos]
      rw [x4]
      exact ⟨trivial, hD, h4, h5, hv⟩
    · simp only [if_neg e]
      exact x5 k (by omega)
theorem nots_sim : ∀ (P f : Nat) (m ν : Mem) (O D : Nat), PL m ν P false → ctc (ν 58) 33 P ≤ f → TX m ν O D → 1 ≤ D → D ≤ 30 → P + O ≤ 60 → ∃ P' O', PL (ceo f P m) (notsM P ν) P' true ∧ TX (ceo f P m) (notsM P ν) O' D ∧ P' + O' = P + O ∧ bnr (ν 58) P' = bnr (ν 58) P
  | 0, f, m, ν, O, D, hp, hf, ht, hD, hD2, hPO => by
    have e : ceo f 0 m = m := by cases f <;> rfl
    have e2 : notsM 0 ν = ν := rfl
    rw [e, e2]
    obtain ⟨p1, p2, p3, p4, p5, p6, p7⟩ := hp
    exact ⟨0, O, ⟨p1, p2, p3, p4, p5, fun i hi => absurd hi (Nat.not_lt_zero i), p7⟩, ht, rfl, rfl⟩
  | P + 1, f, m, ν, O, D, hp, hf, ht, hD, hD2, hPO => by
    obtain ⟨p1, p2, p3, p4, p5, p6, p7, p8, p9, p10⟩ := id hp
    by_cases h : ν 58 P = 33
    · obtain ⟨c1, c2, c3, c4⟩ := cc33 h
      obtain ⟨f', hf'⟩ : ∃ f', f = f' + 1 := ⟨f - 1, by omega⟩
      subst hf'
      have e : ceo (f' + 1) (P + 1) m = ceo f' P (ced1 m P) := if_pos (by rw [p4 P (by omega)]; exact h)
      have e2 : notsM (P + 1) ν = notsM P (gf_order (mset (mset ν 39 32 (nI P)) 39 33 (ν 39 33 - 1)) 4 0 0) := if_pos h
      rw [e, e2]
      generalize hnu : gf_order (mset (mset ν 39 32 (nI P)) 39 33 (ν 39 33 - 1)) 4 0 0 = ν1
      have k58 : ν1 58 = ν 58 := by
        funext j
        rw [← hnu, gfo_k (by decide) (by decide) (by decide) (by decide), ms_k (by decide), ms_k (by decide)]
      have hp1 : PL (ced1 m P) ν1 P false := by
        unfold PL
        rw [k58]
        refine ⟨ced1_3, ?_, by omega, fun i hi => ?_, fun i hi => p5 i (by omega), fun i hi hx => ?_, ?_, ?_, by omega, ?_⟩
        · rw [← hnu, gfo_39, ms_j (by decide), ms_eq]
        · rw [ced1, cad_ne (by decide) (by decide), ms_k (by decide), ms_k (by decide)]
          exact p4 i (by omega)
        · rcases p6 i (by omega) hx with ⟨q1, q2⟩ | ⟨-, q2⟩
          · by_cases q3 : i + 1 < P
            · exact Or.inl ⟨q3, q2⟩
            · exact Or.inr ⟨rfl, by omega⟩
          · omega
        · rw [ced1, cad_ne (by decide) (by decide), ms_eq, p7, c1]
          exact nI_pred _
        · rw [← hnu, gfo_39, ms_eq, p8, c1]
          exact nI_pred _
        · rw [ced1, cad_ne (by decide) (by decide), ms_j (by decide), ms_j (by decide), p10, c3]
      have ht0 : TX (mset (mset m 15 3 (nI P)) 15 4 (m 15 4 - 1)) (mset (mset ν 39 32 (nI P)) 39 33 (ν 39 33 - 1)) O D := TX_c ht (by rw [mset_ne 33 (by decide), mset_ne 33 (by decide)]) (by rw [mset_ne 34 (by decide), mset_ne 34 (by decide)]) (by rw [mset_ne 54 (by decide), mset_ne 54 (by decide)]) (by rw [mset_ne 55 (by decide), mset_ne 55 (by decide)]) (by rw [mset_ne 56 (by decide), mset_ne 56 (by decide)]) (by rw [mset_ne 57 (by decide), mset_ne 57 (by decide)])
      have ht1 := TX_add (w := 4) (a := 0) (b := 0) ht0 (by omega) hD2 (Or.inr (Or.inr (Or.inr (Or.inr ⟨Or.inl rfl, rfl, rfl⟩)))) (fun _ => hD) (fun z => absurd z (by decide))
      rw [if_pos rfl, hnu] at ht1
      obtain ⟨P', O', r1, r2, r3, r4⟩ := nots_sim P f' (ced1 m P) ν1 (O + 1) D hp1 (by rw [k58]; omega) ht1 hD hD2 (by omega)
      rw [k58] at r4
      exact ⟨P', O', r1, r2, by omega, by omega⟩
    · have e : ceo f (P + 1) m = m := by
        cases f with
        | zero => rfl
        | succ f => exact if_neg (by rw [p4 P (by omega)]; exact h)
      have e2 : notsM (P + 1) ν = ν := if_neg h
      rw [e, e2]
      refine ⟨P + 1, O, ⟨p1, p2, p3, p4, p5, fun i hi hx => ?_, p7, p8, p9, p10⟩, ht, rfl, rfl⟩
      rcases p6 i hi hx with q | ⟨-, q⟩
      · exact Or.inl q
      · exact absurd (by rw [show P = i by omega]; exact hx) h
/-- the signs that work takes -/
abbrev wkb (le : Int32) : Prop := le = 38 ∨ le = 124
theorem work_sim (le : Int32) (hle : wkb le) : ∀ (P f : Nat) (m ν : Mem) (O : Nat), PL m ν P true → P ≤ f → TX m ν O (bnr (ν 58) P + 1) → bnr (ν 58) P ≤ 29 → P + O ≤ 60 → ∃ P' O', P' ≤ P ∧ PL (cwo 38 le f P m) (workM le P ν) P' true ∧ TX (cwo 38 le f P m) (workM le P ν) O' (bnr (ν 58) P' + 1) ∧ P' + O' = P + O ∧ bnr (ν 58) P' ≤ bnr (ν 58) P ∧ ctc (ν 58) 40 P' = ctc (ν 58) 40 P ∧ (P' = 0 ∨ ν 58 (P' - 1) = 40 ∨ (le = 38 ∧ ν 58 (P' - 1) = 124))
  | 0, f, m, ν, O, hp, hf, ht, hb, hPO => by
    have e : cwo 38 le f 0 m = m := by cases f <;> rfl
    have e2 : workM le 0 ν = ν := rfl
    rw [e, e2]
    exact ⟨0, O, Nat.le_refl 0, hp, ht, rfl, Nat.le_refl _, rfl, Or.inl rfl⟩
  | P + 1, f, m, ν, O, hp, hf, ht, hb, hPO => by
    obtain ⟨p1, p2, p3, p4, p5, p6, p7, p8, p9, p10⟩ := id hp
    have n33 : ¬ ν 58 P = 33 := fun z => by
      rcases p6 P (by omega) z with ⟨q, -⟩ | ⟨q, -⟩
      · omega
      · cases q
    obtain ⟨f', hf'⟩ : ∃ f', f = f' + 1 := ⟨f - 1, by omega⟩
    subst hf'
    have hm : m 20 P = ν 58 P := p4 P (by omega)
    by_cases h : ν 58 P = 38 ∨ ν 58 P = le
    · have hb2 : ν 58 P = 38 ∨ ν 58 P = 124 := by
        rcases h with h | h
        · exact Or.inl h
        · rw [h]; exact hle
      obtain ⟨c1, c2, c3⟩ := ccbi hb2
      have e : cwo 38 le (f' + 1) (P + 1) m = cwo 38 le f' P (cwo1 m P) := if_pos (by rw [hm]; exact h)
      have e2 : workM le (P + 1) ν = workM le P (gf_order (mset ν 39 32 (nI P)) (sgn (ν 58 P)) 0 0) := by
        refine if_pos ⟨fun z => ?_, ?_⟩
        · rcases hb2 with q | q <;> rw [q] at z <;> exact absurd z (by decide)
        · rcases h with q | q
          · left
            rw [q]
            decide
          · rcases hle with q2 | q2
            · left
              rw [q, q2]
              decide
            · right
              exact q2
      rw [e, e2]
      generalize hnu : gf_order (mset ν 39 32 (nI P)) (sgn (ν 58 P)) 0 0 = ν1
      have k58 : ν1 58 = ν 58 := by
        funext j
        rw [← hnu, gfo_k (by decide) (by decide) (by decide) (by decide), ms_k (by decide)]
      have hp1 : PL (cwo1 m P) ν1 P true := by
        unfold PL
        rw [k58]
        refine ⟨by rw [cwo1, ms_eq], ?_, by omega, fun i hi => ?_, fun i hi => p5 i (by omega), fun i hi hx => ?_, ?_, ?_, by omega, ?_⟩
        · rw [← hnu, gfo_39, ms_eq]
        · rw [cwo1_ne (by decide) (by decide) (by decide)]
          exact p4 i (by omega)
        · rcases p6 i (by omega) hx with ⟨q1, q2⟩ | ⟨q1, -⟩
          · by_cases q3 : i + 1 < P
            · exact Or.inl ⟨q3, q2⟩
            · have q4 : i + 1 = P := by omega
              rw [q4] at q2
              exfalso
              rcases q2 with q2 | q2
              · exact n33 q2
              · rcases hb2 with q | q <;> rw [q] at q2 <;> exact absurd q2 (by decide)
          · cases q1
        · rw [cwo1_j (by decide), p7, c1]
        · rw [← hnu, gfo_39, ms_j (by decide), p8, c1]
        · rw [cwo1_j (by decide), p10, c3]
      have ht0 : TX m (mset ν 39 32 (nI P)) O (bnr (ν 58) (P + 1) + 1) := TX_c ht rfl rfl (mset_ne 54 (by decide)) (mset_ne 55 (by decide)) (mset_ne 56 (by decide)) (mset_ne 57 (by decide))
      have hs : sgn (ν 58 P) = if m 20 P = 38 then 5 else 6 := by
        rw [hm, sgn, if_neg n33]
      have h45 : sgn (ν 58 P) = 5 ∨ sgn (ν 58 P) = 6 := by
        rw [hs]
        split
        · exact Or.inl rfl
        · exact Or.inr rfl
      have n4 : ¬ sgn (ν 58 P) = 4 := by rcases h45 with q | q <;> rw [q] <;> decide
      have g4 : 4 < sgn (ν 58 P) := by rcases h45 with q | q <;> rw [q] <;> decide
      have ht1 := TX_add (w := sgn (ν 58 P)) (a := 0) (b := 0) ht0 (by omega) (by omega) (Or.inr (Or.inr (Or.inr (Or.inr ⟨Or.inr h45, rfl, rfl⟩)))) (fun z => absurd z n4) (fun _ => by omega)
      rw [if_neg n4, if_pos g4, hnu, c2] at ht1
      have ht2 : TX (cwo1 m P) ν1 (O + 1) (bnr (ν1 58) P + 1) := by
        rw [k58]
        refine TX_c (m := cad m (sgn (ν 58 P)) 0 0) ht1 ?_ ?_ rfl rfl rfl rfl
        · rw [cwo1, mset_ne 33 (by decide), hs]
        · rw [cwo1, mset_ne 34 (by decide), hs]
      obtain ⟨P', O', r0, r1, r2, r3, r4, r5, r6⟩ := work_sim le hle P f' (cwo1 m P) ν1 (O + 1) hp1 (by omega) ht2 (by rw [k58]; omega) (by omega)
      rw [k58] at r2 r4 r5 r6
      exact ⟨P', O', by omega, r1, r2, by omega, by omega, by omega, r6⟩
    · have e : cwo 38 le (f' + 1) (P + 1) m = m := if_neg (by rw [hm]; exact h)
      have hx : ν 58 P = 40 ∨ (le = 38 ∧ ν 58 P = 124) := by
        rcases p5 P (by omega) with q | q | q | q
        · exact absurd q n33
        · exact absurd (Or.inl q) h
        · exact Or.inl q
        · rcases hle with q2 | q2
          · exact Or.inr ⟨q2, q⟩
          · exact absurd (Or.inr (by rw [q, q2])) h
      have e2 : workM le (P + 1) ν = ν := by
        refine if_neg (fun z => ?_)
        rcases hx with q | ⟨q1, q2⟩
        · exact z.1 q
        · rcases z.2 with y | y
          · exact y q2
          · rw [q1] at y
            exact absurd y (by decide)
      rw [e, e2]
      exact ⟨P + 1, O, Nat.le_refl _, hp, ht, rfl, Nat.le_refl _, rfl, Or.inr hx⟩
