/-! class and reference: what holds between two calls -/
def nT (ν : Mem) : Nat := (ν 39 1).toNatClampNeg
def nV (ν : Mem) : Nat := (ν 39 5).toNatClampNeg
def nR (ν : Mem) : Nat := (ν 39 12).toNatClampNeg
def nB (ν : Mem) : Nat := (ν 39 15).toNatClampNeg
def nH (ν : Mem) : Nat := (ν 39 20).toNatClampNeg
def nK (ν : Mem) : Nat := (ν 39 35).toNatClampNeg
def RA (μ ν : Mem) : Prop := μ 0 13 = ν 39 0 ∧ μ 0 12 = ν 39 10 ∧ μ 0 11 = ν 39 11 ∧ μ 0 8 = ν 39 12 ∧ μ 0 10 = ν 39 15 ∧ μ 1 3 = ν 39 1 ∧ μ 5 6 = ν 39 5 ∧ μ 12 2 = ν 39 20 ∧ μ 16 1 = ν 39 19 ∧ μ 35 1 = ν 39 35 ∧ μ 35 2 = ν 39 36
def RB (μ ν : Mem) : Prop := μ 2 = ν 40 ∧ μ 3 = ν 41 ∧ μ 4 = ν 42 ∧ μ 6 = ν 43 ∧ μ 7 = ν 44 ∧ μ 8 = ν 45 ∧ μ 9 = ν 46 ∧ μ 13 = ν 52 ∧ μ 14 = ν 53 ∧ μ 17 = ν 51 ∧ μ 38 = ν 49
def RC (μ ν : Mem) : Prop := ∀ k, k < 6 → μ 37 k = mMost ν (nI k) (nR ν)
def RD (μ ν : Mem) : Prop := ∀ v, v < 120 → μ 10 v = if v < nV ν then rf_fitting ν (nI v) else 0
def RT (μ ν : Mem) : Prop := ∀ H, H < nH ν → TR μ ν H
def RF (μ ν : Mem) : Prop := ∀ b, b < 10 → ∀ v, v < 120 → bt (μ 11 v) b = decide (¬ ν 50 (120 * b + v) = 0) ∧ (nB ν ≤ b → ν 50 (120 * b + v) = 0)
def RG (μ ν : Mem) : Prop := ∀ i, i < 6000 → i < nK ν → μ 36 i = cpk (ν 60 i) (ν 61 i) (ν 62 i) ∧ (0 ≤ ν 60 i ∧ ν 60 i < 120) ∧ (0 ≤ ν 61 i ∧ ν 61 i ≤ 5000) ∧ (0 ≤ ν 62 i ∧ ν 62 i < 64)
def RH (μ ν : Mem) : Prop := (μ 15 9 = 0 ∧ ν 39 27 = -1 ∧ ν 39 28 = -1) ∨ (μ 15 9 = 1 ∧ ν 39 27 = μ 15 10 ∧ ν 39 28 = if μ 15 10 = 0 then -1 else μ 15 11)
def IA (ν : Mem) : Prop := (0 ≤ ν 39 1 ∧ ν 39 1 ≤ 40) ∧ (0 ≤ ν 39 5 ∧ ν 39 5 ≤ 120) ∧ (0 ≤ ν 39 12 ∧ ν 39 12 ≤ 20) ∧ (0 ≤ ν 39 15 ∧ ν 39 15 ≤ 10) ∧ (0 ≤ ν 39 19 ∧ ν 39 19 ≤ 60) ∧ (0 ≤ ν 39 20 ∧ ν 39 20 ≤ 12) ∧ (0 ≤ ν 39 0 ∧ ν 39 0 ≤ 5000) ∧ (0 ≤ (ν 39 35).toInt ∧ (ν 39 35).toInt ≤ 120 * (ν 39 0).toInt)
def IB (ν : Mem) : Prop := ∀ i, i < nT ν → 0 ≤ ν 40 i ∧ ν 40 i < 6
def IC (ν : Mem) : Prop := ∀ v, v < nV ν → (0 ≤ ν 43 v ∧ ν 43 v < ν 39 1) ∧ (0 ≤ ν 45 v ∧ ν 45 v ≤ ν 39 0) ∧ (0 ≤ ν 46 v ∧ ν 46 v < 64)
def ID (ν : Mem) : Prop := ∀ r, r < nR ν → 0 ≤ ν 48 r ∧ ν 48 r ≤ 4000
def IE (ν : Mem) : Prop := ∀ h, h < nH ν → (0 ≤ ν 52 h ∧ ν 52 h ≤ 5000) ∧ (ν 53 h = -1 ∨ (0 ≤ ν 53 h ∧ ν 53 h ≤ 5000))
def IG (ν : Mem) : Prop := ∀ i, 0 ≤ ν 51 i
def RLL (μ ν : Mem) : Prop := RA μ ν ∧ RB μ ν ∧ RC μ ν ∧ RD μ ν ∧ RT μ ν ∧ RF μ ν ∧ RG μ ν ∧ RH μ ν ∧ IA ν ∧ IB ν ∧ IC ν ∧ ID ν ∧ IE ν ∧ IG ν
/-! what each part rests on -/
theorem mMost_v {ν ν' : Mem} {kd : Int32} : ∀ n, (∀ i, i < n → ν' 47 i = ν 47 i ∧ ν' 48 i = ν 48 i) → mMost ν' kd n = mMost ν kd n
  | 0, _ => rfl
  | n + 1, h => by
    have ih := mMost_v (kd := kd) n (fun i hi => h i (by omega))
    unfold mMost
    rw [ih, (h n (by omega)).1, (h n (by omega)).2]
theorem RC_c {μ ν μ' ν' : Mem} (h : RC μ ν) (h37 : μ' 37 = μ 37) (h12 : ν' 39 12 = ν 39 12) (h47 : ν' 47 = ν 47) (h48 : ν' 48 = ν 48) : RC μ' ν' := by
  intro k hk
  have e := mMost_v (ν := ν) (ν' := ν') (kd := nI k) (nR ν) (fun i _ => ⟨by rw [h47], by rw [h48]⟩)
  have e2 : nR ν' = nR ν := by rw [nR, h12]; rfl
  rw [h37, h k hk, e2, e]
theorem rf_atom_v {ν ν' : Mem} {V : Nat} {w a b : Int32} (hV : V < 120) (h43 : ν' 43 V = ν 43 V) (h44 : ν' 44 V = ν 44 V) (h45 : ν' 45 V = ν 45 V) (h42 : ν' 42 (ν 43 V).toNatClampNeg = ν 42 (ν 43 V).toNatClampNeg) (h40 : ν' 40 (ν 43 V).toNatClampNeg = ν 40 (ν 43 V).toNatClampNeg) : rf_atom ν' w a b (nI V) = rf_atom ν w a b (nI V) := by
  have e : (nI V).toNatClampNeg = V := nI_clamp (by omega)
  unfold rf_atom
  rw [e, h43, h44, h45, h42, h40]
theorem tv_v {ν ν' : Mem} {V B : Nat} (hat : ∀ w a b, rf_atom ν' w a b (nI V) = rf_atom ν w a b (nI V)) : ∀ n, (∀ k, k < n → ν' 55 (B + k) = ν 55 (B + k) ∧ ν' 56 (B + k) = ν 56 (B + k) ∧ ν' 57 (B + k) = ν 57 (B + k)) → ∀ i, tv ν' (nI V) B n i = tv ν (nI V) B n i
  | 0, _, _ => rfl
  | n + 1, h, i => by
    have ih := tv_v hat n (fun k hk => h k (by omega))
    obtain ⟨h5, h6, h7⟩ := h n (by omega)
    have hd : dpt ν' B n = dpt ν B n := dpt_pre n (fun k hk => (h k (by omega)).1)
    unfold tv
    rw [ih, ih, hat, hd, h5, h6, h7]
theorem rf_fit_v {ν ν' : Mem} {V H : Nat} (hat : ∀ w a b, rf_atom ν' w a b (nI V) = rf_atom ν w a b (nI V)) (hT : TOk ν H) (h54 : ν' 54 H = ν 54 H) (hr : ∀ k, k < 60 → ν' 55 (64 * H + k) = ν 55 (64 * H + k) ∧ ν' 56 (64 * H + k) = ν 56 (64 * H + k) ∧ ν' 57 (64 * H + k) = ν 57 (64 * H + k)) : rf_fit ν' H (nI V) = rf_fit ν H (nI V) := by
  obtain ⟨n, h1, h2⟩ := hT
  have e : (ν 54 H).toNatClampNeg = n := by rw [h1]; exact nI_clamp (by have := h2.1; omega)
  unfold rf_fit
  rw [h54, e]
  exact tv_v hat n (fun k hk => hr k (by have := h2.1; omega)) 0
theorem fts_v {ν ν' : Mem} {V : Nat} : ∀ n, (∀ H, H < n → rf_fit ν' H (nI V) = rf_fit ν H (nI V)) → fts ν' (nI V) n = fts ν (nI V) n
  | 0, _ => rfl
  | n + 1, h => by
    unfold fts
    rw [fts_v n (fun H hH => h H (by omega)), h n (by omega)]
theorem RT_TOk {μ ν : Mem} (h : RT μ ν) : ∀ H, H < nH ν → TOk ν H := fun H hH => TR_TOk (h H hH)
theorem RD_c {μ ν μ' ν' : Mem} (h : RD μ ν) (ht : RT μ ν) (h10 : μ' 10 = μ 10) (hnv : ν' 39 5 = ν 39 5) (hnh : ν' 39 20 = ν 39 20) (hv : ∀ V, V < nV ν → ν' 43 V = ν 43 V ∧ ν' 44 V = ν 44 V ∧ ν' 45 V = ν 45 V ∧ ν' 42 (ν 43 V).toNatClampNeg = ν 42 (ν 43 V).toNatClampNeg ∧ ν' 40 (ν 43 V).toNatClampNeg = ν 40 (ν 43 V).toNatClampNeg) (h54 : ν' 54 = ν 54) (h55 : ν' 55 = ν 55) (h56 : ν' 56 = ν 56) (h57 : ν' 57 = ν 57) : RD μ' ν' := by
  intro v hv120
  have e1 : nV ν' = nV ν := by rw [nV, hnv]; rfl
  rw [h10, h v hv120, e1]
  by_cases hlt : v < nV ν
  · rw [if_pos hlt, if_pos hlt]
    obtain ⟨a1, a2, a3, a4, a5⟩ := hv v hlt
    unfold rf_fitting
    rw [hnh]
    exact (fts_v _ (fun H hH => rf_fit_v (fun w a b => rf_atom_v hv120 a1 a2 a3 a4 a5) (RT_TOk ht H hH) (by rw [h54]) (fun k _ => ⟨by rw [h55], by rw [h56], by rw [h57]⟩))).symm
  · rw [if_neg hlt, if_neg hlt]
theorem TR_c {m ν m' ν' : Mem} {H : Nat} (h : TR m ν H) (hr : m' (21 + H) = m (21 + H)) (h34 : m' 34 H = m 34 H) (h54 : ν' 54 H = ν 54 H) (ht : ∀ k, k < 60 → ν' 55 (64 * H + k) = ν 55 (64 * H + k) ∧ ν' 56 (64 * H + k) = ν 56 (64 * H + k) ∧ ν' 57 (64 * H + k) = ν 57 (64 * H + k)) : TR m' ν' H := by
  obtain ⟨n, h1, h2, h3, h4, h5⟩ := h
  have hd : ∀ k, k ≤ n → dpt ν' (64 * H) k = dpt ν (64 * H) k := fun k hk => dpt_pre k (fun j hj => (ht j (by omega)).1)
  refine ⟨n, by rw [h34]; exact h1, by rw [h54]; exact h2, h3, by rw [hd n (Nat.le_refl n)]; exact h4, fun k hk => ?_⟩
  obtain ⟨q5, q6, q7⟩ := ht k (by omega)
  have q := h5 k hk
  unfold tr1 at q ⊢
  rw [hr, q5, q6, q7, hd k (by omega)]
  exact q
theorem RT_c {μ ν μ' ν' : Mem} (h : RT μ ν) (hnh : ν' 39 20 = ν 39 20) (hr : ∀ H, H < 12 → μ' (21 + H) = μ (21 + H)) (h34 : ∀ H, H < 12 → μ' 34 H = μ 34 H) (h12 : nH ν ≤ 12) (h54 : ν' 54 = ν 54) (h55 : ν' 55 = ν 55) (h56 : ν' 56 = ν 56) (h57 : ν' 57 = ν 57) : RT μ' ν' := by
  intro H hH
  have e : nH ν' = nH ν := by rw [nH, hnh]; rfl
  rw [e] at hH
  exact TR_c (h H hH) (hr H (by omega)) (h34 H (by omega)) (by rw [h54]) (fun k _ => ⟨by rw [h55], by rw [h56], by rw [h57]⟩)
theorem RF_c {μ ν μ' ν' : Mem} (h : RF μ ν) (h11 : μ' 11 = μ 11) (h50 : ν' 50 = ν 50) (hnb : ν' 39 15 = ν 39 15) : RF μ' ν' := by
  intro b hb v hv
  have e : nB ν' = nB ν := by rw [nB, hnb]; rfl
  rw [h11, h50, e]
  exact h b hb v hv
theorem RG_c {μ ν μ' ν' : Mem} (h : RG μ ν) (h36 : μ' 36 = μ 36) (h60 : ν' 60 = ν 60) (h61 : ν' 61 = ν 61) (h62 : ν' 62 = ν 62) (hnk : ν' 39 35 = ν 39 35) : RG μ' ν' := by
  intro i hi hk
  have e : nK ν' = nK ν := by rw [nK, hnk]; rfl
  rw [e] at hk
  rw [h36, h60, h61, h62]
  exact h i hi hk
theorem RH_c {μ ν μ' ν' : Mem} (h : RH μ ν) (h15 : μ' 15 = μ 15) (h27 : ν' 39 27 = ν 39 27) (h28 : ν' 39 28 = ν 39 28) : RH μ' ν' := by
  unfold RH at h ⊢
  rw [h15, h27, h28]
  exact h
theorem IB_c {ν ν' : Mem} (h : IB ν) (h1 : ν' 39 1 = ν 39 1) (h40 : ν' 40 = ν 40) : IB ν' := by
  intro i hi
  have e : nT ν' = nT ν := by rw [nT, h1]; rfl
  rw [e] at hi
  rw [h40]
  exact h i hi
theorem IC_c {ν ν' : Mem} (h : IC ν) (h1 : ν' 39 1 = ν 39 1) (h5 : ν' 39 5 = ν 39 5) (h0 : ν' 39 0 = ν 39 0) (h43 : ν' 43 = ν 43) (h45 : ν' 45 = ν 45) (h46 : ν' 46 = ν 46) : IC ν' := by
  intro v hv
  have e : nV ν' = nV ν := by rw [nV, h5]; rfl
  rw [e] at hv
  rw [h1, h0, h43, h45, h46]
  exact h v hv
theorem ID_c {ν ν' : Mem} (h : ID ν) (h12 : ν' 39 12 = ν 39 12) (h48 : ν' 48 = ν 48) : ID ν' := by
  intro r hr
  have e : nR ν' = nR ν := by rw [nR, h12]; rfl
  rw [e] at hr
  rw [h48]
  exact h r hr
theorem IE_c {ν ν' : Mem} (h : IE ν) (h20 : ν' 39 20 = ν 39 20) (h52 : ν' 52 = ν 52) (h53 : ν' 53 = ν 53) : IE ν' := by
  intro k hk
  have e : nH ν' = nH ν := by rw [nH, h20]; rfl
  rw [e] at hk
  rw [h52, h53]
  exact h k hk
theorem IG_c {ν ν' : Mem} (h : IG ν) (h51 : ν' 51 = ν 51) : IG ν' := by
  intro i
  rw [h51]
  exact h i
theorem IA_12 {ν : Mem} (h : IA ν) : nT ν ≤ 40 ∧ nV ν ≤ 120 ∧ nR ν ≤ 20 ∧ nB ν ≤ 10 ∧ nH ν ≤ 12 ∧ ν 39 1 = nI (nT ν) ∧ ν 39 5 = nI (nV ν) ∧ ν 39 12 = nI (nR ν) ∧ ν 39 15 = nI (nB ν) ∧ ν 39 20 = nI (nH ν) := by
  obtain ⟨⟨a0, a1⟩, ⟨b0, b1⟩, ⟨c0, c1⟩, ⟨d0, d1⟩, -, ⟨e0, e1⟩, -⟩ := h
  have ix : ∀ {x M : Int32} {n : Nat}, M.toInt = n → n < 2 ^ 31 → 0 ≤ x → x ≤ M → x.toNatClampNeg ≤ n ∧ x = nI x.toNatClampNeg := fun {x M n} hM hn h0 h1 => by
    obtain ⟨j, hj, he⟩ := nIx (x := x) (M := M) (n := n) hM h0 h1
    have : x.toNatClampNeg = j := by rw [he]; exact nI_clamp (by omega)
    rw [this]
    exact ⟨hj, he⟩
  obtain ⟨t1, t2⟩ := ix (n := 40) (M := 40) rfl (by decide) a0 a1
  obtain ⟨v1, v2⟩ := ix (n := 120) (M := 120) rfl (by decide) b0 b1
  obtain ⟨r1, r2⟩ := ix (n := 20) (M := 20) rfl (by decide) c0 c1
  obtain ⟨k1, k2⟩ := ix (n := 10) (M := 10) rfl (by decide) d0 d1
  obtain ⟨h1, h2⟩ := ix (n := 12) (M := 12) rfl (by decide) e0 e1
  exact ⟨t1, v1, r1, k1, h1, t2, v2, r2, k2, h2⟩
/-- rows below 39 and rows above, but 59, are all that matters -/
def SameR (ν ν' : Mem) : Prop := ∀ a, 39 ≤ a → a < 63 → a ≠ 59 → ν' a = ν a
def SameC (μ μ' : Mem) : Prop := ∀ a, a < 39 → μ' a = μ a
theorem RLL_c {μ ν μ' ν' : Mem} (h : RLL μ ν) (hc : SameC μ μ') (hr : SameR ν ν') : RLL μ' ν' := by
  obtain ⟨h1, h2, h3, h4, h5, h6, h7, h8, h9, h10, h11, h12, h13, h14⟩ := h
  have c : ∀ a, a < 39 → μ' a = μ a := hc
  have r : ∀ a, 39 ≤ a → a < 63 → a ≠ 59 → ν' a = ν a := hr
  have r39 : ν' 39 = ν 39 := r 39 (by decide) (by decide) (by decide)
  obtain ⟨-, -, -, -, n12, -⟩ := IA_12 h9
  refine ⟨?_, ?_, ?_, ?_, ?_, ?_, ?_, ?_, ?_, ?_, ?_, ?_, ?_, ?_⟩
  · unfold RA at h1 ⊢
    rw [r39, c 0 (by decide), c 1 (by decide), c 5 (by decide), c 12 (by decide), c 16 (by decide), c 35 (by decide)]
    exact h1
  · unfold RB at h2 ⊢
    rw [c 2 (by decide), c 3 (by decide), c 4 (by decide), c 6 (by decide), c 7 (by decide), c 8 (by decide), c 9 (by decide), c 13 (by decide), c 14 (by decide), c 17 (by decide), c 38 (by decide), r 40 (by decide) (by decide) (by decide), r 41 (by decide) (by decide) (by decide), r 42 (by decide) (by decide) (by decide), r 43 (by decide) (by decide) (by decide), r 44 (by decide) (by decide) (by decide), r 45 (by decide) (by decide) (by decide), r 46 (by decide) (by decide) (by decide), r 52 (by decide) (by decide) (by decide), r 53 (by decide) (by decide) (by decide), r 51 (by decide) (by decide) (by decide), r 49 (by decide) (by decide) (by decide)]
    exact h2
  · exact RC_c h3 (c 37 (by decide)) (by rw [r39]) (r 47 (by decide) (by decide) (by decide)) (r 48 (by decide) (by decide) (by decide))
  · exact RD_c h4 h5 (c 10 (by decide)) (by rw [r39]) (by rw [r39]) (fun V _ => ⟨by rw [r 43 (by decide) (by decide) (by decide)], by rw [r 44 (by decide) (by decide) (by decide)], by rw [r 45 (by decide) (by decide) (by decide)], by rw [r 42 (by decide) (by decide) (by decide)], by rw [r 40 (by decide) (by decide) (by decide)]⟩) (r 54 (by decide) (by decide) (by decide)) (r 55 (by decide) (by decide) (by decide)) (r 56 (by decide) (by decide) (by decide)) (r 57 (by decide) (by decide) (by decide))
  · exact RT_c h5 (by rw [r39]) (fun H hH => c (21 + H) (by omega)) (fun H _ => by rw [c 34 (by decide)]) n12 (r 54 (by decide) (by decide) (by decide)) (r 55 (by decide) (by decide) (by decide)) (r 56 (by decide) (by decide) (by decide)) (r 57 (by decide) (by decide) (by decide))
  · exact RF_c h6 (c 11 (by decide)) (r 50 (by decide) (by decide) (by decide)) (by rw [r39])
  · exact RG_c h7 (c 36 (by decide)) (r 60 (by decide) (by decide) (by decide)) (r 61 (by decide) (by decide) (by decide)) (r 62 (by decide) (by decide) (by decide)) (by rw [r39])
  · exact RH_c h8 (c 15 (by decide)) (by rw [r39]) (by rw [r39])
  · unfold IA at h9 ⊢
    rw [r39]
    exact h9
  · exact IB_c h10 (by rw [r39]) (r 40 (by decide) (by decide) (by decide))
  · exact IC_c h11 (by rw [r39]) (by rw [r39]) (by rw [r39]) (r 43 (by decide) (by decide) (by decide)) (r 45 (by decide) (by decide) (by decide)) (r 46 (by decide) (by decide) (by decide))
  · exact ID_c h12 (by rw [r39]) (r 48 (by decide) (by decide) (by decide))
  · exact IE_c h13 (by rw [r39]) (r 52 (by decide) (by decide) (by decide)) (r 53 (by decide) (by decide) (by decide))
  · exact IG_c h14 (r 51 (by decide) (by decide) (by decide))
