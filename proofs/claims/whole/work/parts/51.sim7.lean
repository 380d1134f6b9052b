/-! the whole read, both sides; what the reference's reader leaves alone -/
def Lo (m m' : Mem) : Prop := (∀ j, j ≠ 12 → m' 54 j = m 54 j) ∧ ∀ j, j < 768 → m' 55 j = m 55 j ∧ m' 56 j = m 56 j ∧ m' 57 j = m 57 j
theorem Lo_r {m : Mem} : Lo m m := ⟨fun _ _ => rfl, fun _ _ => ⟨rfl, rfl, rfl⟩⟩
theorem Lo_t {m m' m'' : Mem} (h : Lo m m') (g : Lo m' m'') : Lo m m'' := ⟨fun j hj => by rw [g.1 j hj, h.1 j hj], fun j hj => by
  obtain ⟨a1, a2, a3⟩ := g.2 j hj
  obtain ⟨b1, b2, b3⟩ := h.2 j hj
  exact ⟨a1.trans b1, a2.trans b2, a3.trans b3⟩⟩
theorem Lo_c {m m' : Mem} (h4 : m' 54 = m 54) (h5 : m' 55 = m 55) (h6 : m' 56 = m 56) (h7 : m' 57 = m 57) : Lo m m' := ⟨fun j _ => by rw [h4], fun j _ => ⟨by rw [h5], by rw [h6], by rw [h7]⟩⟩
theorem Lo_39 {m : Mem} {j : Nat} {x : Int32} : Lo m (mset m 39 j x) := Lo_c (mset_ne 54 (by decide)) (mset_ne 55 (by decide)) (mset_ne 56 (by decide)) (mset_ne 57 (by decide))
theorem Lo_58 {m : Mem} {j : Nat} {x : Int32} : Lo m (mset m 58 j x) := Lo_c (mset_ne 54 (by decide)) (mset_ne 55 (by decide)) (mset_ne 56 (by decide)) (mset_ne 57 (by decide))
theorem Lo_ord {m : Mem} {w a b : Int32} {n : Nat} (h : m 54 12 = nI n) (hn : n ≤ 60) : Lo m (gf_order m w a b) := by
  rw [gfo_O h hn]
  refine ⟨fun j hj => ?_, fun j hj => ⟨?_, ?_, ?_⟩⟩
  · rw [ms_j hj, ms_k (by decide), ms_k (by decide), ms_k (by decide)]
  · rw [ms_k (by decide), ms_k (by decide), ms_k (by decide), ms_j (by omega)]
  · rw [ms_k (by decide), ms_k (by decide), ms_j (by omega), ms_k (by decide)]
  · rw [ms_k (by decide), ms_j (by omega), ms_k (by decide), ms_k (by decide)]
theorem Lo_nots : ∀ (f : Nat) (m : Mem) (n : Nat), m 54 12 = nI n → n + f ≤ 61 → Lo m (notsM f m)
  | 0, _, _, _, _ => Lo_r
  | f + 1, m, n, hn, h60 => by
    unfold notsM
    split
    · have e : mset (mset m 39 32 (nI f)) 39 33 (m 39 33 - 1) 54 12 = nI n := by rw [ms_k (by decide), ms_k (by decide), hn]
      exact Lo_t (Lo_t (Lo_t Lo_39 Lo_39) (Lo_ord e (by omega))) (Lo_nots f _ (n + 1) (gfo_n e) (by omega))
    · exact Lo_r
theorem Lo_work {le : Int32} : ∀ (f : Nat) (m : Mem) (n : Nat), m 54 12 = nI n → n + f ≤ 61 → Lo m (workM le f m)
  | 0, _, _, _, _ => Lo_r
  | f + 1, m, n, hn, h60 => by
    unfold workM
    split
    · have e : mset m 39 32 (nI f) 54 12 = nI n := by rw [ms_k (by decide), hn]
      exact Lo_t (Lo_t Lo_39 (Lo_ord e (by omega))) (Lo_work f _ (n + 1) (gfo_n e) (by omega))
    · exact Lo_r
theorem Lo_nM {m : Mem} : Lo m (nM m) := Lo_c (nM_ne (by decide)) (nM_ne (by decide)) (nM_ne (by decide)) (nM_ne (by decide))
theorem Lo_adv {m : Mem} : Lo m (adv m) := Lo_39
theorem Lo_let {m : Mem} {c : Int32} {n : Nat} (hn : m 54 12 = nI n) (h60 : n ≤ 60) : Lo m (letF m c) := by
  have k1 : nM (adv m) 54 12 = nI n := by rw [nM_k (Or.inl (by decide)), adv_k (Or.inl (by decide)), hn]
  have k2 : nM (adv (nM (adv m))) 54 12 = nI n := by rw [nM_k (Or.inl (by decide)), adv_k (Or.inl (by decide)), k1]
  have l1 : Lo m (nM (adv m)) := Lo_t Lo_adv Lo_nM
  have l2 : Lo m (nM (adv (nM (adv m)))) := Lo_t l1 (Lo_t Lo_adv Lo_nM)
  unfold letF
  split
  · exact l1
  split
  · exact Lo_t l1 (Lo_ord k1 h60)
  split
  · exact l1
  split
  · exact l2
  · exact Lo_t l2 (Lo_ord k2 h60)
theorem Lo_push {m : Mem} {c : Int32} : Lo m (pushM m c) := Lo_t Lo_58 Lo_39
theorem Lo_beg {m : Mem} {c : Int32} {A T P O : Nat} (h : RI m A T P O) : Lo m (begF m c) := by
  obtain ⟨hp, hP, hO, hPO⟩ := h
  have hT := hp.2.2.2
  have hA := hp.2.2.1
  have hpl : pl m = P := by rw [pl, hP]; exact nI_clamp (by omega)
  unfold begF
  split
  · split
    · exact Lo_r
    · exact Lo_t (Lo_t Lo_39 Lo_push) Lo_adv
  split
  · have l := Lo_let (c := c) hO (by omega)
    split
    · rw [hpl]
      rcases letF_n (c := c) hO with q | q
      · exact Lo_t l (Lo_nots P _ O q (by omega))
      · exact Lo_t l (Lo_nots P _ (O + 1) q (by omega))
    · exact l
  · exact Lo_r
theorem Lo_beh {m : Mem} {c : Int32} {A T P O : Nat} (h : RI m A T P O) : Lo m (behF m c) := by
  obtain ⟨hp, hP, hO, hPO⟩ := h
  have hT := hp.2.2.2
  have hA := hp.2.2.1
  have hpl : pl m = P := by rw [pl, hP]; exact nI_clamp (by omega)
  unfold behF
  rw [hpl]
  split
  · have l := Lo_work (le := 124) P m O hO (by omega)
    obtain ⟨g, g1, g2, g3⟩ := workM_st (le := 124) P m O hP hO
    have hplw : pl (workM 124 P m) = g := by rw [pl, g2]; exact nI_clamp (by omega)
    split
    · exact l
    · refine Lo_t (Lo_t l ?_) Lo_adv
      unfold clsM
      rw [hplw]
      exact Lo_t (Lo_t Lo_39 Lo_39) (Lo_nots (g - 1) _ (O + (P - g)) (by rw [ms_k (by decide), ms_k (by decide)]; exact g3) (by omega))
  split
  · exact Lo_t (Lo_t (Lo_work P m O hO (by omega)) Lo_push) Lo_adv
  · exact Lo_r
theorem Lo_plc {m : Mem} : Lo m (plc m) := Lo_c (plc_ne (by decide)) (plc_ne (by decide)) (plc_ne (by decide)) (plc_ne (by decide))
theorem Lo_fin {w : Bool} {m : Mem} {A T P O : Nat} (h : RI m A T P O) : Lo m (fin w m).2 := by
  obtain ⟨hp, hP, hO, hPO⟩ := h
  have hT := hp.2.2.2
  have hA := hp.2.2.1
  have hpl : pl m = P := by rw [pl, hP]; exact nI_clamp (by omega)
  unfold fin
  split
  · show Lo m (workM 124 (pl m) m)
    rw [hpl]
    exact Lo_work P m O hO (by omega)
  · exact Lo_r
theorem Lo_read (f : Nat) : ∀ (w : Bool) (m : Mem) (A T P O : Nat), RI m A T P O → Lo m (readP f w m).2 := by
  induction f with
  | zero => intro w m A T P O _; exact Lo_r
  | succ f ih =>
    intro w m A T P O h
    obtain ⟨A', h', hA'⟩ := plc_RI h
    rw [readP_s]
    refine Lo_t Lo_plc ?_
    split
    · exact Lo_fin h'
    · rename_i hs
      have hl := sv_pos h'.1 hs
      split
      · split
        · rename_i hr
          obtain ⟨A2, P2, O2, g2, hA2⟩ := behF_RI h' hl hr
          exact Lo_t (Lo_beh h') (ih _ _ A2 T P2 O2 g2)
        · exact Lo_beh h'
      · split
        · rename_i hr
          obtain ⟨A2, P2, O2, g2, hA2⟩ := begF_RI h' hl hr
          exact Lo_t (Lo_beg h') (ih _ _ A2 T P2 O2 g2)
        · exact Lo_beg h'
theorem readP_k {a j : Nat} (h1 : a ≠ 55) (h2 : a ≠ 56) (h3 : a ≠ 57) (h4 : a ≠ 54) (h5 : a ≠ 58) (h6 : a ≠ 39 ∨ (j ≠ 29 ∧ j ≠ 30 ∧ j ≠ 32 ∧ j ≠ 33)) (f : Nat) : ∀ (w : Bool) (m : Mem), (readP f w m).2 a j = m a j := by
  have h7 : a ≠ 39 ∨ (j ≠ 29 ∧ j ≠ 32 ∧ j ≠ 33) := h6.imp id (fun z => ⟨z.1, z.2.2⟩)
  have hp : ∀ m, plc m a j = m a j := fun m => by
    rcases h6 with h | ⟨x, y, -⟩
    · rw [plc_ne h]
    · by_cases e : a = 39
      · subst e
        exact plc_j x y
      · rw [plc_ne e]
  induction f with
  | zero => intro w m; rfl
  | succ f ih =>
    intro w m
    rw [readP_s]
    split
    · rw [fin_k h1 h2 h3 h4 (h7.imp id (fun z => z.2.1)), hp]
    split
    · split
      · rw [ih, behF_k h1 h2 h3 h4 h5 h7, hp]
      · show behF _ _ a j = _
        rw [behF_k h1 h2 h3 h4 h5 h7, hp]
    · split
      · rw [ih, begF_k h1 h2 h3 h4 h5 h7, hp]
      · show begF _ _ a j = _
        rw [begF_k h1 h2 h3 h4 h5 h7, hp]
/-- a tape in both -/
def TP (μ ν : Mem) (T : Nat) : Prop := μ 16 1 = nI T ∧ ν 39 19 = nI T ∧ T ≤ 60 ∧ μ 17 = ν 51 ∧ ∀ i, 0 ≤ ν 51 i
theorem RX_0 {μ ν : Mem} {T : Nat} (h : TP μ ν T) : RX (cso μ) (rd0 ν) false 0 T 0 0 := by
  obtain ⟨h1, h2, h3, h4, h5⟩ := h
  refine ⟨⟨?_, ⟨?_, ?_, Nat.zero_le T, h3⟩, ?_, ?_⟩, ⟨?_, ?_, Nat.zero_le 60, fun i hi => absurd hi (Nat.not_lt_zero i), fun i hi => absurd hi (Nat.not_lt_zero i), fun i hi => absurd hi (Nat.not_lt_zero i), ?_, ?_, Nat.zero_le 12, ?_⟩, ⟨?_, ?_, Nat.zero_le 60, rfl, fun k hk => absurd hk (Nat.not_lt_zero k)⟩, Nat.le_refl 0, Nat.le_refl 0, ?_, ?_, ?_⟩
  · simp [cso, mset_app, nI_0]
  · simp [rd0, mset_app, nI_0]
  · simp [rd0, mset_app, h2]
  · simp [cso, mset_app, h1]
  · funext i
    simp [cso, rd0, mset_app, h4]
  · simp [cso, mset_app, nI_0]
  · simp [rd0, mset_app, nI_0]
  · have e : opn (rd0 ν 58) 0 = 0 := rfl
    rw [e]
    simp [cso, mset_app, nI_0]
  · have e : opn (rd0 ν 58) 0 = 0 := rfl
    rw [e]
    simp [rd0, mset_app, nI_0]
  · have e : ctc (rd0 ν 58) 40 0 = 0 := rfl
    rw [e]
    simp [cso, mset_app, nI_0]
  · simp [cso, mset_app, nI_0]
  · simp [rd0, mset_app, nI_0]
  · simp [cso, mset_app]
  · simp [cso, mset_app]
  · simp [cso, mset_app]
theorem GR_0 {μ ν : Mem} {T : Nat} (h : TP μ ν T) : GR (cso μ) := by
  refine ⟨fun _ => ⟨rd0 ν, false, 0, T, 0, 0, RX_0 h⟩, fun i => ?_⟩
  have e : cso μ 17 i = μ 17 i := by simp [cso, mset_app]
  rw [e, h.2.2.2.1]
  exact h.2.2.2.2 i
theorem read_top {μ ν : Mem} {T : Nat} (h : TP μ ν T) : RE (crP μ) (rdP ν) := by
  have e : (ν 39 19).toNatClampNeg = T := by rw [h.2.1]; exact nI_clamp (by have := h.2.2.1; omega)
  unfold crP rdP
  rw [e]
  exact read_sim (T + 1) 61 false (cso μ) (rd0 ν) 0 T 0 0 (RX_0 h) (GR_0 h).2 (by omega) (by have := h.2.2.1; omega)
theorem RI_0 {ν : Mem} {T : Nat} (h2 : ν 39 19 = nI T) (h3 : T ≤ 60) : RI (rd0 ν) 0 T 0 0 := ⟨⟨by simp [rd0, mset_app, nI_0], by simp [rd0, mset_app, h2], Nat.zero_le T, h3⟩, by simp [rd0, mset_app, nI_0], by simp [rd0, mset_app, nI_0], Nat.le_refl 0⟩
theorem rdP_Lo {ν : Mem} {T : Nat} (h2 : ν 39 19 = nI T) (h3 : T ≤ 60) : Lo ν (rdP ν).2 := by
  refine Lo_t (m' := rd0 ν) ⟨fun j hj => ?_, fun j hj => ⟨?_, ?_, ?_⟩⟩ (Lo_read _ false (rd0 ν) 0 T 0 0 (RI_0 h2 h3))
  · simp [rd0, mset_app, hj]
  · simp [rd0, mset_app]
  · simp [rd0, mset_app]
  · simp [rd0, mset_app]
theorem rdP_k {ν : Mem} {a j : Nat} (h1 : a ≠ 55) (h2 : a ≠ 56) (h3 : a ≠ 57) (h4 : a ≠ 54) (h5 : a ≠ 58) (h6 : a ≠ 39 ∨ (j ≠ 29 ∧ j ≠ 30 ∧ j ≠ 32 ∧ j ≠ 33)) : (rdP ν).2 a j = ν a j := by
  unfold rdP
  rw [readP_k h1 h2 h3 h4 h5 h6, rd0, ms_k h4]
  rcases h6 with h | ⟨x, y, z, w⟩
  · rw [ms_k h, ms_k h, ms_k h]
  · rw [ms_j w, ms_j z, ms_j x]
/-- the class's side -/
theorem Fx_crt (f : Nat) : ∀ m, (∀ a, a ≠ 15 → a ≠ 20 → a ≠ 33 → a ≠ 34 → crt f m a = m a) ∧ crt f m 15 9 = m 15 9 ∧ ∀ j, j ≠ 12 → crt f m 34 j = m 34 j := by
  induction f with
  | zero => intro m; exact ⟨fun _ _ _ _ _ => rfl, rfl, fun _ _ => rfl⟩
  | succ f ih =>
    intro m
    unfold crt
    split
    · obtain ⟨i1, i2, i3⟩ := ih (crt1 m (cqP m))
      have fx := crt1_Fx (m := m) (P := cqP m)
      exact ⟨fun a x y z w => by rw [i1 a x y z w, fx.1 a x y z w, cpl_ne x], by rw [i2, fx.2.1, cpl_j (by decide) (by decide)], fun j hj => by rw [i3 j hj, fx.2.2.2 j hj, cpl_ne (by decide)]⟩
    · exact ⟨fun _ _ _ _ _ => rfl, rfl, fun _ _ => rfl⟩
theorem crP_k {μ : Mem} : (∀ a, a ≠ 15 → a ≠ 20 → a ≠ 33 → a ≠ 34 → crP μ a = μ a) ∧ crP μ 15 9 = 1 ∧ ∀ j, j ≠ 12 → crP μ 34 j = μ 34 j := by
  obtain ⟨i1, i2, i3⟩ := Fx_crt 61 (cso μ)
  refine ⟨fun a x y z w => ?_, ?_, fun j hj => ?_⟩
  · show crt 61 (cso μ) a = _
    rw [i1 a x y z w]
    funext j
    simp [cso, mset_app, x, w]
  · show crt 61 (cso μ) 15 9 = _
    rw [i2]
    simp [cso, mset_app]
  · show crt 61 (cso μ) 34 j = _
    rw [i3 j hj]
    simp [cso, mset_app, hj]
theorem ctt_Kt {μ : Mem} : Kt μ (ctt μ) := fun a h1 h2 h3 h4 h5 => by rw [ctt, mset_ne a h2, crP_k.1 a h1 h3 h4 h5]
