/-! the text read: what stands behind it -/
theorem irM_39 {ν : Mem} {j : Nat} (h : j ≠ 19 ∧ j ≠ 27 ∧ j ≠ 28 ∧ j ≠ 29 ∧ j ≠ 30 ∧ j ≠ 32 ∧ j ≠ 33) : irM ν 39 j = ν 39 j := by
  obtain ⟨h1, h2, h3, h4, h5, h6, h7⟩ := h
  rw [irM, ms_j h1, ms_j h3, ms_j h2, rdP_k (by decide) (by decide) (by decide) (by decide) (by decide) (Or.inr ⟨h4, h5, h6, h7⟩)]
theorem irM_ne {ν : Mem} {a : Nat} (h : a ≠ 39 ∧ a ≠ 54 ∧ a ≠ 55 ∧ a ≠ 56 ∧ a ≠ 57 ∧ a ≠ 58) : irM ν a = ν a := by
  obtain ⟨h1, h2, h3, h4, h5, h6⟩ := h
  funext j
  rw [irM, ms_k h1, ms_k h1, ms_k h1, rdP_k h3 h4 h5 h2 h6 (Or.inl h1)]
theorem irM_Lo {ν : Mem} {T : Nat} (h2 : ν 39 19 = nI T) (h3 : T ≤ 60) : Lo ν (irM ν) := Lo_t (rdP_Lo h2 h3) (Lo_t (Lo_t Lo_39 Lo_39) Lo_39)
theorem RD_f {μ ν μ' ν' : Mem} (h : RD μ ν) (ht : RT μ ν) (h10 : μ' 10 = μ 10) (hnv : ν' 39 5 = ν 39 5) (hnh : ν' 39 20 = ν 39 20) (hv : ∀ V, V < nV ν → ν' 43 V = ν 43 V ∧ ν' 44 V = ν 44 V ∧ ν' 45 V = ν 45 V ∧ ν' 42 (ν 43 V).toNatClampNeg = ν 42 (ν 43 V).toNatClampNeg ∧ ν' 40 (ν 43 V).toNatClampNeg = ν 40 (ν 43 V).toNatClampNeg) (nh : nH ν ≤ 12) (lo : Lo ν ν') : RD μ' ν' := by
  intro v hv120
  have e1 : nV ν' = nV ν := by rw [nV, hnv]; rfl
  rw [h10, h v hv120, e1]
  by_cases hlt : v < nV ν
  · rw [if_pos hlt, if_pos hlt]
    obtain ⟨a1, a2, a3, a4, a5⟩ := hv v hlt
    unfold rf_fitting
    rw [hnh]
    exact (fts_v _ (fun H hH => by
      have hH' : H < nH ν := hH
      exact rf_fit_v (fun w a b => rf_atom_v hv120 a1 a2 a3 a4 a5) (RT_TOk ht H hH) (lo.1 H (by omega)) (fun k hk => lo.2 (64 * H + k) (by omega)))).symm
  · rw [if_neg hlt, if_neg hlt]
theorem s_read {μ ν : Mem} (h : RLL μ ν) : RLL (ctt μ) (irM ν) ∧ crP μ 15 10 = (rdP ν).1 ∧ ((rdP ν).1 = 0 → TR (ctt μ) (irM ν) 12) ∧ GR (cso μ) := by
  obtain ⟨h1, h2, h3, h4, h5, h6, h7, h8, h9, h10, h11, h12, h13, h14⟩ := id h
  obtain ⟨a1, a2, a3, a4, a5, a6, a7, a8, a9, a10, a11⟩ := id h1
  obtain ⟨b1, b2, b3, b4, b5, b6, b7, b8, b9, b10, b11⟩ := id h2
  obtain ⟨nt, nv, nr, nb, nh, et, ev, er, eb, eh⟩ := IA_12 h9
  obtain ⟨T, hT, hTe⟩ := nIx (x := ν 39 19) (M := 60) (n := 60) rfl h9.2.2.2.2.1.1 h9.2.2.2.2.1.2
  have tp : TP μ ν T := ⟨by rw [a9]; exact hTe, hTe, hT, b10, h14⟩
  obtain ⟨e1, e2, e3, e4⟩ := read_top tp
  have lo := irM_Lo hTe hT
  have kt := ctt_Kt (μ := μ)
  have k34 : ∀ j, j ≠ 12 → ctt μ 34 j = μ 34 j := fun j hj => by rw [ctt, ms_k (by decide)]; exact crP_k.2.2 j hj
  refine ⟨⟨?_, ?_, ?_, ?_, ?_, ?_, ?_, ?_, ?_, ?_, ?_, ?_, ?_, ?_⟩, e1, fun z => ?_, GR_0 tp⟩
  · unfold RA
    rw [kt 0 (by decide) (by decide) (by decide) (by decide) (by decide), kt 1 (by decide) (by decide) (by decide) (by decide) (by decide), kt 5 (by decide) (by decide) (by decide) (by decide) (by decide), kt 12 (by decide) (by decide) (by decide) (by decide) (by decide), kt 35 (by decide) (by decide) (by decide) (by decide) (by decide), ctt, ms_eq, irM_39 (by decide), irM_39 (by decide), irM_39 (by decide), irM_39 (by decide), irM_39 (by decide), irM_39 (by decide), irM_39 (by decide), irM_39 (by decide), irM_39 (j := 35) (by decide), irM_39 (j := 36) (by decide)]
    refine ⟨a1, a2, a3, a4, a5, a6, a7, a8, ?_, a10, a11⟩
    rw [irM, ms_eq]
  · unfold RB
    rw [kt 2 (by decide) (by decide) (by decide) (by decide) (by decide), kt 3 (by decide) (by decide) (by decide) (by decide) (by decide), kt 4 (by decide) (by decide) (by decide) (by decide) (by decide), kt 6 (by decide) (by decide) (by decide) (by decide) (by decide), kt 7 (by decide) (by decide) (by decide) (by decide) (by decide), kt 8 (by decide) (by decide) (by decide) (by decide) (by decide), kt 9 (by decide) (by decide) (by decide) (by decide) (by decide), kt 13 (by decide) (by decide) (by decide) (by decide) (by decide), kt 14 (by decide) (by decide) (by decide) (by decide) (by decide), kt 17 (by decide) (by decide) (by decide) (by decide) (by decide), kt 38 (by decide) (by decide) (by decide) (by decide) (by decide), irM_ne (a := 40) (by decide), irM_ne (a := 41) (by decide), irM_ne (a := 42) (by decide), irM_ne (a := 43) (by decide), irM_ne (a := 44) (by decide), irM_ne (a := 45) (by decide), irM_ne (a := 46) (by decide), irM_ne (a := 52) (by decide), irM_ne (a := 53) (by decide), irM_ne (a := 51) (by decide), irM_ne (a := 49) (by decide)]
    exact ⟨b1, b2, b3, b4, b5, b6, b7, b8, b9, b10, b11⟩
  · exact RC_c h3 (kt 37 (by decide) (by decide) (by decide) (by decide) (by decide)) (irM_39 (by decide)) (irM_ne (by decide)) (irM_ne (by decide))
  · exact RD_f h4 h5 (kt 10 (by decide) (by decide) (by decide) (by decide) (by decide)) (irM_39 (by decide)) (irM_39 (by decide)) (fun V _ => ⟨by rw [irM_ne (a := 43) (by decide)], by rw [irM_ne (a := 44) (by decide)], by rw [irM_ne (a := 45) (by decide)], by rw [irM_ne (a := 42) (by decide)], by rw [irM_ne (a := 40) (by decide)]⟩) nh lo
  · intro H hH
    have eH : nH (irM ν) = nH ν := by rw [nH, irM_39 (by decide)]; rfl
    rw [eH] at hH
    exact TR_c (h5 H hH) (kt (21 + H) (by omega) (by omega) (by omega) (by omega) (by omega)) (k34 H (by omega)) (lo.1 H (by omega)) (fun k hk => lo.2 (64 * H + k) (by omega))
  · exact RF_c h6 (kt 11 (by decide) (by decide) (by decide) (by decide) (by decide)) (irM_ne (by decide)) (irM_39 (by decide))
  · exact RG_c h7 (kt 36 (by decide) (by decide) (by decide) (by decide) (by decide)) (irM_ne (by decide)) (irM_ne (by decide)) (irM_ne (by decide)) (irM_39 (by decide))
  · right
    have c9 : ctt μ 15 9 = 1 := by rw [ctt, ms_k (by decide)]; exact crP_k.2.1
    have c10 : ctt μ 15 10 = (rdP ν).1 := by rw [ctt, ms_k (by decide)]; exact e1
    have c11 : ctt μ 15 11 = crP μ 15 11 := by rw [ctt, ms_k (by decide)]
    refine ⟨c9, ?_, ?_⟩
    · rw [c10, irM, ms_j (by decide), ms_j (by decide), ms_eq]
    · rw [c10, c11, irM, ms_j (by decide), ms_eq]
      by_cases z : (rdP ν).1 = 0
      · rw [if_pos z, if_pos z]
      · rw [if_neg z, if_neg z, e3 z]
  · unfold IA at h9 ⊢
    rw [irM_39 (j := 1) (by decide), irM_39 (j := 5) (by decide), irM_39 (j := 12) (by decide), irM_39 (j := 15) (by decide), irM_39 (j := 20) (by decide), irM_39 (j := 0) (by decide), irM_39 (j := 35) (by decide)]
    have e19 : irM ν 39 19 = 0 := by rw [irM, ms_eq]
    rw [e19]
    obtain ⟨q1, q2, q3, q4, q5, q6⟩ := h9
    exact ⟨q1, q2, q3, q4, ⟨by decide, by decide⟩, q6⟩
  · exact IB_c h10 (irM_39 (by decide)) (irM_ne (by decide))
  · exact IC_c h11 (irM_39 (by decide)) (irM_39 (by decide)) (irM_39 (by decide)) (irM_ne (by decide)) (irM_ne (by decide)) (irM_ne (by decide))
  · exact ID_c h12 (irM_39 (by decide)) (irM_ne (by decide))
  · exact IE_c h13 (irM_39 (by decide)) (irM_ne (by decide)) (irM_ne (by decide))
  · exact IG_c h14 (irM_ne (by decide))
  · obtain ⟨O, ht⟩ := e4 z
    refine TX_TR (O := O) (TX_c ht ?_ ?_ ?_ ?_ ?_ ?_)
    · rw [ctt, mset_ne 33 (by decide)]
    · rw [ctt, mset_ne 34 (by decide)]
    · rw [irM, mset_ne 54 (by decide), mset_ne 54 (by decide), mset_ne 54 (by decide)]
    · rw [irM, mset_ne 55 (by decide), mset_ne 55 (by decide), mset_ne 55 (by decide)]
    · rw [irM, mset_ne 56 (by decide), mset_ne 56 (by decide), mset_ne 56 (by decide)]
    · rw [irM, mset_ne 57 (by decide), mset_ne 57 (by decide), mset_ne 57 (by decide)]
/-! a text given to a hold -/
theorem dpt_sh {m m' : Mem} {B B' : Nat} : ∀ n, (∀ k, k < n → m' 55 (B' + k) = m 55 (B + k)) → dpt m' B' n = dpt m B n
  | 0, _ => rfl
  | n + 1, h => by
    unfold dpt
    rw [dpt_sh n (fun k hk => h k (by omega)), h n (by omega)]
theorem TR_give {m n m1 n1 : Mem} {H : Nat} (h : TR m n 12) (h1 : ∀ k, k < 60 → m1 (21 + H) k = m 33 k) (h2 : m1 34 H = m 34 12) (h3 : n1 54 H = n 54 12) (h4 : ∀ k, k < (n 54 12).toNatClampNeg → n1 55 (64 * H + k) = n 55 (768 + k) ∧ n1 56 (64 * H + k) = n 56 (768 + k) ∧ n1 57 (64 * H + k) = n 57 (768 + k)) : TR m1 n1 H := by
  obtain ⟨L, t1, t2, t3, t4, t5⟩ := h
  have e : (n 54 12).toNatClampNeg = L := by rw [t2]; exact nI_clamp (by omega)
  rw [e] at h4
  have hd : ∀ k, k ≤ L → dpt n1 (64 * H) k = dpt n 768 k := fun k hk => dpt_sh k (fun j hj => (h4 j (by omega)).1)
  refine ⟨L, by rw [h2]; exact t1, by rw [h3]; exact t2, t3, by rw [hd L (Nat.le_refl L)]; exact t4, fun k hk => ?_⟩
  obtain ⟨q5, q6, q7⟩ := h4 k hk
  have q : tr1 m n 12 k := t5 k hk
  unfold tr1 at q ⊢
  rw [h1 k (by omega), q5, q6, q7, hd k (by omega)]
  exact q
theorem kpm_in {n : Mem} {H a : Nat} (ha : a = 55 ∨ a = 56 ∨ a = 57) : ∀ L k, k < L → kpm n H L a (64 * H + k) = n a (768 + k)
  | 0, k, hk => absurd hk (Nat.not_lt_zero k)
  | L + 1, k, hk => by
    unfold kpm
    by_cases q : k = L
    · subst q
      rcases ha with z | z | z
      · rw [z, ms_k (by decide), ms_k (by decide), ms_eq]
      · rw [z, ms_k (by decide), ms_eq]
      · rw [z, ms_eq]
    · rw [ms_j (by omega), ms_j (by omega), ms_j (by omega)]
      exact kpm_in ha L k (by omega)
theorem kpm_out {n : Mem} {H a j : Nat} (ha : a ≠ 54) : ∀ L, (j < 64 * H ∨ 64 * H + L ≤ j) → kpm n H L a j = n a j
  | 0, _ => ms_k ha
  | L + 1, h => by
    unfold kpm
    rw [ms_j (by omega), ms_j (by omega), ms_j (by omega)]
    exact kpm_out ha L (by omega)
theorem kpm_54j {n : Mem} {H j : Nat} : ∀ L, kpm n H L 54 j = if j = H then n 54 12 else n 54 j
  | 0 => by
    show mset n 54 H (n 54 12) 54 j = _
    by_cases q : j = H
    · rw [if_pos q, q, ms_eq]
    · rw [if_neg q, ms_j q]
  | L + 1 => by
    unfold kpm
    rw [ms_k (by decide), ms_k (by decide), ms_k (by decide)]
    exact kpm_54j L
theorem ctk_34 {m : Mem} {H j : Nat} (hH : H < 13) : ctk m H 34 j = if j = H then m 34 12 else m 34 j := by
  unfold ctk
  by_cases q : j = H
  · rw [if_pos q, q, ms_eq]
  · rw [if_neg q, ms_j q, ctk1, mrow_ne (by omega)]
theorem ctk_row {m : Mem} {H k : Nat} (hH : H < 13) (hk : k < 60) : ctk m H (21 + H) k = m 33 k := by
  rw [ctk, ms_k (by omega), ctk1, mrow_eq, pk_cpy_in (by omega) (by omega)]
  congr 1
  omega
theorem ctk_o {m : Mem} {H a : Nat} (h1 : a ≠ 34) (h2 : a ≠ 21 + H) : ctk m H a = m a := by rw [ctk, mset_ne a h1, ctk1, mrow_ne h2]
theorem cfv_o {m : Mem} {H v : Nat} : ∀ k, k ≤ v → cfv m H k 10 v = m 10 v
  | 0, _ => rfl
  | k + 1, h => by
    unfold cfv
    rw [cfh_o (by omega), cfv_o k (by omega)]
theorem cfv_in {m : Mem} {H v i : Nat} (hH : H < 32) (hi : i < 32) : ∀ k, v < k → bt (cfv m H k 10 v) i = if i = H then ctb m H v else bt (m 10 v) i
  | 0, h => absurd h (Nat.not_lt_zero v)
  | k + 1, h => by
    unfold cfv
    by_cases q : v = k
    · subst q
      rw [cfh_bt hH hi, ctb_r (cfv_r v), cfv_o v (Nat.le_refl v)]
    · rw [cfh_o q]
      exact cfv_in hH hi k (by omega)
theorem RD_give {m n m1 n1 : Mem} {H : Nat} (hx : RLn m1 n1) (hd : RD m n) (h10 : m1 10 = m 10) (hv : nV n1 = nV n) (hH : H < nH n1) (nh : nH n1 ≤ 12) (hle : nH n ≤ nH n1) (hf : ∀ v, v < nV n → ∀ i, i < nH n1 → i ≠ H → i < nH n ∧ rf_fit n1 i (nI v) = rf_fit n i (nI v)) : RD (cfv m1 H (nV n)) n1 := by
  intro v hv120
  rw [hv]
  have z := hd v hv120
  by_cases l : v < nV n
  · rw [if_pos l] at z ⊢
    have e1 : rf_fitting n1 (nI v) = fts n1 (nI v) (nH n1) := rfl
    have e2 : rf_fitting n (nI v) = fts n (nI v) (nH n) := rfl
    rw [e1]
    rw [e2] at z
    apply b_ext
    intro i hi
    rw [cfv_in (by omega) hi _ l, fts_bt hi _ nh, h10, z, fts_bt hi _ (Nat.le_trans hle nh)]
    by_cases q : i = H
    · rw [if_pos q, q, decide_eq_true hH, Bool.true_and]
      exact RLn_fit hx hH hv120
    · rw [if_neg q]
      by_cases y : i < nH n1
      · obtain ⟨f1, f2⟩ := hf v l i y q
        rw [decide_eq_true y, decide_eq_true f1, f2]
      · have y2 : ¬ i < nH n := fun w => y (Nat.lt_of_lt_of_le w hle)
        rw [decide_eq_false y, decide_eq_false y2, Bool.false_and, Bool.false_and]
  · rw [if_neg l] at z ⊢
    rw [cfv_o _ (by omega), h10]
    exact z
/-- the holds' other texts stay -/
theorem other_fit {m n n1 : Mem} {H L : Nat} (h : RLL m n) (hL : L ≤ 60) (h54 : ∀ j, j ≠ H → n1 54 j = n 54 j) (hr : ∀ j, (j < 64 * H ∨ 64 * H + L ≤ j) → n1 55 j = n 55 j ∧ n1 56 j = n 56 j ∧ n1 57 j = n 57 j) (h40 : n1 40 = n 40) (h42 : n1 42 = n 42) (h43 : n1 43 = n 43) (h44 : n1 44 = n 44) (h45 : n1 45 = n 45) {v i : Nat} (hv : v < nV n) (hi : i < nH n) (ne : i ≠ H) : rf_fit n1 i (nI v) = rf_fit n i (nI v) := by
  have nv : nV n ≤ 120 := (IA_12 h.2.2.2.2.2.2.2.2.1).2.1
  exact rf_fit_v (fun w a b => rf_atom_v (by omega) (by rw [h43]) (by rw [h44]) (by rw [h45]) (by rw [h42]) (by rw [h40])) (TR_TOk (h.2.2.2.2.1 i hi)) (h54 i ne) (fun k hk => hr (64 * i + k) (by omega))
theorem s_change {μ ν : Mem} (h : RLL μ ν) (x : Int32) : bz (oc_change μ x ∧ crP μ 15 10 = 0) = bz (ok_change ν x ∧ (rdP ν).1 = 0) ∧ RLL (cg_change μ x) (gf_change ν x) := by
  obtain ⟨r, re, rt, -⟩ := s_read h
  obtain ⟨h1, h2, h3, h4, h5, h6, h7, h8, h9, h10, h11, h12, h13, h14⟩ := id h
  obtain ⟨a1, a2, a3, a4, a5, a6, a7, a8, a9, a10, a11⟩ := id h1
  obtain ⟨b1, b2, b3, b4, b5, b6, b7, b8, b9, b10, b11⟩ := id h2
  obtain ⟨nt, nv, nr, nb, nh, et, ev, er, eb, eh⟩ := IA_12 h9
  have e : oc_change μ x ↔ ok_change ν x := by
    unfold oc_change ok_change
    rw [a8, a1]
    constructor
    · rintro ⟨q1, q2⟩
      obtain ⟨H, hH, he, hc⟩ := h_lt h9 q1
      rw [hc] at q2 ⊢
      exact ⟨q1, fun z => q2 ((s_cov h hH _).mpr z)⟩
    · rintro ⟨q1, q2⟩
      obtain ⟨H, hH, he, hc⟩ := h_lt h9 q1
      rw [hc] at q2 ⊢
      exact ⟨q1, fun z => q2 ((s_cov h hH _).mp z)⟩
  rw [re]
  by_cases ok : ok_change ν x
  · refine ⟨?_, ?_⟩
    · unfold bz
      by_cases z : (rdP ν).1 = 0
      · rw [if_pos ⟨e.mpr ok, z⟩, if_pos ⟨ok, z⟩]
      · rw [if_neg (fun y => z y.2), if_neg (fun y => z y.2)]
    · rw [cg_change, gf_change, if_pos (e.mpr ok), if_pos ok, re]
      by_cases z : (rdP ν).1 = 0
      · rw [if_pos z, if_pos z]
        obtain ⟨H, hH, he, hc⟩ := h_lt h9 ok.1
        have t12 := rt z
        obtain ⟨L, t1, t2, t3, t4, t5⟩ := id t12
        have eL : (irM ν 54 12).toNatClampNeg = L := by rw [t2]; exact nI_clamp (by omega)
        have eV : (μ 5 6).toNatClampNeg = nV (irM ν) := by rw [nV, irM_39 (by decide), a7]
        have eHn : nH (irM ν) = nH ν := by rw [nH, irM_39 (by decide)]; rfl
        rw [hc, eL, eV]
        generalize ctt μ = m at *
        generalize irM ν = n at *
        generalize hm1 : ctk m H = m1
        generalize hn1 : kpm n H L = n1
        have mo : ∀ a, a ≠ 34 → a ≠ 21 + H → m1 a = m a := fun a p q => by rw [← hm1]; exact ctk_o p q
        have no : ∀ a, a ≠ 54 → a ≠ 55 → a ≠ 56 → a ≠ 57 → n1 a = n a := fun a p q s t => by rw [← hn1]; exact kpm_row p q s t L
        have n39 : n1 39 = n 39 := no 39 (by decide) (by decide) (by decide) (by decide)
        have m34 : ∀ j, m1 34 j = if j = H then m 34 12 else m 34 j := fun j => by rw [← hm1]; exact ctk_34 (by omega)
        have n54 : ∀ j, n1 54 j = if j = H then n 54 12 else n 54 j := fun j => by rw [← hn1]; exact kpm_54j L
        have nout : ∀ j, (j < 64 * H ∨ 64 * H + L ≤ j) → n1 55 j = n 55 j ∧ n1 56 j = n 56 j ∧ n1 57 j = n 57 j := fun j hj => by rw [← hn1]; exact ⟨kpm_out (by decide) L hj, kpm_out (by decide) L hj, kpm_out (by decide) L hj⟩
        have nin : ∀ k, k < L → n1 55 (64 * H + k) = n 55 (768 + k) ∧ n1 56 (64 * H + k) = n 56 (768 + k) ∧ n1 57 (64 * H + k) = n 57 (768 + k) := fun k hk => by rw [← hn1]; exact ⟨kpm_in (Or.inl rfl) L k hk, kpm_in (Or.inr (Or.inl rfl)) L k hk, kpm_in (Or.inr (Or.inr rfl)) L k hk⟩
        obtain ⟨r1, r2, r3, r4, r5, r6, r7, r8, r9, r10, r11, r12, r13, r14⟩ := id r
        have x0 : RLn m1 n1 := by
          refine ⟨?_, ?_, RC_c r3 (mo 37 (by decide) (by omega)) (by rw [n39]) (no 47 (by decide) (by decide) (by decide) (by decide)) (no 48 (by decide) (by decide) (by decide) (by decide)), ?_, RF_c r6 (mo 11 (by decide) (by omega)) (no 50 (by decide) (by decide) (by decide) (by decide)) (by rw [n39]), RG_c r7 (mo 36 (by decide) (by omega)) (no 60 (by decide) (by decide) (by decide) (by decide)) (no 61 (by decide) (by decide) (by decide) (by decide)) (no 62 (by decide) (by decide) (by decide) (by decide)) (by rw [n39]), RH_c r8 (mo 15 (by decide) (by omega)) (by rw [n39]) (by rw [n39]), ?_, IB_c r10 (by rw [n39]) (no 40 (by decide) (by decide) (by decide) (by decide)), IC_c r11 (by rw [n39]) (by rw [n39]) (by rw [n39]) (no 43 (by decide) (by decide) (by decide) (by decide)) (no 45 (by decide) (by decide) (by decide) (by decide)) (no 46 (by decide) (by decide) (by decide) (by decide)), ID_c r12 (by rw [n39]) (no 48 (by decide) (by decide) (by decide) (by decide)), IE_c r13 (by rw [n39]) (no 52 (by decide) (by decide) (by decide) (by decide)) (no 53 (by decide) (by decide) (by decide) (by decide)), IG_c r14 (no 51 (by decide) (by decide) (by decide) (by decide))⟩
          · unfold RA at r1 ⊢
            rw [n39, mo 0 (by decide) (by omega), mo 1 (by decide) (by omega), mo 5 (by decide) (by omega), mo 12 (by decide) (by omega), mo 16 (by decide) (by omega), mo 35 (by decide) (by omega)]
            exact r1
          · unfold RB at r2 ⊢
            rw [mo 2 (by decide) (by omega), mo 3 (by decide) (by omega), mo 4 (by decide) (by omega), mo 6 (by decide) (by omega), mo 7 (by decide) (by omega), mo 8 (by decide) (by omega), mo 9 (by decide) (by omega), mo 13 (by decide) (by omega), mo 14 (by decide) (by omega), mo 17 (by decide) (by omega), mo 38 (by decide) (by omega), no 40 (by decide) (by decide) (by decide) (by decide), no 41 (by decide) (by decide) (by decide) (by decide), no 42 (by decide) (by decide) (by decide) (by decide), no 43 (by decide) (by decide) (by decide) (by decide), no 44 (by decide) (by decide) (by decide) (by decide), no 45 (by decide) (by decide) (by decide) (by decide), no 46 (by decide) (by decide) (by decide) (by decide), no 52 (by decide) (by decide) (by decide) (by decide), no 53 (by decide) (by decide) (by decide) (by decide), no 51 (by decide) (by decide) (by decide) (by decide), no 49 (by decide) (by decide) (by decide) (by decide)]
            exact r2
          · intro H' hH'
            have eH' : nH n1 = nH n := by rw [nH, n39]; rfl
            rw [eH'] at hH'
            by_cases q : H' = H
            · subst q
              exact TR_give t12 (fun k hk => by rw [← hm1]; exact ctk_row (by omega) hk) (by rw [m34, if_pos rfl]) (by rw [n54, if_pos rfl]) (fun k hk => nin k (by omega))
            · exact TR_c (r5 H' hH') (mo (21 + H') (by omega) (by omega)) (by rw [m34, if_neg q]) (by rw [n54, if_neg q]) (fun k hk => nout (64 * H' + k) (by omega))
          · unfold IA at r9 ⊢
            rw [n39]
            exact r9
        have eHH : nH n1 = nH n := by rw [nH, n39]; rfl
        refine RLL_10 x0 (cfv_r _) (RD_give x0 r4 (mo 10 (by decide) (by omega)) (by rw [nV, n39]; rfl) (by rw [eHH, eHn]; exact hH) (by rw [eHH, eHn]; exact nh) (by rw [eHH]; exact Nat.le_refl _) (fun v hv i hi ne => ?_))
        rw [eHH] at hi
        exact ⟨hi, other_fit r t3 (fun j hj => by rw [n54, if_neg hj]) nout (no 40 (by decide) (by decide) (by decide) (by decide)) (no 42 (by decide) (by decide) (by decide) (by decide)) (no 43 (by decide) (by decide) (by decide) (by decide)) (no 44 (by decide) (by decide) (by decide) (by decide)) (no 45 (by decide) (by decide) (by decide) (by decide)) hv hi ne⟩
      · rw [if_neg z, if_neg z]
        exact r
  · refine ⟨?_, ?_⟩
    · unfold bz
      rw [if_neg (fun y => ok (e.mp y.1)), if_neg (fun y => ok y.1)]
    · rw [cg_change, gf_change, if_neg (fun z => ok (e.mp z)), if_neg ok]
      exact h
theorem s_hold {μ ν : Mem} (h : RLL μ ν) (d : Int32) : cf_hold μ d = rf_hold ν d ∧ RLL (cg_hold μ d) (gf_hold ν d) := by
  obtain ⟨r, re, rt, -⟩ := s_read h
  obtain ⟨h1, h2, h3, h4, h5, h6, h7, h8, h9, h10, h11, h12, h13, h14⟩ := id h
  obtain ⟨a1, a2, a3, a4, a5, a6, a7, a8, a9, a10, a11⟩ := id h1
  obtain ⟨b1, b2, b3, b4, b5, b6, b7, b8, b9, b10, b11⟩ := id h2
  obtain ⟨nt, nv, nr, nb, nh, et, ev, er, eb, eh⟩ := IA_12 h9
  have e : oc_hold μ d ↔ ok_hold ν d := by unfold oc_hold ok_hold; rw [a8, a1]
  rw [cf_hold, rf_hold, cg_hold, gf_hold, re]
  by_cases ok : ok_hold ν d
  · rw [if_pos (e.mpr ok), if_pos ok, if_pos (e.mpr ok), if_pos ok]
    by_cases z : (rdP ν).1 = 0
    · rw [if_pos z, if_pos z, if_pos z, if_pos z]
      refine ⟨a8, ?_⟩
      have t12 := rt z
      obtain ⟨L, t1, t2, t3, t4, t5⟩ := id t12
      have eL : (irM ν 54 12).toNatClampNeg = L := by rw [t2]; exact nI_clamp (by omega)
      have e20 : irM ν 39 20 = ν 39 20 := irM_39 (by decide)
      have e0 : irM ν 39 0 = ν 39 0 := irM_39 (by decide)
      have eH : (irM ν 39 20).toNatClampNeg = nH ν := by rw [e20]; rfl
      have lt : nH ν < 12 := by
        rcases Nat.lt_or_ge (nH ν) 12 with q | q
        · exact q
        · exact absurd (by rw [eh, show nH ν = 12 by omega]; rfl) ok.2
      have eV : (ctt μ 5 6).toNatClampNeg = nV (irM ν) := by rw [r.1.2.2.2.2.2.2.1]; rfl
      rw [cg_hold1, gf_hold1, cH_eq r, eL, eH, eV]
      have eHn : nH (irM ν) = nH ν := eH
      rw [eHn]
      generalize ctt μ = m at *
      generalize irM ν = n at *
      generalize hHH : nH ν = H at *
      have m12 : m 12 2 = ν 39 20 := by rw [r.1.2.2.2.2.2.2.2.1]; exact e20
      have mH : (m 12 2).toNatClampNeg = H := by rw [m12]; exact hHH
      generalize hm1 : ctk (cg_hadd m d) H = m1
      generalize hn1 : mset (mset (mset (kpm n H L) 52 H d) 53 H (-1)) 39 20 (n 39 20 + 1) = n1
      have mo : ∀ a, a ≠ 12 → a ≠ 13 → a ≠ 14 → a ≠ 34 → a ≠ 21 + H → m1 a = m a := fun a p q s t u => by rw [← hm1, ctk_o t u, hadd_ne p q s]
      have m122 : m1 12 2 = ν 39 20 + 1 := by rw [← hm1, ctk_o (by decide) (by omega), cg_hadd, ms_eq, m12]
      have m13 : m1 13 = upd (m 13) H d := by rw [← hm1, ctk_o (by decide) (by omega), cg_hadd, mset_ne 13 (by decide), mset_ne 13 (by decide), mset_row, mH]
      have m14 : m1 14 = upd (m 14) H (-1) := by rw [← hm1, ctk_o (by decide) (by omega), cg_hadd, mset_ne 14 (by decide), mset_row, mset_ne 14 (by decide), mH]
      have m34 : ∀ j, m1 34 j = if j = H then m 34 12 else m 34 j := fun j => by rw [← hm1, ctk_34 (by omega), hadd_ne (by decide) (by decide) (by decide)]
      have m33 : ∀ k, k < 60 → m1 (21 + H) k = m 33 k := fun k hk => by rw [← hm1, ctk_row (by omega) hk, hadd_ne (by decide) (by decide) (by decide)]
      have no : ∀ a, a ≠ 39 → a ≠ 52 → a ≠ 53 → a ≠ 54 → a ≠ 55 → a ≠ 56 → a ≠ 57 → n1 a = n a := fun a p q s t u v w => by rw [← hn1, mset_ne a p, mset_ne a s, mset_ne a q, kpm_row t u v w L]
      have nk : ∀ a, a ≠ 39 → a ≠ 52 → a ≠ 53 → n1 a = kpm n H L a := fun a p q s => by rw [← hn1, mset_ne a p, mset_ne a s, mset_ne a q]
      have n39 : ∀ j, j ≠ 20 → n1 39 j = n 39 j := fun j p => by rw [← hn1, ms_j p, ms_k (by decide), ms_k (by decide), kpm_39]
      have n20 : n1 39 20 = ν 39 20 + 1 := by rw [← hn1, ms_eq, e20]
      have n52 : n1 52 = upd (n 52) H d := by rw [← hn1, mset_ne 52 (by decide), mset_ne 52 (by decide), mset_row, kpm_row (by decide) (by decide) (by decide) (by decide)]
      have n53 : n1 53 = upd (n 53) H (-1) := by rw [← hn1, mset_ne 53 (by decide), mset_row, mset_ne 53 (by decide), kpm_row (by decide) (by decide) (by decide) (by decide)]
      have n54 : ∀ j, n1 54 j = if j = H then n 54 12 else n 54 j := fun j => by rw [nk 54 (by decide) (by decide) (by decide)]; exact kpm_54j L
      have nout : ∀ j, (j < 64 * H ∨ 64 * H + L ≤ j) → n1 55 j = n 55 j ∧ n1 56 j = n 56 j ∧ n1 57 j = n 57 j := fun j hj => by rw [nk 55 (by decide) (by decide) (by decide), nk 56 (by decide) (by decide) (by decide), nk 57 (by decide) (by decide) (by decide)]; exact ⟨kpm_out (by decide) L hj, kpm_out (by decide) L hj, kpm_out (by decide) L hj⟩
      have nin : ∀ k, k < L → n1 55 (64 * H + k) = n 55 (768 + k) ∧ n1 56 (64 * H + k) = n 56 (768 + k) ∧ n1 57 (64 * H + k) = n 57 (768 + k) := fun k hk => by rw [nk 55 (by decide) (by decide) (by decide), nk 56 (by decide) (by decide) (by decide), nk 57 (by decide) (by decide) (by decide)]; exact ⟨kpm_in (Or.inl rfl) L k hk, kpm_in (Or.inr (Or.inl rfl)) L k hk, kpm_in (Or.inr (Or.inr rfl)) L k hk⟩
      obtain ⟨r1, r2, r3, r4, r5, r6, r7, r8, r9, r10, r11, r12, r13, r14⟩ := id r
      obtain ⟨s1, s2, s3, s4, s5, s6, s7, s8, s9, s10, s11⟩ := id r1
      obtain ⟨u1, u2, u3, u4, u5, u6, u7, u8, u9, u10, u11⟩ := id r2
      have eHH : nH n1 = H + 1 := by
        rw [nH, n20]
        exact inc_cl eh (by omega) (by decide : (12 : Nat) < 2 ^ 30)
      have x0 : RLn m1 n1 := by
        refine ⟨?_, ?_, RC_c r3 (mo 37 (by decide) (by decide) (by decide) (by decide) (by omega)) (n39 12 (by decide)) (no 47 (by decide) (by decide) (by decide) (by decide) (by decide) (by decide) (by decide)) (no 48 (by decide) (by decide) (by decide) (by decide) (by decide) (by decide) (by decide)), ?_, RF_c r6 (mo 11 (by decide) (by decide) (by decide) (by decide) (by omega)) (no 50 (by decide) (by decide) (by decide) (by decide) (by decide) (by decide) (by decide)) (n39 15 (by decide)), RG_c r7 (mo 36 (by decide) (by decide) (by decide) (by decide) (by omega)) (no 60 (by decide) (by decide) (by decide) (by decide) (by decide) (by decide) (by decide)) (no 61 (by decide) (by decide) (by decide) (by decide) (by decide) (by decide) (by decide)) (no 62 (by decide) (by decide) (by decide) (by decide) (by decide) (by decide) (by decide)) (n39 35 (by decide)), RH_c r8 (mo 15 (by decide) (by decide) (by decide) (by decide) (by omega)) (n39 27 (by decide)) (n39 28 (by decide)), ?_, IB_c r10 (n39 1 (by decide)) (no 40 (by decide) (by decide) (by decide) (by decide) (by decide) (by decide) (by decide)), IC_c r11 (n39 1 (by decide)) (n39 5 (by decide)) (n39 0 (by decide)) (no 43 (by decide) (by decide) (by decide) (by decide) (by decide) (by decide) (by decide)) (no 45 (by decide) (by decide) (by decide) (by decide) (by decide) (by decide) (by decide)) (no 46 (by decide) (by decide) (by decide) (by decide) (by decide) (by decide) (by decide)), ID_c r12 (n39 12 (by decide)) (no 48 (by decide) (by decide) (by decide) (by decide) (by decide) (by decide) (by decide)), ?_, IG_c r14 (no 51 (by decide) (by decide) (by decide) (by decide) (by decide) (by decide) (by decide))⟩
        · unfold RA
          rw [m122, n20, mo 0 (by decide) (by decide) (by decide) (by decide) (by omega), mo 1 (by decide) (by decide) (by decide) (by decide) (by omega), mo 5 (by decide) (by decide) (by decide) (by decide) (by omega), mo 16 (by decide) (by decide) (by decide) (by decide) (by omega), mo 35 (by decide) (by decide) (by decide) (by decide) (by omega), n39 0 (by decide), n39 10 (by decide), n39 11 (by decide), n39 12 (by decide), n39 15 (by decide), n39 1 (by decide), n39 5 (by decide), n39 19 (by decide), n39 35 (by decide), n39 36 (by decide)]
          exact ⟨s1, s2, s3, s4, s5, s6, s7, rfl, s9, s10, s11⟩
        · unfold RB
          rw [m13, m14, n52, n53, u8, u9, mo 2 (by decide) (by decide) (by decide) (by decide) (by omega), mo 3 (by decide) (by decide) (by decide) (by decide) (by omega), mo 4 (by decide) (by decide) (by decide) (by decide) (by omega), mo 6 (by decide) (by decide) (by decide) (by decide) (by omega), mo 7 (by decide) (by decide) (by decide) (by decide) (by omega), mo 8 (by decide) (by decide) (by decide) (by decide) (by omega), mo 9 (by decide) (by decide) (by decide) (by decide) (by omega), mo 17 (by decide) (by decide) (by decide) (by decide) (by omega), mo 38 (by decide) (by decide) (by decide) (by decide) (by omega), no 40 (by decide) (by decide) (by decide) (by decide) (by decide) (by decide) (by decide), no 41 (by decide) (by decide) (by decide) (by decide) (by decide) (by decide) (by decide), no 42 (by decide) (by decide) (by decide) (by decide) (by decide) (by decide) (by decide), no 43 (by decide) (by decide) (by decide) (by decide) (by decide) (by decide) (by decide), no 44 (by decide) (by decide) (by decide) (by decide) (by decide) (by decide) (by decide), no 45 (by decide) (by decide) (by decide) (by decide) (by decide) (by decide) (by decide), no 46 (by decide) (by decide) (by decide) (by decide) (by decide) (by decide) (by decide), no 51 (by decide) (by decide) (by decide) (by decide) (by decide) (by decide) (by decide), no 49 (by decide) (by decide) (by decide) (by decide) (by decide) (by decide) (by decide)]
          exact ⟨u1, u2, u3, u4, u5, u6, u7, rfl, rfl, u10, u11⟩
        · intro H' hH'
          rw [eHH] at hH'
          by_cases q : H' = H
          · subst q
            exact TR_give t12 m33 (by rw [m34, if_pos rfl]) (by rw [n54, if_pos rfl]) (fun k hk => nin k (by omega))
          · exact TR_c (r5 H' (by omega)) (mo (21 + H') (by omega) (by omega) (by omega) (by omega) (by omega)) (by rw [m34, if_neg q]) (by rw [n54, if_neg q]) (fun k hk => nout (64 * H' + k) (by omega))
        · unfold IA at r9 ⊢
          rw [n20, n39 1 (by decide), n39 5 (by decide), n39 12 (by decide), n39 15 (by decide), n39 19 (by decide), n39 0 (by decide), n39 35 (by decide)]
          obtain ⟨q1, q2, q3, q4, q5, q6, q7⟩ := r9
          refine ⟨q1, q2, q3, q4, q5, ?_, q7⟩
          rw [eh, nI_1]
          exact ⟨nI_pos' (by omega), nI_le (b := 12) (by omega) (by decide)⟩
        · intro k hk
          rw [eHH] at hk
          rw [n52, n53]
          by_cases q : k = H
          · rw [q, pk_us, pk_us]
            exact ⟨⟨Int32.le_trans h9.2.2.2.2.2.2.1.1 ok.1.1, ok.1.2⟩, Or.inl rfl⟩
          · rw [pk_un q, pk_un q]
            exact r13 k (by omega)
      refine RLL_10 x0 (cfv_r _) (RD_give x0 r4 (mo 10 (by decide) (by decide) (by decide) (by decide) (by omega)) (by rw [nV, n39 5 (by decide)]; rfl) (by omega) (by omega) (by omega) (fun v hv i hi ne => ?_))
      have hi' : i < nH n := by omega
      exact ⟨hi', other_fit r t3 (fun j hj => by rw [n54, if_neg hj]) nout (no 40 (by decide) (by decide) (by decide) (by decide) (by decide) (by decide) (by decide)) (no 42 (by decide) (by decide) (by decide) (by decide) (by decide) (by decide) (by decide)) (no 43 (by decide) (by decide) (by decide) (by decide) (by decide) (by decide) (by decide)) (no 44 (by decide) (by decide) (by decide) (by decide) (by decide) (by decide) (by decide)) (no 45 (by decide) (by decide) (by decide) (by decide) (by decide) (by decide) (by decide)) hv hi' ne⟩
    · rw [if_neg z, if_neg z, if_neg z, if_neg z]
      exact ⟨rfl, r⟩
  · rw [if_neg (fun z => ok (e.mp z)), if_neg ok, if_neg (fun z => ok (e.mp z)), if_neg ok]
    exact ⟨rfl, h⟩
