/-! a day's end, days -/
theorem cpn {x b : Int32} : (x &&& ((x &&& (b ^^^ -1)) ^^^ -1)) = x &&& b := by
  apply b_ext
  intro i hi
  rw [b_and, b_xor, b_and, b_xor, b_and, b_m1 i hi]
  cases bt x i <;> cases bt b i <;> rfl
theorem goes_eq {μ ν : Mem} (h : RLL μ ν) {k : Nat} (hk : k < nV ν) : cego μ k = egoes ν k ∧ cwc μ k = gw ν k := by
  obtain ⟨h1, h2, h3, h4, h5, h6, h7, h8, h9, h10, h11, h12, h13, h14⟩ := id h
  obtain ⟨a1, a2, a3, a4, a5, a6, a7, a8, a9, a10, a11⟩ := id h1
  obtain ⟨b1, b2, b3, b4, b5, b6, b7, b8, b9, b10, b11⟩ := id h2
  obtain ⟨nt, nv, nr, nb, nh, et, ev, er, eb, eh⟩ := IA_12 h9
  have e : cwc μ k = gw ν k := by unfold cwc gw; rw [b7, a2]
  refine ⟨?_, e⟩
  unfold cego egoes
  rw [e, a1]
  congr 1
  apply propext
  rw [s_due h hk (Int32.le_refl _) h9.2.2.2.2.2.2.1.2, held_iff h hk, Classical.not_not]
def DD (μ ν : Mem) (k : Nat) : Prop := ced μ k 9 = edm ν k 46 ∧ ced μ k 35 1 = edm ν k 39 35 ∧ ced μ k 35 2 = edm ν k 39 36 ∧ RG (ced μ k) (edm ν k) ∧ ∀ v, v < nV ν → 0 ≤ edm ν k 46 v ∧ edm ν k 46 v < 64
theorem i_cl {x : Int32} (h0 : 0 ≤ x.toInt) (h1 : x.toInt ≤ 700000) : (x + 1).toNatClampNeg = x.toNatClampNeg + 1 ∧ (x.toNatClampNeg : Int) = x.toInt := by
  have e : (x.toNatClampNeg : Int) = x.toInt := by
    show ((x.toInt.toNat : Nat) : Int) = x.toInt
    omega
  refine ⟨?_, e⟩
  have e2 : ((x + 1).toNatClampNeg : Int) = (x + 1).toInt := by
    show (((x + 1).toInt.toNat : Nat) : Int) = (x + 1).toInt
    rw [t_add1 h0 (by omega)]
    omega
  rw [t_add1 h0 (by omega)] at e2
  omega
theorem dd_sim {μ ν : Mem} (h : RLL μ ν) : ∀ k, k ≤ nV ν → DD μ ν k
  | 0, _ => ⟨h.2.1.2.2.2.2.2.2.1, h.1.2.2.2.2.2.2.2.2.2.1, h.1.2.2.2.2.2.2.2.2.2.2, h.2.2.2.2.2.2.1, fun v hv => (h.2.2.2.2.2.2.2.2.2.2.1 v hv).2.2⟩
  | k + 1, hk => by
    obtain ⟨d1, d2, d3, d4, d5⟩ := dd_sim h k (by omega)
    obtain ⟨h1, h2, h3, h4, h5, h6, h7, h8, h9, h10, h11, h12, h13, h14⟩ := id h
    obtain ⟨a1, a2, a3, a4, a5, a6, a7, a8, a9, a10, a11⟩ := id h1
    obtain ⟨b1, b2, b3, b4, b5, b6, b7, b8, b9, b10, b11⟩ := id h2
    obtain ⟨nt, nv, nr, nb, nh, et, ev, er, eb, eh⟩ := IA_12 h9
    obtain ⟨g1, g2⟩ := goes_eq h (k := k) (by omega)
    have ag := edm_ag (μ := ν) k
    have x46 : edm ν k 46 k = ν 46 k := edm_46 k (Nat.le_refl k)
    have x10 : edm ν k 39 10 = ν 39 10 := ag.2 10 (by decide) (by decide)
    have x0 : edm ν k 39 0 = ν 39 0 := ag.2 0 (by decide) (by decide)
    have hk0 : 0 ≤ (edm ν k 39 35).toInt ∧ (edm ν k 39 35).toInt ≤ 700000 := by
      rw [edm_35, Int32.toInt_add]
      have c := cnt_le (f := egoes ν) k (by omega)
      have r := h9.2.2.2.2.2.2.2
      have cl : (ν 39 0).toInt ≤ 5000 := by simpa [Int32.le_iff_toInt_le] using h9.2.2.2.2.2.2.1.2
      simp only [Int.bmod_def]
      omega
    obtain ⟨n1, n2⟩ := i_cl hk0.1 hk0.2
    unfold DD ced edm
    rw [g1]
    by_cases q : egoes ν k = true
    · rw [if_pos q, if_pos q, g2, a1, b7]
      have gw6 : 0 ≤ gw ν k ∧ gw ν k < 64 := and_six (h11 k (by omega)).2.2
      have v46 : (ν 46 k &&& (gw ν k ^^^ -1)) = ν 46 k &&& ν 39 10 := cpn
      generalize hm : mset (ced μ k) 9 k (ν 46 k &&& (gw ν k ^^^ -1)) = m
      have m9 : m 9 = upd (edm ν k 46) k (ν 46 k &&& ν 39 10) := by rw [← hm, mset_row, d1, v46]
      have m35 : ∀ j, m 35 j = ced μ k 35 j := fun j => by rw [← hm, ms_k (by decide)]
      have m36 : m 36 = ced μ k 36 := by rw [← hm, mset_ne 36 (by decide)]
      generalize hn : edm ν k = n at *
      have e46 : erec n k (gw ν k) 46 = upd (n 46) k (ν 46 k &&& ν 39 10) := by
        unfold erec
        rw [mset_ne 46 (by decide), mset_ne 46 (by decide)]
        unfold erc
        split
        · rw [mset_ne 46 (by decide), mset_ne 46 (by decide), mset_ne 46 (by decide), mset_row, x46, x10]
        · rw [mset_row, x46, x10]
      have e35 : erec n k (gw ν k) 39 35 = n 39 35 + 1 := erec_35
      have e36 : erec n k (gw ν k) 39 36 = 31 * n 39 36 + 10000 * nI k + 64 * ν 39 0 + gw ν k := by rw [erec, ms_eq, x0]
      refine ⟨?_, ?_, ?_, ?_, ?_⟩
      · rw [cg_radd_ne (by decide) (by decide), m9, e46]
      · rw [cg_radd_1, m35, d2, e35]
      · rw [e36, cg_radd, ms_eq, m35, d3]
      · intro i hi hik
        have nk : nK (erec n k (gw ν k)) = nK n + 1 := by rw [nK, e35]; exact n1
        rw [nk] at hik
        have hidx : (n 39 35).toNatClampNeg = nK n := rfl
        have c36 : cg_radd m (nI k) (ν 39 0) (gw ν k) 36 i = if n 39 35 < 6000 ∧ i = nK n then cpk (nI k) (ν 39 0) (gw ν k) else ced μ k 36 i := by
          rw [cg_radd, ms_k (by decide), ms_k (by decide), m35, d2]
          by_cases l : n 39 35 < 6000
          · rw [if_pos l, hidx]
            by_cases y : i = nK n
            · rw [if_pos ⟨l, y⟩, y, ms_eq]
            · rw [if_neg (fun z => y z.2), ms_j y, m36]
          · rw [if_neg l, if_neg (fun z => l z.1), m36]
        have r60 : ∀ a x, (a = 60 ∧ x = nI k) ∨ (a = 61 ∧ x = ν 39 0) ∨ (a = 62 ∧ x = gw ν k) → erec n k (gw ν k) a i = if n 39 35 < 6000 ∧ i = nK n then x else n a i := fun a x hax => by
          unfold erec
          have na : a ≠ 39 := by rcases hax with ⟨y, -⟩ | ⟨y, -⟩ | ⟨y, -⟩ <;> rw [y] <;> decide
          have na' : a ≠ 46 := by rcases hax with ⟨y, -⟩ | ⟨y, -⟩ | ⟨y, -⟩ <;> rw [y] <;> decide
          rw [ms_k na, ms_k na]
          unfold erc
          by_cases l : n 39 35 < 6000
          · rw [if_pos l, hidx, x0]
            by_cases y : i = nK n
            · rw [if_pos ⟨l, y⟩, y]
              rcases hax with ⟨z, w⟩ | ⟨z, w⟩ | ⟨z, w⟩
              · rw [z, w, ms_k (by decide), ms_k (by decide), ms_eq]
              · rw [z, w, ms_k (by decide), ms_eq]
              · rw [z, w, ms_eq]
            · rw [if_neg (fun z => y z.2), ms_j y, ms_j y, ms_j y, ms_k na']
          · rw [if_neg l, if_neg (fun z => l z.1), ms_k na']
        rw [c36, r60 60 _ (Or.inl ⟨rfl, rfl⟩), r60 61 _ (Or.inr (Or.inl ⟨rfl, rfl⟩)), r60 62 _ (Or.inr (Or.inr ⟨rfl, rfl⟩))]
        by_cases y : n 39 35 < 6000 ∧ i = nK n
        · simp only [if_pos y]
          exact ⟨trivial, ⟨nI_pos' (by omega), nI_lt (b := 120) (by omega) (by decide)⟩, h9.2.2.2.2.2.2.1, gw6⟩
        · simp only [if_neg y]
          refine d4 i hi ?_
          rcases Nat.lt_or_ge i (nK n) with z | z
          · exact z
          · exfalso
            refine y ⟨?_, by omega⟩
            have e6 : nK n < 6000 := by omega
            simp only [Int32.lt_iff_toInt_lt, Int32.reduceToInt]
            rw [← n2]
            have : (n 39 35).toNatClampNeg < 6000 := e6
            omega
      · intro v hv
        rw [e46]
        by_cases y : v = k
        · rw [y, pk_us]
          exact and_six (h11 k (by omega)).2.2
        · rw [pk_un y]
          exact d5 v hv
    · rw [if_neg q, if_neg q]
      exact ⟨d1, d2, d3, d4, d5⟩
theorem day_sim1 {μ ν : Mem} (h : RLL μ ν) (hc : ν 39 0 < 5000) : RLL (cday μ) (mset (edm ν (nV ν)) 39 0 (ν 39 0 + 1)) := by
  obtain ⟨d1, d2, d3, d4, d5⟩ := dd_sim h (nV ν) (Nat.le_refl _)
  obtain ⟨h1, h2, h3, h4, h5, h6, h7, h8, h9, h10, h11, h12, h13, h14⟩ := id h
  obtain ⟨a1, a2, a3, a4, a5, a6, a7, a8, a9, a10, a11⟩ := id h1
  obtain ⟨b1, b2, b3, b4, b5, b6, b7, b8, b9, b10, b11⟩ := id h2
  obtain ⟨nt, nv, nr, nb, nh, et, ev, er, eb, eh⟩ := IA_12 h9
  have cnv : (μ 5 6).toNatClampNeg = nV ν := by rw [a7]; rfl
  unfold cday
  rw [cnv, a1]
  have cg := ced_ag (μ := μ) (nV ν)
  have ag := edm_ag (μ := ν) (nV ν)
  have hk0 : 0 ≤ (edm ν (nV ν) 39 35).toInt ∧ (edm ν (nV ν) 39 35).toInt ≤ 120 * ((ν 39 0).toInt + 1) := by
    rw [edm_35, Int32.toInt_add]
    have c := cnt_le (f := egoes ν) (nV ν) nv
    have r := h9.2.2.2.2.2.2.2
    have cl : (ν 39 0).toInt ≤ 5000 := by simpa [Int32.le_iff_toInt_le] using h9.2.2.2.2.2.2.1.2
    simp only [Int.bmod_def]
    omega
  generalize hm : mset (ced μ (nV ν)) 0 13 (ν 39 0 + 1) = m
  generalize hn : mset (edm ν (nV ν)) 39 0 (ν 39 0 + 1) = n
  have mo : ∀ a, a ≠ 0 → a ≠ 9 → a ≠ 35 → a ≠ 36 → m a = μ a := fun a x y z w => by rw [← hm, mset_ne a x, cg a y z w]
  have m0 : ∀ j, j ≠ 13 → m 0 j = μ 0 j := fun j x => by rw [← hm, ms_j x, cg 0 (by decide) (by decide) (by decide)]
  have m013 : m 0 13 = ν 39 0 + 1 := by rw [← hm, ms_eq]
  have mk : ∀ a, a ≠ 0 → m a = ced μ (nV ν) a := fun a x => by rw [← hm, mset_ne a x]
  have no : ∀ a, a ≠ 39 → a ≠ 46 → a ≠ 60 → a ≠ 61 → a ≠ 62 → n a = ν a := fun a x y z u v => by rw [← hn, mset_ne a x, ag.1 a x y z u v]
  have n39 : ∀ j, j ≠ 0 → j ≠ 35 → j ≠ 36 → n 39 j = ν 39 j := fun j x y z => by rw [← hn, ms_j x, ag.2 j y z]
  have n0 : n 39 0 = ν 39 0 + 1 := by rw [← hn, ms_eq]
  have nk : ∀ a, a ≠ 39 → n a = edm ν (nV ν) a := fun a x => by rw [← hn, mset_ne a x]
  have n35 : n 39 35 = edm ν (nV ν) 39 35 := by rw [← hn, ms_j (by decide)]
  have n36 : n 39 36 = edm ν (nV ν) 39 36 := by rw [← hn, ms_j (by decide)]
  have c0 : 0 ≤ (ν 39 0).toInt := by simpa [Int32.le_iff_toInt_le] using h9.2.2.2.2.2.2.1.1
  have c1 : (ν 39 0).toInt < 5000 := by simpa [Int32.lt_iff_toInt_lt] using hc
  have ct : (ν 39 0 + 1).toInt = (ν 39 0).toInt + 1 := t_add1 c0 (by omega)
  refine ⟨?_, ?_, ?_, ?_, ?_, ?_, ?_, ?_, ?_, ?_, ?_, ?_, ?_, ?_⟩
  · unfold RA
    rw [m013, m0 12 (by decide), m0 11 (by decide), m0 8 (by decide), m0 10 (by decide), mo 1 (by decide) (by decide) (by decide) (by decide), mo 5 (by decide) (by decide) (by decide) (by decide), mo 12 (by decide) (by decide) (by decide) (by decide), mo 16 (by decide) (by decide) (by decide) (by decide), mk 35 (by decide), n0, n35, n36, n39 10 (by decide) (by decide) (by decide), n39 11 (by decide) (by decide) (by decide), n39 12 (by decide) (by decide) (by decide), n39 15 (by decide) (by decide) (by decide), n39 1 (by decide) (by decide) (by decide), n39 5 (by decide) (by decide) (by decide), n39 20 (by decide) (by decide) (by decide), n39 19 (by decide) (by decide) (by decide)]
    exact ⟨rfl, a2, a3, a4, a5, a6, a7, a8, a9, d2, d3⟩
  · unfold RB
    rw [mo 2 (by decide) (by decide) (by decide) (by decide), mo 3 (by decide) (by decide) (by decide) (by decide), mo 4 (by decide) (by decide) (by decide) (by decide), mo 6 (by decide) (by decide) (by decide) (by decide), mo 7 (by decide) (by decide) (by decide) (by decide), mo 8 (by decide) (by decide) (by decide) (by decide), mk 9 (by decide), mo 13 (by decide) (by decide) (by decide) (by decide), mo 14 (by decide) (by decide) (by decide) (by decide), mo 17 (by decide) (by decide) (by decide) (by decide), mo 38 (by decide) (by decide) (by decide) (by decide), nk 46 (by decide), no 40 (by decide) (by decide) (by decide) (by decide) (by decide), no 41 (by decide) (by decide) (by decide) (by decide) (by decide), no 42 (by decide) (by decide) (by decide) (by decide) (by decide), no 43 (by decide) (by decide) (by decide) (by decide) (by decide), no 44 (by decide) (by decide) (by decide) (by decide) (by decide), no 45 (by decide) (by decide) (by decide) (by decide) (by decide), no 52 (by decide) (by decide) (by decide) (by decide) (by decide), no 53 (by decide) (by decide) (by decide) (by decide) (by decide), no 51 (by decide) (by decide) (by decide) (by decide) (by decide), no 49 (by decide) (by decide) (by decide) (by decide) (by decide)]
    exact ⟨b1, b2, b3, b4, b5, b6, d1, b8, b9, b10, b11⟩
  · exact RC_c h3 (mo 37 (by decide) (by decide) (by decide) (by decide)) (n39 12 (by decide) (by decide) (by decide)) (no 47 (by decide) (by decide) (by decide) (by decide) (by decide)) (no 48 (by decide) (by decide) (by decide) (by decide) (by decide))
  · exact RD_c h4 h5 (mo 10 (by decide) (by decide) (by decide) (by decide)) (n39 5 (by decide) (by decide) (by decide)) (n39 20 (by decide) (by decide) (by decide)) (fun V _ => ⟨by rw [no 43 (by decide) (by decide) (by decide) (by decide) (by decide)], by rw [no 44 (by decide) (by decide) (by decide) (by decide) (by decide)], by rw [no 45 (by decide) (by decide) (by decide) (by decide) (by decide)], by rw [no 42 (by decide) (by decide) (by decide) (by decide) (by decide)], by rw [no 40 (by decide) (by decide) (by decide) (by decide) (by decide)]⟩) (no 54 (by decide) (by decide) (by decide) (by decide) (by decide)) (no 55 (by decide) (by decide) (by decide) (by decide) (by decide)) (no 56 (by decide) (by decide) (by decide) (by decide) (by decide)) (no 57 (by decide) (by decide) (by decide) (by decide) (by decide))
  · exact RT_c h5 (n39 20 (by decide) (by decide) (by decide)) (fun H hH => mo (21 + H) (by omega) (by omega) (by omega) (by omega)) (fun H _ => by rw [mo 34 (by decide) (by decide) (by decide) (by decide)]) nh (no 54 (by decide) (by decide) (by decide) (by decide) (by decide)) (no 55 (by decide) (by decide) (by decide) (by decide) (by decide)) (no 56 (by decide) (by decide) (by decide) (by decide) (by decide)) (no 57 (by decide) (by decide) (by decide) (by decide) (by decide))
  · exact RF_c h6 (mo 11 (by decide) (by decide) (by decide) (by decide)) (no 50 (by decide) (by decide) (by decide) (by decide) (by decide)) (n39 15 (by decide) (by decide) (by decide))
  · exact RG_c d4 (mk 36 (by decide)) (nk 60 (by decide)) (nk 61 (by decide)) (nk 62 (by decide)) n35
  · exact RH_c h8 (mo 15 (by decide) (by decide) (by decide) (by decide)) (n39 27 (by decide) (by decide) (by decide)) (n39 28 (by decide) (by decide) (by decide))
  · unfold IA at h9 ⊢
    rw [n0, n35, n39 1 (by decide) (by decide) (by decide), n39 5 (by decide) (by decide) (by decide), n39 12 (by decide) (by decide) (by decide), n39 15 (by decide) (by decide) (by decide), n39 19 (by decide) (by decide) (by decide), n39 20 (by decide) (by decide) (by decide), ct]
    obtain ⟨q1, q2, q3, q4, q5, q6, q7, q8⟩ := h9
    refine ⟨q1, q2, q3, q4, q5, q6, ⟨?_, ?_⟩, hk0⟩
    · simp only [Int32.le_iff_toInt_le, ct, Int32.reduceToInt]
      omega
    · simp only [Int32.le_iff_toInt_le, ct, Int32.reduceToInt]
      omega
  · exact IB_c h10 (n39 1 (by decide) (by decide) (by decide)) (no 40 (by decide) (by decide) (by decide) (by decide) (by decide))
  · intro v hv
    have env : nV n = nV ν := by rw [nV, n39 5 (by decide) (by decide) (by decide)]; rfl
    rw [env] at hv
    obtain ⟨q1, q2, q3⟩ := h11 v hv
    rw [n39 1 (by decide) (by decide) (by decide), n0, no 43 (by decide) (by decide) (by decide) (by decide) (by decide), no 45 (by decide) (by decide) (by decide) (by decide) (by decide), nk 46 (by decide)]
    refine ⟨q1, ⟨q2.1, ?_⟩, d5 v hv⟩
    have q4 : (ν 45 v).toInt ≤ (ν 39 0).toInt := Int32.le_iff_toInt_le.mp q2.2
    rw [Int32.le_iff_toInt_le, ct]
    omega
  · exact ID_c h12 (n39 12 (by decide) (by decide) (by decide)) (no 48 (by decide) (by decide) (by decide) (by decide) (by decide))
  · exact IE_c h13 (n39 20 (by decide) (by decide) (by decide)) (no 52 (by decide) (by decide) (by decide) (by decide) (by decide)) (no 53 (by decide) (by decide) (by decide) (by decide) (by decide))
  · exact IG_c h14 (no 51 (by decide) (by decide) (by decide) (by decide) (by decide))
theorem daym_39 {ν : Mem} : ∀ k, daym ν k 39 5 = ν 39 5 ∧ daym ν k 39 0 = ν 39 0 + nI k
  | 0 => ⟨rfl, by show ν 39 0 = ν 39 0 + 0; rw [Int32.add_zero]⟩
  | k + 1 => by
    obtain ⟨i1, i2⟩ := daym_39 (ν := ν) k
    unfold daym
    refine ⟨?_, ?_⟩
    · rw [ms_j (by decide), (edm_ag _).2 5 (by decide) (by decide), i1]
    · rw [ms_eq, i2, Int32.add_assoc, nI_1]
theorem days_sim {μ ν : Mem} (h : RLL μ ν) : ∀ k : Nat, (ν 39 0).toInt + k ≤ 5000 → RLL (cdays μ k) (daym ν k)
  | 0, _ => h
  | k + 1, hk => by
    have r := days_sim h k (by omega)
    obtain ⟨i1, i2⟩ := daym_39 (ν := ν) k
    have c0 : 0 ≤ (ν 39 0).toInt := by simpa [Int32.le_iff_toInt_le] using h.2.2.2.2.2.2.2.2.1.2.2.2.2.2.2.1.1
    have hc : daym ν k 39 0 < 5000 := by
      rw [i2]
      simp only [Int32.lt_iff_toInt_lt, Int32.toInt_add, nI_toInt (show k < 2 ^ 31 by omega), Int32.reduceToInt, Int.bmod_def]
      omega
    have q := day_sim1 r hc
    have env : nV (daym ν k) = (ν 39 5).toNatClampNeg := by rw [nV, i1]
    rw [env] at q
    exact q
theorem s_days {μ ν : Mem} (h : RLL μ ν) (n : Int32) : cf_days μ n = rf_days ν n ∧ RLL (cg_days μ n) (gf_days ν n) := by
  obtain ⟨h1, h2, h3, h4, h5, h6, h7, h8, h9, h10, h11, h12, h13, h14⟩ := id h
  obtain ⟨a1, a2, a3, a4, a5, a6, a7, a8, a9, a10, a11⟩ := id h1
  obtain ⟨b1, b2, b3, b4, b5, b6, b7, b8, b9, b10, b11⟩ := id h2
  obtain ⟨nt, nv, nr, nb, nh, et, ev, er, eb, eh⟩ := IA_12 h9
  have e : oc_days μ n ↔ ok_days ν n := by unfold oc_days ok_days; rw [a1]
  by_cases ok : ok_days ν n
  · obtain ⟨M, hM, hMe⟩ := nIx (x := n) (M := 100) (n := 100) rfl (by have := ok.1.1; grind) ok.1.2
    have hMc : n.toNatClampNeg = M := by rw [hMe]; exact nI_clamp (by omega)
    have hle : (ν 39 0).toInt + M ≤ 5000 := by
      have h8 := ok.2
      rw [hMe] at h8
      have c0 : 0 ≤ (ν 39 0).toInt := by simpa [Int32.le_iff_toInt_le] using h9.2.2.2.2.2.2.1.1
      have c1 : (ν 39 0).toInt ≤ 5000 := by simpa [Int32.le_iff_toInt_le] using h9.2.2.2.2.2.2.1.2
      simp only [Int32.le_iff_toInt_le, Int32.toInt_add, Int32.reduceToInt, Int.bmod_def, nI_toInt (show M < 2 ^ 31 by omega)] at h8
      omega
    have r := days_sim h M hle
    rw [cf_days, rf_days, cg_days, gf_days, if_pos (e.mpr ok), if_pos ok, if_pos (e.mpr ok), if_pos ok, hMc]
    refine ⟨?_, r⟩
    rw [r.1.2.2.2.2.2.2.2.2.2.1, a10]
  · rw [cf_days, rf_days, cg_days, gf_days, if_neg (fun z => ok (e.mp z)), if_neg ok, if_neg (fun z => ok (e.mp z)), if_neg ok]
    exact ⟨rfl, h⟩
