/-! version, gives: what fits is worked out anew -/
def RLn (μ ν : Mem) : Prop := RA μ ν ∧ RB μ ν ∧ RC μ ν ∧ RT μ ν ∧ RF μ ν ∧ RG μ ν ∧ RH μ ν ∧ IA ν ∧ IB ν ∧ IC ν ∧ ID ν ∧ IE ν ∧ IG ν
theorem RLn_of {μ ν : Mem} (h : RLL μ ν) : RLn μ ν := ⟨h.1, h.2.1, h.2.2.1, h.2.2.2.2⟩
theorem RLL_10 {m m' ν : Mem} (h : RLn m ν) (hc : Cr m m') (hd : RD m' ν) : RLL m' ν := by
  obtain ⟨h1, h2, h3, h5, h6, h7, h8, h9⟩ := h
  have nh : nH ν ≤ 12 := (IA_12 h9.1).2.2.2.2.1
  refine ⟨?_, ?_, RC_c h3 (hc 37 (by decide)) rfl rfl rfl, hd, RT_c h5 rfl (fun H hH => hc (21 + H) (by omega)) (fun H _ => by rw [hc 34 (by decide)]) nh rfl rfl rfl rfl, RF_c h6 (hc 11 (by decide)) rfl rfl, RG_c h7 (hc 36 (by decide)) rfl rfl rfl rfl, RH_c h8 (hc 15 (by decide)) rfl rfl, h9⟩
  · unfold RA at h1 ⊢
    rw [hc 0 (by decide), hc 1 (by decide), hc 5 (by decide), hc 12 (by decide), hc 16 (by decide), hc 35 (by decide)]
    exact h1
  · unfold RB at h2 ⊢
    rw [hc 2 (by decide), hc 3 (by decide), hc 4 (by decide), hc 6 (by decide), hc 7 (by decide), hc 8 (by decide), hc 9 (by decide), hc 13 (by decide), hc 14 (by decide), hc 17 (by decide), hc 38 (by decide)]
    exact h2
theorem cacs_r {m m' : Mem} {H : Nat} {wo os kd dy : Int32} (h : m' (21 + H) = m (21 + H)) : ∀ k, cacs m' H wo os kd dy k = cacs m H wo os kd dy k
  | 0 => rfl
  | k + 1 => by
    unfold cacs
    rw [cacs_r h k, h]
theorem ctb_r {m m' : Mem} (h : Cr m m') {H V : Nat} : ctb m' H V = ctb m H V := by
  unfold ctb
  rw [h 7 (by decide), h 4 (by decide), h 6 (by decide), h 2 (by decide), h 8 (by decide), h 34 (by decide), cacs_r (h (21 + H) (by omega))]
theorem fts_bt {ν : Mem} {v : Int32} {i : Nat} (hi : i < 32) : ∀ n, n ≤ 12 → bt (fts ν v n) i = (decide (i < n) && rf_fit ν i v)
  | 0, _ => by
    rw [decide_eq_false (Nat.not_lt_zero i)]
    exact b_0 i
  | n + 1, hn => by
    have ih := fts_bt (ν := ν) (v := v) hi n (by omega)
    unfold fts
    rw [b_or, ih]
    by_cases q : i = n
    · subst q
      cases hf : rf_fit ν i v
      · simp [b_0]
      · simp [bt_sh (by omega) hi]
    · have e1 : bt (if rf_fit ν n v = true then (1 : Int32) <<< (nI n &&& 31) else 0) i = false := by
        split
        · rw [bt_sh (by omega) hi, decide_eq_false q]
        · exact b_0 i
      have e2 : decide (i < n + 1) = decide (i < n) := by
        by_cases l : i < n
        · rw [decide_eq_true l, decide_eq_true (by omega)]
        · rw [decide_eq_false l, decide_eq_false (by omega)]
      rw [e1, e2, Bool.or_false]
theorem cfh_bt {m : Mem} {V H i : Nat} (hH : H < 32) (hi : i < 32) : bt (cfh m V H 10 V) i = if i = H then ctb m H V else bt (m 10 V) i := by
  rw [cfh, ms_eq]
  by_cases q : i = H
  · rw [if_pos q]
    cases hc : ctb m H V
    · rw [if_neg (by decide), b_and, b_xor, bt_sh hH hi, b_m1 i hi, decide_eq_true q]
      simp
    · rw [if_pos rfl, b_or, bt_sh hH hi, decide_eq_true q]
      simp
  · rw [if_neg q]
    split
    · rw [b_or, bt_sh hH hi, decide_eq_false q, Bool.or_false]
    · rw [b_and, b_xor, bt_sh hH hi, b_m1 i hi, decide_eq_false q]
      simp
theorem cfh_o {m : Mem} {V H v : Nat} (h : v ≠ V) : cfh m V H 10 v = m 10 v := by rw [cfh, ms_j h]
theorem cfs_o {m : Mem} {V v : Nat} (h : v ≠ V) : ∀ k, cfs m V k 10 v = m 10 v
  | 0 => rfl
  | k + 1 => by
    unfold cfs
    rw [cfh_o h, cfs_o h k]
theorem cfs_bt {m ν : Mem} {V i : Nat} (hi : i < 32) : ∀ k, k ≤ 12 → (∀ H, H < k → ctb m H V = rf_fit ν H (nI V)) → bt (cfs m V k 10 V) i = if i < k then rf_fit ν i (nI V) else bt (m 10 V) i
  | 0, _, _ => by rw [if_neg (Nat.not_lt_zero i)]; rfl
  | k + 1, hk, h => by
    have ih := cfs_bt (m := m) (ν := ν) (V := V) hi k (by omega) (fun H hH => h H (by omega))
    unfold cfs
    rw [cfh_bt (by omega) hi, ctb_r (cfs_r k), h k (by omega), ih]
    by_cases q : i = k
    · rw [if_pos q, if_pos (by omega), q]
    · rw [if_neg q]
      by_cases l : i < k
      · rw [if_pos l, if_pos (by omega)]
      · rw [if_neg l, if_neg (by omega)]
theorem cfs_fit {m ν : Mem} {V n : Nat} (hn : n ≤ 12) (h : ∀ H, H < n → ctb m H V = rf_fit ν H (nI V)) (h0 : ∀ i, n ≤ i → i < 32 → bt (m 10 V) i = false) : cfs m V n 10 V = fts ν (nI V) n := by
  apply b_ext
  intro i hi
  rw [cfs_bt hi n hn h, fts_bt hi n hn]
  by_cases l : i < n
  · rw [if_pos l, decide_eq_true l, Bool.true_and]
  · rw [if_neg l, decide_eq_false l, Bool.false_and]
    exact h0 i (by omega) hi
theorem RLn_fit {m ν : Mem} (h : RLn m ν) {H V : Nat} (hH : H < nH ν) (hV : V < 120) : ctb m H V = rf_fit ν H (nI V) := by
  obtain ⟨h1, ⟨b1, b2, b3, b4, b5, b6, -⟩, h3, h5, -⟩ := h
  exact fit_sim hV (h5 H hH) b5 b3 b4 b1 b6
theorem le_pred {x y : Int32} (h0 : 0 ≤ x) (h : x ≤ y - 1) (y0 : 0 ≤ y) (y1 : y ≤ 40) : x < y := by grind
theorem s_version {μ ν : Mem} (h : RLL μ ν) (t w s : Int32) : cf_version μ t w s = rf_version ν t w s ∧ RLL (cg_version μ t w s) (gf_version ν t w s) := by
  obtain ⟨h1, h2, h3, h4, h5, h6, h7, h8, h9, h10, h11, h12, h13, h14⟩ := id h
  obtain ⟨a1, a2, a3, a4, a5, a6, a7, a8, a9, a10, a11⟩ := id h1
  obtain ⟨b1, b2, b3, b4, b5, b6, b7, b8, b9, b10, b11⟩ := id h2
  obtain ⟨nt, nv, nr, nb, nh, et, ev, er, eb, eh⟩ := IA_12 h9
  have e : oc_version μ t w s ↔ ok_version ν t w s := by unfold oc_version ok_version; rw [a6, a2, a7]
  by_cases ok : ok_version ν t w s
  · have hv2 : (ν 39 5).toNatClampNeg = nV ν := rfl
    have hcH : cH μ = nH ν := by rw [cH, a8]; rfl
    have lt : nV ν < 120 := by
      rcases Nat.lt_or_ge (nV ν) 120 with q | q
      · exact q
      · exact absurd (by rw [ev, show nV ν = 120 by omega]; rfl) ok.2.2.2
    rw [cf_version, rf_version, cg_version, gf_version, if_pos (e.mpr ok), if_pos ok, if_pos (e.mpr ok), if_pos ok, cg_vadd, a7, a1, hv2, hcH]
    refine ⟨rfl, ?_⟩
    generalize hx : (1 : Int32) <<< (s &&& 31) = x
    have hx6 : 0 ≤ x ∧ x < 64 := by rw [← hx]; exact sh_six ok.2.2.1.1
    have e5 : nV (mset (mset (mset (mset (mset ν 43 (nV ν) t) 44 (nV ν) w) 45 (nV ν) (ν 39 0)) 46 (nV ν) x) 39 5 (ν 39 5 + 1)) = nV ν + 1 := by
      rw [nV, ms_eq]
      exact inc_cl ev nv (by decide)
    have x0 : RLn (mset (mset (mset (mset (mset μ 6 (nV ν) t) 7 (nV ν) w) 8 (nV ν) (ν 39 0)) 9 (nV ν) x) 5 6 (ν 39 5 + 1)) (mset (mset (mset (mset (mset ν 43 (nV ν) t) 44 (nV ν) w) 45 (nV ν) (ν 39 0)) 46 (nV ν) x) 39 5 (ν 39 5 + 1)) := by
      refine ⟨?_, ?_, ?_, ?_, ?_, ?_, ?_, ?_, ?_, ?_, ?_, ?_, ?_⟩
      · simp only [RA, ms_eq, ms_j, mset_row, mset_ne, ne_eq, Nat.reduceEqDiff, not_false_eq_true, a1, a2, a3, a4, a5, a6, a7, a8, a9, a10, a11, and_self]
      · simp only [RB, ms_eq, ms_j, mset_row, mset_ne, ne_eq, Nat.reduceEqDiff, not_false_eq_true, b1, b2, b3, b4, b5, b6, b7, b8, b9, b10, b11, and_self]
      · exact RC_c h3 (by simp only [ms_eq, ms_j, mset_ne, ne_eq, Nat.reduceEqDiff, not_false_eq_true]) (by simp only [ms_eq, ms_j, mset_ne, ne_eq, Nat.reduceEqDiff, not_false_eq_true]) (by simp only [ms_eq, ms_j, mset_ne, ne_eq, Nat.reduceEqDiff, not_false_eq_true]) (by simp only [ms_eq, ms_j, mset_ne, ne_eq, Nat.reduceEqDiff, not_false_eq_true])
      · exact RT_c h5 (by simp only [ms_eq, ms_j, mset_ne, ne_eq, Nat.reduceEqDiff, not_false_eq_true]) (fun H hH => by rw [mset_ne _ (by omega), mset_ne _ (by omega), mset_ne _ (by omega), mset_ne _ (by omega), mset_ne _ (by omega)]) (fun H hH => (by simp only [ms_eq, ms_j, mset_ne, ne_eq, Nat.reduceEqDiff, not_false_eq_true])) nh (by simp only [ms_eq, ms_j, mset_ne, ne_eq, Nat.reduceEqDiff, not_false_eq_true]) (by simp only [ms_eq, ms_j, mset_ne, ne_eq, Nat.reduceEqDiff, not_false_eq_true]) (by simp only [ms_eq, ms_j, mset_ne, ne_eq, Nat.reduceEqDiff, not_false_eq_true]) (by simp only [ms_eq, ms_j, mset_ne, ne_eq, Nat.reduceEqDiff, not_false_eq_true])
      · exact RF_c h6 (by simp only [ms_eq, ms_j, mset_ne, ne_eq, Nat.reduceEqDiff, not_false_eq_true]) (by simp only [ms_eq, ms_j, mset_ne, ne_eq, Nat.reduceEqDiff, not_false_eq_true]) (by simp only [ms_eq, ms_j, mset_ne, ne_eq, Nat.reduceEqDiff, not_false_eq_true])
      · exact RG_c h7 (by simp only [ms_eq, ms_j, mset_ne, ne_eq, Nat.reduceEqDiff, not_false_eq_true]) (by simp only [ms_eq, ms_j, mset_ne, ne_eq, Nat.reduceEqDiff, not_false_eq_true]) (by simp only [ms_eq, ms_j, mset_ne, ne_eq, Nat.reduceEqDiff, not_false_eq_true]) (by simp only [ms_eq, ms_j, mset_ne, ne_eq, Nat.reduceEqDiff, not_false_eq_true]) (by simp only [ms_eq, ms_j, mset_ne, ne_eq, Nat.reduceEqDiff, not_false_eq_true])
      · exact RH_c h8 (by simp only [ms_eq, ms_j, mset_ne, ne_eq, Nat.reduceEqDiff, not_false_eq_true]) (by simp only [ms_eq, ms_j, mset_ne, ne_eq, Nat.reduceEqDiff, not_false_eq_true]) (by simp only [ms_eq, ms_j, mset_ne, ne_eq, Nat.reduceEqDiff, not_false_eq_true])
      · unfold IA at h9 ⊢
        simp only [ms_eq, ms_j, mset_row, mset_ne, ne_eq, Nat.reduceEqDiff, not_false_eq_true]
        obtain ⟨q1, q2, q3⟩ := h9
        refine ⟨q1, ?_, q3⟩
        rw [ev, nI_1]
        exact ⟨nI_pos' (by omega), nI_le (b := 120) (by omega) (by decide)⟩
      · exact IB_c h10 (by simp only [ms_eq, ms_j, mset_ne, ne_eq, Nat.reduceEqDiff, not_false_eq_true]) (by simp only [ms_eq, ms_j, mset_ne, ne_eq, Nat.reduceEqDiff, not_false_eq_true])
      · intro v hv
        rw [e5] at hv
        simp only [ms_k (show (43 : Nat) ≠ 39 by decide), ms_k (show (43 : Nat) ≠ 46 by decide), ms_k (show (43 : Nat) ≠ 45 by decide), ms_k (show (43 : Nat) ≠ 44 by decide), ms_k (show (45 : Nat) ≠ 39 by decide), ms_k (show (45 : Nat) ≠ 46 by decide), ms_k (show (46 : Nat) ≠ 39 by decide), ms_j (show (1 : Nat) ≠ 5 by decide), ms_j (show (0 : Nat) ≠ 5 by decide), ms_k (show (39 : Nat) ≠ 46 by decide), ms_k (show (39 : Nat) ≠ 45 by decide), ms_k (show (39 : Nat) ≠ 44 by decide), ms_k (show (39 : Nat) ≠ 43 by decide)]
        by_cases q : v = nV ν
        · subst q
          rw [ms_eq, ms_eq, ms_eq]
          refine ⟨⟨ok.1.1, ?_⟩, ⟨h9.2.2.2.2.2.2.1.1, Int32.le_refl _⟩, hx6⟩
          exact le_pred ok.1.1 ok.1.2 h9.1.1 h9.1.2
        · simp only [ms_j q, ms_k (show (45 : Nat) ≠ 44 by decide), ms_k (show (45 : Nat) ≠ 43 by decide), ms_k (show (46 : Nat) ≠ 45 by decide), ms_k (show (46 : Nat) ≠ 44 by decide), ms_k (show (46 : Nat) ≠ 43 by decide)]
          exact h11 v (by omega)
      · exact ID_c h12 (by simp only [ms_eq, ms_j, mset_ne, ne_eq, Nat.reduceEqDiff, not_false_eq_true]) (by simp only [ms_eq, ms_j, mset_ne, ne_eq, Nat.reduceEqDiff, not_false_eq_true])
      · exact IE_c h13 (by simp only [ms_eq, ms_j, mset_ne, ne_eq, Nat.reduceEqDiff, not_false_eq_true]) (by simp only [ms_eq, ms_j, mset_ne, ne_eq, Nat.reduceEqDiff, not_false_eq_true]) (by simp only [ms_eq, ms_j, mset_ne, ne_eq, Nat.reduceEqDiff, not_false_eq_true])
      · exact IG_c h14 (by simp only [ms_eq, ms_j, mset_ne, ne_eq, Nat.reduceEqDiff, not_false_eq_true])
    refine RLL_10 x0 (cfs_r _) (fun v hv => ?_)
    rw [e5]
    by_cases q : v = nV ν
    · subst q
      rw [if_pos (by omega)]
      unfold rf_fitting
      have eH : (mset (mset (mset (mset (mset ν 43 (nV ν) t) 44 (nV ν) w) 45 (nV ν) (ν 39 0)) 46 (nV ν) x) 39 5 (ν 39 5 + 1) 39 20).toNatClampNeg = nH ν := by
        simp only [ms_eq, ms_j, mset_row, mset_ne, ne_eq, Nat.reduceEqDiff, not_false_eq_true]
        rfl
      rw [eH]
      refine cfs_fit nh (fun H hH => RLn_fit x0 (by unfold nH at hH ⊢; simp only [ms_eq, ms_j, mset_row, mset_ne, ne_eq, Nat.reduceEqDiff, not_false_eq_true]; exact hH) hv) (fun i _ _ => ?_)
      have z := h4 (nV ν) hv
      rw [if_neg (Nat.lt_irrefl _)] at z
      simp only [ms_eq, ms_j, mset_row, mset_ne, ne_eq, Nat.reduceEqDiff, not_false_eq_true]
      rw [z]
      exact b_0 i
    · rw [cfs_o q]
      have z := h4 v hv
      simp only [ms_eq, ms_j, mset_row, mset_ne, ne_eq, Nat.reduceEqDiff, not_false_eq_true]
      rw [z]
      by_cases l : v < nV ν
      · rw [if_pos l, if_pos (by omega)]
        unfold rf_fitting
        simp only [ms_eq, ms_j, mset_row, mset_ne, ne_eq, Nat.reduceEqDiff, not_false_eq_true]
        exact (fts_v _ (fun H hH => rf_fit_v (fun w' a b => rf_atom_v hv (by rw [ms_k (by decide), ms_k (by decide), ms_k (by decide), ms_k (by decide), ms_j q]) (by rw [ms_k (by decide), ms_k (by decide), ms_k (by decide), ms_j q, ms_k (by decide)]) (by rw [ms_k (by decide), ms_k (by decide), ms_j q, ms_k (by decide), ms_k (by decide)]) (by simp only [ms_eq, ms_j, mset_ne, ne_eq, Nat.reduceEqDiff, not_false_eq_true]) (by simp only [ms_eq, ms_j, mset_ne, ne_eq, Nat.reduceEqDiff, not_false_eq_true])) (RT_TOk h5 H hH) (by simp only [ms_eq, ms_j, mset_ne, ne_eq, Nat.reduceEqDiff, not_false_eq_true]) (fun k _ => ⟨(by simp only [ms_eq, ms_j, mset_ne, ne_eq, Nat.reduceEqDiff, not_false_eq_true]), (by simp only [ms_eq, ms_j, mset_ne, ne_eq, Nat.reduceEqDiff, not_false_eq_true]), (by simp only [ms_eq, ms_j, mset_ne, ne_eq, Nat.reduceEqDiff, not_false_eq_true])⟩))).symm
      · rw [if_neg l, if_neg (by omega)]
  · rw [cf_version, rf_version, cg_version, gf_version, if_neg (fun z => ok (e.mp z)), if_neg ok, if_neg (fun z => ok (e.mp z)), if_neg ok]
    exact ⟨rfl, h⟩
/-! gives -/
theorem gv_sim {μ ν : Mem} {p o : Int32} (h3 : μ 3 = ν 41) (h4 : μ 4 = ν 42) : ∀ k, cgv μ p o k 3 = gvm ν p o k 41 ∧ cgv μ p o k 4 = gvm ν p o k 42
  | 0 => ⟨h3, h4⟩
  | k + 1 => by
    obtain ⟨i1, i2⟩ := gv_sim (p := p) (o := o) h3 h4 k
    unfold cgv gvm
    rw [i1]
    by_cases q : gvm ν p o k 41 k = p
    · rw [if_pos q, if_pos q, i2]
      refine ⟨?_, ?_⟩
      · rw [mset_ne 3 (by decide), mset_row, mset_ne 41 (by decide), mset_row, i1]
      · rw [mset_row, mset_row, mset_ne 4 (by decide), mset_ne 42 (by decide), i2]
    · rw [if_neg q, if_neg q]
      exact ⟨i1, i2⟩
theorem cgg_o {m : Mem} {n v : Nat} : ∀ k, k ≤ v → cgg m n k 10 v = m 10 v
  | 0, _ => rfl
  | k + 1, h => by
    unfold cgg
    rw [cfs_o (by omega), cgg_o k (by omega)]
theorem cgg_in {m ν : Mem} (hx : RLn m ν) {v : Nat} (hv : v < 120) (h0 : ∀ i, nH ν ≤ i → i < 32 → bt (m 10 v) i = false) : ∀ k, v < k → cgg m (nH ν) k 10 v = fts ν (nI v) (nH ν)
  | 0, h => absurd h (Nat.not_lt_zero v)
  | k + 1, h => by
    have nh : nH ν ≤ 12 := (IA_12 hx.2.2.2.2.2.2.2.1).2.2.2.2.1
    unfold cgg
    by_cases q : v = k
    · subst q
      exact cfs_fit nh (fun H hH => by rw [ctb_r (cgg_r v)]; exact RLn_fit hx hH hv) (fun i l r => by rw [cgg_o v (Nat.le_refl v)]; exact h0 i l r)
    · rw [cfs_o q]
      exact cgg_in hx hv h0 k (by omega)
theorem s_gives {μ ν : Mem} (h : RLL μ ν) (p o : Int32) : cf_gives μ p o = rf_gives ν p o ∧ RLL (cg_gives μ p o) (gf_gives ν p o) := by
  obtain ⟨h1, h2, h3, h4, h5, h6, h7, h8, h9, h10, h11, h12, h13, h14⟩ := id h
  obtain ⟨a1, a2, a3, a4, a5, a6, a7, a8, a9, a10, a11⟩ := id h1
  obtain ⟨b1, b2, b3, b4, b5, b6, b7, b8, b9, b10, b11⟩ := id h2
  obtain ⟨nt, nv, nr, nb, nh, et, ev, er, eb, eh⟩ := IA_12 h9
  rw [cf_gives, rf_gives, cg_gives, gf_gives]
  by_cases ok : ok_gives p o
  · have hcH : cH μ = nH ν := by rw [cH, a8]; rfl
    rw [if_pos ok, if_pos ok, if_pos ok, if_pos ok, a6, a7, hcH]
    obtain ⟨g1, g2⟩ := gv_sim (p := p) (o := o) b2 b3 (nT ν)
    have ecf : cgf μ p = gvf ν p := by funext k; unfold cgf gvf; rw [b2]
    refine ⟨by rw [ecf], ?_⟩
    show RLL (cgg (cgv μ p o (nT ν)) (nH ν) (nV ν)) (gvm ν p o (nT ν))
    generalize hm : cgv μ p o (nT ν) = m at *
    generalize hn : gvm ν p o (nT ν) = n at *
    have mo : ∀ a, a ≠ 3 → a ≠ 4 → m a = μ a := fun a x y => by rw [← hm, cgv_row x y]
    have no : ∀ a, a ≠ 41 → a ≠ 42 → n a = ν a := fun a x y => by rw [← hn, gvm_row x y]
    have n39 : n 39 = ν 39 := no 39 (by decide) (by decide)
    have enV : nV n = nV ν := by rw [nV, n39]; rfl
    have enH : nH n = nH ν := by rw [nH, n39]; rfl
    have x0 : RLn m n := by
      refine ⟨?_, ?_, RC_c h3 (mo 37 (by decide) (by decide)) (by rw [n39]) (no 47 (by decide) (by decide)) (no 48 (by decide) (by decide)), RT_c h5 (by rw [n39]) (fun H hH => mo (21 + H) (by omega) (by omega)) (fun H _ => by rw [mo 34 (by decide) (by decide)]) nh (no 54 (by decide) (by decide)) (no 55 (by decide) (by decide)) (no 56 (by decide) (by decide)) (no 57 (by decide) (by decide)), RF_c h6 (mo 11 (by decide) (by decide)) (no 50 (by decide) (by decide)) (by rw [n39]), RG_c h7 (mo 36 (by decide) (by decide)) (no 60 (by decide) (by decide)) (no 61 (by decide) (by decide)) (no 62 (by decide) (by decide)) (by rw [n39]), RH_c h8 (mo 15 (by decide) (by decide)) (by rw [n39]) (by rw [n39]), ?_, IB_c h10 (by rw [n39]) (no 40 (by decide) (by decide)), IC_c h11 (by rw [n39]) (by rw [n39]) (by rw [n39]) (no 43 (by decide) (by decide)) (no 45 (by decide) (by decide)) (no 46 (by decide) (by decide)), ID_c h12 (by rw [n39]) (no 48 (by decide) (by decide)), IE_c h13 (by rw [n39]) (no 52 (by decide) (by decide)) (no 53 (by decide) (by decide)), IG_c h14 (no 51 (by decide) (by decide))⟩
      · unfold RA at h1 ⊢
        rw [n39, mo 0 (by decide) (by decide), mo 1 (by decide) (by decide), mo 5 (by decide) (by decide), mo 12 (by decide) (by decide), mo 16 (by decide) (by decide), mo 35 (by decide) (by decide)]
        exact h1
      · unfold RB
        rw [mo 2 (by decide) (by decide), mo 6 (by decide) (by decide), mo 7 (by decide) (by decide), mo 8 (by decide) (by decide), mo 9 (by decide) (by decide), mo 13 (by decide) (by decide), mo 14 (by decide) (by decide), mo 17 (by decide) (by decide), mo 38 (by decide) (by decide), no 40 (by decide) (by decide), no 43 (by decide) (by decide), no 44 (by decide) (by decide), no 45 (by decide) (by decide), no 46 (by decide) (by decide), no 52 (by decide) (by decide), no 53 (by decide) (by decide), no 51 (by decide) (by decide), no 49 (by decide) (by decide)]
        exact ⟨b1, g1, g2, b4, b5, b6, b7, b8, b9, b10, b11⟩
      · unfold IA at h9 ⊢
        rw [n39]
        exact h9
    refine RLL_10 x0 (cgg_r _) (fun v hv => ?_)
    rw [enV]
    have z := h4 v hv
    by_cases l : v < nV ν
    · rw [if_pos l] at z ⊢
      have q := cgg_in x0 hv (fun i li hi => by
        rw [mo 10 (by decide) (by decide), z]
        show bt (fts ν (nI v) (nH ν)) i = false
        rw [fts_bt hi _ nh, decide_eq_false (by rw [enH] at li; exact Nat.not_lt.mpr li)]
        rfl) (nV ν) l
      rw [enH] at q
      rw [q]
      unfold rf_fitting
      rw [n39]
      rfl
    · rw [if_neg l] at z ⊢
      rw [cgg_o _ (by omega), mo 10 (by decide) (by decide)]
      exact z
  · rw [if_neg ok, if_neg ok, if_neg ok, if_neg ok]
    exact ⟨rfl, h⟩
