/-! backup, restore -/
theorem shr_bt {x : Int32} {j : Nat} (hj : j < 32) : ((x >>> (nI j &&& 31)) &&& 1 = 1) ↔ bt x j = true := by
  rw [bt_one, b_sshr j hj x (by decide), if_pos (by omega), Nat.add_zero]
theorem bk_ix {B k : Nat} (hB : B ≤ 10) (hk : k < 120) : (120 * nI B + nI k).toNatClampNeg = 120 * B + k := by
  have e : (120 : Int32) * nI B + nI k = nI (120 * B + k) := by
    have e1 : (120 : Int32) * nI B = nI (120 * B) := pk_mul 120 B
    rw [e1, nI_add]
  rw [e]
  exact nI_clamp (by omega)
theorem rst_sim {μ ν : Mem} (h : RLL μ ν) {b s : Int32} {B : Nat} (hb : b = nI B) (hB : B < 10) (hs : s = ν 49 b.toNatClampNeg) (hs5 : 0 ≤ s ∧ s ≤ 5) : ∀ k, k ≤ nV ν → RLL (cbb μ b s k) (rsm ν b k) ∧ cnt (cbf μ b s) k = cnt (rsf2 ν b) k
  | 0, _ => ⟨h, rfl⟩
  | k + 1, hk => by
    obtain ⟨r, c⟩ := rst_sim h hb hB hs hs5 k (by omega)
    obtain ⟨h1, h2, h3, h4, h5, h6, h7, h8, h9, h10, h11, h12, h13, h14⟩ := id h
    obtain ⟨a1, a2, a3, a4, a5, a6, a7, a8, a9, a10, a11⟩ := id h1
    obtain ⟨b1, b2, b3, b4, b5, b6, b7, b8, b9, b10, b11⟩ := id h2
    obtain ⟨nt, nv, nr, nb, nh, et, ev, er, eb, eh⟩ := IA_12 h9
    have ef : cbf μ b s k = rsf2 ν b k := by
      obtain ⟨f1, -⟩ := h6 B hB k (by omega)
      unfold cbf rsf2
      rw [← hs, b7, hb, bk_ix (by omega) (by omega)]
      congr 1
      apply propext
      rw [shr_bt (x := μ 11 k) (by omega), f1, decide_eq_true_eq]
    have nvk : nV (rsm ν b k) = nV ν := by rw [nV, rsm_row (by decide)]; rfl
    refine ⟨?_, by rw [cnt_s, cnt_s, c, ef]⟩
    unfold cbb rsm
    rw [ef]
    by_cases q : rsf2 ν b k = true
    · rw [if_pos q, if_pos q, b7, ← hs]
      exact RLL_cp r k _ (fun hV => or_six (h11 k (by omega)).2.2 hs5)
    · rw [if_neg q, if_neg q]
      exact r
theorem b_lt10 {ν : Mem} (h9 : IA ν) {x : Int32} (c : 0 ≤ x ∧ x ≤ ν 39 15 - 1) : ∃ B, B < nB ν ∧ B < 10 ∧ x = nI B := by
  obtain ⟨B, hB, hBe⟩ := nIx (x := x) (M := 9) (n := 9) rfl c.1 (by have := h9.2.2.2.1; grind)
  have h5 := h9.2.2.2.1
  have eb := (IA_12 h9).2.2.2.2.2.2.2.2.1
  have lt : x < ν 39 15 := by grind
  have := cl_ne eb (by have := (IA_12 h9).2.2.2.1; omega) c.1 lt
  rw [hBe, nI_clamp (by omega)] at this
  exact ⟨B, this, by omega, hBe⟩
theorem s_restore {μ ν : Mem} (h : RLL μ ν) (b : Int32) : cf_restore μ b = rf_restore ν b ∧ RLL (cg_restore μ b) (gf_restore ν b) := by
  obtain ⟨h1, h2, h3, h4, h5, h6, h7, h8, h9, h10, h11, h12, h13, h14⟩ := id h
  obtain ⟨a1, a2, a3, a4, a5, a6, a7, a8, a9, a10, a11⟩ := id h1
  obtain ⟨b1, b2, b3, b4, b5, b6, b7, b8, b9, b10, b11⟩ := id h2
  obtain ⟨nt, nv, nr, nb, nh, et, ev, er, eb, eh⟩ := IA_12 h9
  have e : oc_restore μ b ↔ ok_restore ν b := by unfold oc_restore ok_restore; rw [a5, a2, b11]
  by_cases ok : ok_restore ν b
  · obtain ⟨B, hB, hB10, hBe⟩ := b_lt10 h9 ok.1
    obtain ⟨r, c⟩ := rst_sim h hBe hB10 (s := ν 49 b.toNatClampNeg) rfl ok.2.1 (nV ν) (Nat.le_refl _)
    have en : (ν 39 5).toNatClampNeg = nV ν := rfl
    rw [cf_restore, rf_restore, cg_restore, gf_restore, if_pos (e.mpr ok), if_pos ok, if_pos (e.mpr ok), if_pos ok, a7, b11, en]
    exact ⟨c, r⟩
  · rw [cf_restore, rf_restore, cg_restore, gf_restore, if_neg (fun z => ok (e.mp z)), if_neg ok, if_neg (fun z => ok (e.mp z)), if_neg ok]
    exact ⟨rfl, h⟩
theorem ckp_11 {m : Mem} {b s : Int32} {v : Nat} : ∀ k, ckp m b s k 11 v = if v < k ∧ (m 9 v >>> (s &&& 31)) &&& 1 = 1 then m 11 v ||| (1 : Int32) <<< (b &&& 31) else m 11 v
  | 0 => by rw [if_neg (fun z => absurd z.1 (Nat.not_lt_zero v))]; rfl
  | k + 1 => by
    have ih := ckp_11 (m := m) (b := b) (s := s) (v := v) k
    unfold ckp
    by_cases q : (m 9 k >>> (s &&& 31)) &&& 1 = 1
    · rw [if_pos q]
      by_cases e : v = k
      · subst e
        rw [ms_eq, if_pos ⟨by omega, q⟩]
      · rw [ms_j e, ih]
        by_cases l : v < k
        · by_cases z : (m 9 v >>> (s &&& 31)) &&& 1 = 1
          · rw [if_pos ⟨l, z⟩, if_pos ⟨by omega, z⟩]
          · rw [if_neg (fun y => z y.2), if_neg (fun y => z y.2)]
        · rw [if_neg (fun y => l y.1), if_neg (fun y => absurd y.1 (by omega))]
    · rw [if_neg q, ih]
      by_cases e : v = k
      · subst e
        rw [if_neg (fun y => q y.2), if_neg (fun y => q y.2)]
      · by_cases l : v < k
        · by_cases z : (m 9 v >>> (s &&& 31)) &&& 1 = 1
          · rw [if_pos ⟨l, z⟩, if_pos ⟨by omega, z⟩]
          · rw [if_neg (fun y => z y.2), if_neg (fun y => z y.2)]
        · rw [if_neg (fun y => l y.1), if_neg (fun y => absurd y.1 (by omega))]
theorem bkm_50 {ν : Mem} {s : Int32} {B : Nat} (hB : ν 39 15 = nI B) (hB10 : B < 10) {b v : Nat} (hv : v < 120) : ∀ k, k ≤ 120 → bkm ν s k 50 (120 * b + v) = if b = B ∧ v < k then bz ((ν 46 v >>> (s &&& 31)) &&& 1 = 1) else ν 50 (120 * b + v)
  | 0, _ => by
    rw [if_neg (fun z => absurd z.2 (Nat.not_lt_zero v))]
    show mset ν 49 _ s 50 _ = _
    rw [ms_k (by decide)]
  | k + 1, hk => by
    have ih := bkm_50 hB hB10 (s := s) (b := b) hv k (by omega)
    unfold bkm
    rw [hB, bk_ix (by omega) (by omega)]
    by_cases e : b = B ∧ v = k
    · obtain ⟨e1, e2⟩ := e
      subst e1; subst e2
      rw [ms_eq, if_pos ⟨rfl, by omega⟩]
    · rw [ms_j (by omega), ih]
      by_cases l : b = B ∧ v < k
      · rw [if_pos l, if_pos ⟨l.1, by omega⟩]
      · rw [if_neg l, if_neg (by omega)]
theorem s_backup {μ ν : Mem} (h : RLL μ ν) (s : Int32) : cf_backup μ s = rf_backup ν s ∧ RLL (cg_backup μ s) (gf_backup ν s) := by
  obtain ⟨h1, h2, h3, h4, h5, h6, h7, h8, h9, h10, h11, h12, h13, h14⟩ := id h
  obtain ⟨a1, a2, a3, a4, a5, a6, a7, a8, a9, a10, a11⟩ := id h1
  obtain ⟨b1, b2, b3, b4, b5, b6, b7, b8, b9, b10, b11⟩ := id h2
  obtain ⟨nt, nv, nr, nb, nh, et, ev, er, eb, eh⟩ := IA_12 h9
  have e : oc_backup μ s ↔ ok_backup ν s := by unfold oc_backup ok_backup; rw [a5, a2]
  by_cases ok : ok_backup ν s
  · have en : (ν 39 5).toNatClampNeg = nV ν := rfl
    have lt : nB ν < 10 := by
      rcases Nat.lt_or_ge (nB ν) 10 with q | q
      · exact q
      · exact absurd (by rw [eb, show nB ν = 10 by omega]; rfl) ok.2
    rw [cf_backup, rf_backup, cg_backup, gf_backup, if_pos (e.mpr ok), if_pos ok, if_pos (e.mpr ok), if_pos ok, a7, a5, en]
    refine ⟨rfl, ?_⟩
    generalize hm : ckp (cbk μ s) (ν 39 15) s (nV ν) = m
    generalize hn : mset (bkm ν s (nV ν)) 39 15 (ν 39 15 + 1) = n
    have mne : ∀ a, a ≠ 11 → m a = cbk μ s a := fun a x => by rw [← hm, ckp_row x]
    have m0 : ∀ j, j ≠ 10 → m 0 j = μ 0 j := fun j x => by rw [mne 0 (by decide), cbk, ms_j x, ms_k (by decide)]
    have m010 : m 0 10 = ν 39 15 + 1 := by rw [mne 0 (by decide), cbk, ms_eq, a5]
    have m38 : m 38 = upd (ν 49) (nB ν) s := by
      rw [mne 38 (by decide), cbk, mset_ne 38 (by decide), mset_row, b11, a5]
      rfl
    have mo : ∀ a, a ≠ 11 → a ≠ 0 → a ≠ 38 → m a = μ a := fun a x y z => by rw [mne a x, cbk, mset_ne a y, mset_ne a z]
    have n39 : ∀ j, j ≠ 15 → n 39 j = ν 39 j := fun j x => by rw [← hn, ms_j x, bkm_row (by decide) (by decide)]
    have n15 : n 39 15 = ν 39 15 + 1 := by rw [← hn, ms_eq]
    have n49 : n 49 = upd (ν 49) (nB ν) s := by
      have q : ∀ k, bkm ν s k 49 = upd (ν 49) (nB ν) s := fun k => by
        induction k with
        | zero => exact mset_row
        | succ k ih => unfold bkm; rw [mset_ne 49 (by decide), ih]
      rw [← hn, mset_ne 49 (by decide), q]
    have no : ∀ a, a ≠ 39 → a ≠ 49 → a ≠ 50 → n a = ν a := fun a x y z => by rw [← hn, mset_ne a x, bkm_row y z]
    have nBn : nB n = nB ν + 1 := by
      rw [nB, n15]
      exact inc_cl eb nb (by decide)
    refine ⟨?_, ?_, ?_, ?_, ?_, ?_, ?_, ?_, ?_, ?_, ?_, ?_, ?_, ?_⟩
    · unfold RA
      rw [m0 13 (by decide), m0 12 (by decide), m0 11 (by decide), m0 8 (by decide), m010, mo 1 (by decide) (by decide) (by decide), mo 5 (by decide) (by decide) (by decide), mo 12 (by decide) (by decide) (by decide), mo 16 (by decide) (by decide) (by decide), mo 35 (by decide) (by decide) (by decide), n15, n39 0 (by decide), n39 10 (by decide), n39 11 (by decide), n39 12 (by decide), n39 1 (by decide), n39 5 (by decide), n39 20 (by decide), n39 19 (by decide), n39 35 (by decide), n39 36 (by decide)]
      exact ⟨a1, a2, a3, a4, rfl, a6, a7, a8, a9, a10, a11⟩
    · unfold RB
      rw [mo 2 (by decide) (by decide) (by decide), mo 3 (by decide) (by decide) (by decide), mo 4 (by decide) (by decide) (by decide), mo 6 (by decide) (by decide) (by decide), mo 7 (by decide) (by decide) (by decide), mo 8 (by decide) (by decide) (by decide), mo 9 (by decide) (by decide) (by decide), mo 13 (by decide) (by decide) (by decide), mo 14 (by decide) (by decide) (by decide), mo 17 (by decide) (by decide) (by decide), m38, n49, no 40 (by decide) (by decide) (by decide), no 41 (by decide) (by decide) (by decide), no 42 (by decide) (by decide) (by decide), no 43 (by decide) (by decide) (by decide), no 44 (by decide) (by decide) (by decide), no 45 (by decide) (by decide) (by decide), no 46 (by decide) (by decide) (by decide), no 52 (by decide) (by decide) (by decide), no 53 (by decide) (by decide) (by decide), no 51 (by decide) (by decide) (by decide)]
      exact ⟨b1, b2, b3, b4, b5, b6, b7, b8, b9, b10, rfl⟩
    · exact RC_c h3 (mo 37 (by decide) (by decide) (by decide)) (n39 12 (by decide)) (no 47 (by decide) (by decide) (by decide)) (no 48 (by decide) (by decide) (by decide))
    · exact RD_c h4 h5 (mo 10 (by decide) (by decide) (by decide)) (n39 5 (by decide)) (n39 20 (by decide)) (fun V _ => ⟨by rw [no 43 (by decide) (by decide) (by decide)], by rw [no 44 (by decide) (by decide) (by decide)], by rw [no 45 (by decide) (by decide) (by decide)], by rw [no 42 (by decide) (by decide) (by decide)], by rw [no 40 (by decide) (by decide) (by decide)]⟩) (no 54 (by decide) (by decide) (by decide)) (no 55 (by decide) (by decide) (by decide)) (no 56 (by decide) (by decide) (by decide)) (no 57 (by decide) (by decide) (by decide))
    · exact RT_c h5 (n39 20 (by decide)) (fun H hH => mo (21 + H) (by omega) (by omega) (by omega)) (fun H _ => by rw [mo 34 (by decide) (by decide) (by decide)]) nh (no 54 (by decide) (by decide) (by decide)) (no 55 (by decide) (by decide) (by decide)) (no 56 (by decide) (by decide) (by decide)) (no 57 (by decide) (by decide) (by decide))
    · intro b hb v hv
      obtain ⟨f1, f2⟩ := h6 b hb v hv
      have en50 : n 50 (120 * b + v) = if b = nB ν ∧ v < nV ν then bz ((ν 46 v >>> (s &&& 31)) &&& 1 = 1) else ν 50 (120 * b + v) := by
        rw [← hn, ms_k (by decide)]
        exact bkm_50 eb lt hv (nV ν) nv
      have em11 : m 11 v = if v < nV ν ∧ (ν 46 v >>> (s &&& 31)) &&& 1 = 1 then μ 11 v ||| (1 : Int32) <<< (ν 39 15 &&& 31) else μ 11 v := by
        rw [← hm, ckp_11]
        have c9 : cbk μ s 9 = ν 46 := by rw [cbk, mset_ne 9 (by decide), mset_ne 9 (by decide), b7]
        have c11 : cbk μ s 11 = μ 11 := by rw [cbk, mset_ne 11 (by decide), mset_ne 11 (by decide)]
        rw [c9, c11]
      rw [nBn]
      by_cases q : b = nB ν
      · have f0 := f2 (by omega)
        have fb : bt (μ 11 v) b = false := by rw [f1, f0]; rfl
        by_cases l : v < nV ν
        · by_cases z : (ν 46 v >>> (s &&& 31)) &&& 1 = 1
          · have e5 : n 50 (120 * b + v) = 1 := by rw [en50, if_pos ⟨q, l⟩, bz, if_pos z]
            have e1 : m 11 v = μ 11 v ||| (1 : Int32) <<< (nI (nB ν) &&& 31) := by rw [em11, if_pos ⟨l, z⟩, eb]
            rw [e5, e1, b_or, fb, bt_sh (by omega) (by omega), decide_eq_true q]
            exact ⟨rfl, fun y => absurd y (by omega)⟩
          · have e5 : n 50 (120 * b + v) = 0 := by rw [en50, if_pos ⟨q, l⟩, bz, if_neg z]
            have e1 : m 11 v = μ 11 v := by rw [em11, if_neg (fun y => z y.2)]
            rw [e5, e1, fb]
            exact ⟨rfl, fun _ => rfl⟩
        · have e5 : n 50 (120 * b + v) = ν 50 (120 * b + v) := by rw [en50, if_neg (fun y => l y.2)]
          have e1 : m 11 v = μ 11 v := by rw [em11, if_neg (fun y => l y.1)]
          rw [e5, e1]
          exact ⟨f1, fun _ => f0⟩
      · have e5 : n 50 (120 * b + v) = ν 50 (120 * b + v) := by rw [en50, if_neg (fun y => q y.1)]
        rw [e5, em11]
        refine ⟨?_, fun y => f2 (by omega)⟩
        split
        · rw [eb, b_or, bt_sh (by omega) (by omega), decide_eq_false q, Bool.or_false]
          exact f1
        · exact f1
    · exact RG_c h7 (mo 36 (by decide) (by decide) (by decide)) (no 60 (by decide) (by decide) (by decide)) (no 61 (by decide) (by decide) (by decide)) (no 62 (by decide) (by decide) (by decide)) (n39 35 (by decide))
    · exact RH_c h8 (mo 15 (by decide) (by decide) (by decide)) (n39 27 (by decide)) (n39 28 (by decide))
    · unfold IA at h9 ⊢
      rw [n15, n39 1 (by decide), n39 5 (by decide), n39 12 (by decide), n39 19 (by decide), n39 20 (by decide), n39 0 (by decide), n39 35 (by decide)]
      have := ok.2
      grind
    · exact IB_c h10 (n39 1 (by decide)) (no 40 (by decide) (by decide) (by decide))
    · exact IC_c h11 (n39 1 (by decide)) (n39 5 (by decide)) (n39 0 (by decide)) (no 43 (by decide) (by decide) (by decide)) (no 45 (by decide) (by decide) (by decide)) (no 46 (by decide) (by decide) (by decide))
    · exact ID_c h12 (n39 12 (by decide)) (no 48 (by decide) (by decide) (by decide))
    · exact IE_c h13 (n39 20 (by decide)) (no 52 (by decide) (by decide) (by decide)) (no 53 (by decide) (by decide) (by decide))
    · exact IG_c h14 (no 51 (by decide) (by decide) (by decide))
  · rw [cf_backup, rf_backup, cg_backup, gf_backup, if_neg (fun z => ok (e.mp z)), if_neg ok, if_neg (fun z => ok (e.mp z)), if_neg ok]
    exact ⟨rfl, h⟩
