/-! a text over a version, both sides -/
theorem fa_or (a b : Nat) : nI a ||| nI b = nI (a ||| b) := by
  apply Int32.toBitVec_inj.1
  show BitVec.ofNat 32 a ||| BitVec.ofNat 32 b = BitVec.ofNat 32 (a ||| b)
  apply BitVec.eq_of_getLsbD_eq
  intro i hi
  simp [hi]
theorem fa_or_sum {a k : Nat} (b : Nat) (h : a < 2 ^ k) : nI (2 ^ k * b) ||| nI a = nI (2 ^ k * b + a) := by rw [fa_or, Nat.two_pow_add_eq_or_of_lt h]
theorem cst_N {w a b : Nat} (hw : w < 8) (ha : a < 8192) (hb : b < 8192) : cst (nI w) (nI a) (nI b) = nI (65536 * b + (8 * a + w)) := by
  have e1 : nI b <<< ((16 : Int32) &&& 31) = nI (2 ^ 16 * b) := by
    rw [pk_shlN ((16 : Int32) &&& 31) 16 rfl (by omega), Nat.mul_comm]
  have e2 : nI a <<< ((3 : Int32) &&& 31) = nI (2 ^ 3 * a) := by
    rw [pk_shlN ((3 : Int32) &&& 31) 3 rfl (by omega), Nat.mul_comm]
  unfold cst
  rw [e1, e2, fa_or_sum (k := 16) b (by omega)]
  have e3 : 2 ^ 16 * b + 2 ^ 3 * a = 2 ^ 3 * (8192 * b + a) := by omega
  rw [e3, fa_or_sum (k := 3) (8192 * b + a) (by omega)]
  congr 1
  omega
theorem cst_dec {w a b : Nat} (hw : w < 8) (ha : a < 8192) (hb : b < 8192) : cst (nI w) (nI a) (nI b) &&& 7 = nI w ∧ ushr (cst (nI w) (nI a) (nI b)) 3 &&& 8191 = nI a ∧ ushr (cst (nI w) (nI a) (nI b)) 16 = nI b := by
  rw [cst_N hw ha hb]
  have h32 : 65536 * b + (8 * a + w) < 2 ^ 32 := by omega
  refine ⟨?_, ?_, ?_⟩
  · rw [pk_andN h32 (m := 7) 3 rfl]
    congr 1
    omega
  · unfold ushr
    rw [pk_ushrN h32 3 3 rfl, pk_andN (by omega) (m := 8191) 13 rfl]
    congr 1
    omega
  · unfold ushr
    rw [pk_ushrN h32 16 16 rfl]
    congr 1
    omega
theorem Vo_nat {w a b : Int32} (h : Vo w a b) : ∃ w' a' b', w = nI w' ∧ a = nI a' ∧ b = nI b' ∧ w' < 7 ∧ a' < 8192 ∧ b' < 8192 := by
  have ix : ∀ {x M : Int32} {n : Nat}, M.toInt = n → 0 ≤ x → x ≤ M → ∃ j, j ≤ n ∧ x = nI j := fun hM h0 h1 => nIx hM h0 h1
  rcases h with ⟨h1, h2, h3, h4⟩ | ⟨h1, h2, h3, h4⟩ | ⟨h1, h2, h3, h4⟩ | ⟨h1, h2, h3, h4⟩ | ⟨h1, h2, h3⟩
  · obtain ⟨a', x, y⟩ := ix (n := 29) (M := 29) rfl h2 h3
    exact ⟨0, a', 0, h1, y, h4, by omega, by omega, by omega⟩
  · obtain ⟨a', x, y⟩ := ix (n := 9) (M := 9) rfl h2 h3
    exact ⟨1, a', 0, h1, y, h4, by omega, by omega, by omega⟩
  · obtain ⟨a', x, y⟩ := ix (n := 5) (M := 5) rfl h2 h3
    exact ⟨2, a', 0, h1, y, h4, by omega, by omega, by omega⟩
  · obtain ⟨a', x, y⟩ := ix (n := 5000) (M := 5000) rfl h2 (Int32.le_trans h3 h4)
    obtain ⟨b', x', y'⟩ := ix (n := 5000) (M := 5000) rfl (Int32.le_trans h2 h3) h4
    exact ⟨3, a', b', h1, y, y', by omega, by omega, by omega⟩
  · rcases h1 with h1 | h1 | h1
    · exact ⟨4, 0, 0, h1, h2, h3, by omega, by omega, by omega⟩
    · exact ⟨5, 0, 0, h1, h2, h3, by omega, by omega, by omega⟩
    · exact ⟨6, 0, 0, h1, h2, h3, by omega, by omega, by omega⟩
theorem Vo_dec {w a b : Int32} (h : Vo w a b) : cst w a b &&& 7 = w ∧ ushr (cst w a b) 3 &&& 8191 = a ∧ ushr (cst w a b) 16 = b := by
  obtain ⟨w', a', b', e1, e2, e3, h1, h2, h3⟩ := Vo_nat h
  rw [e1, e2, e3]
  exact cst_dec (by omega) h2 h3
theorem b_m2 : ∀ i, i < 32 → bt (-2) i = decide (¬ i = 0) := by decide +kernel
theorem bt_cpu {st : Int32} {p : Bool} {i : Nat} (hi : i < 32) : bt (cpu st p) i = if i = 0 then p else bt st (i - 1) := by
  unfold cpu
  rw [b_or, show bt (st <<< ((1 : Int32) &&& 31)) i = (decide (1 ≤ i) && bt st (i - 1)) from b_shl 1 (by decide) st hi]
  by_cases h : i = 0
  · subst h
    cases p <;> simp [b_0, b_1]
  · have h1 : 1 ≤ i := by omega
    cases p <;> simp [b_0, b_1, h, h1]
theorem bt_u1 {st : Int32} {i : Nat} : bt (ushr st 1) i = bt st (1 + i) := b_ushr 1 (by decide) st i
theorem bt_one {x : Int32} : (x &&& 1 = 1) ↔ bt x 0 = true := by
  constructor
  · intro h
    have h2 : bt (x &&& 1) 0 = bt 1 0 := by rw [h]
    rw [b_and, b_1] at h2
    simpa using h2
  · intro h
    apply b_ext
    intro i hi
    rw [b_and, b_1]
    by_cases e : i = 0
    · subst e
      simp [h]
    · simp [e]
/-- a hold's text, both sides -/
def tr1 (m ν : Mem) (H k : Nat) : Prop := m (21 + H) k = cst (ν 55 (64 * H + k)) (ν 56 (64 * H + k)) (ν 57 (64 * H + k)) ∧ dpt ν (64 * H) k ≤ 30 ∧ (ν 55 (64 * H + k) = 4 → 1 ≤ dpt ν (64 * H) k) ∧ (4 < ν 55 (64 * H + k) → 2 ≤ dpt ν (64 * H) k) ∧ Vo (ν 55 (64 * H + k)) (ν 56 (64 * H + k)) (ν 57 (64 * H + k))
def TR (m ν : Mem) (H : Nat) : Prop := ∃ n, m 34 H = nI n ∧ ν 54 H = nI n ∧ n ≤ 60 ∧ dpt ν (64 * H) n = 1 ∧ ∀ k, k < n → tr1 m ν H k
theorem TX_TR {m ν : Mem} {O : Nat} (h : TX m ν O 1) : TR m ν 12 := ⟨O, h⟩
theorem TR_TOk {m ν : Mem} {H : Nat} (h : TR m ν H) : TOk ν H := by
  obtain ⟨n, h1, h2, h3, h4, h5⟩ := h
  exact ⟨n, h2, h3, by omega, fun k hk => ⟨(h5 k hk).2.1, (h5 k hk).2.2.1, (h5 k hk).2.2.2.1⟩⟩
theorem TR_CTk {m ν : Mem} {H : Nat} (h : TR m ν H) : CTk m H := by
  obtain ⟨n, h1, h2, h3, h4, h5⟩ := h
  exact ⟨n, h1, h3⟩
theorem acc_sim {m ν : Mem} {H : Nat} {v : Int32} {wo os kd dy : Int32} (hwo : wo = ν 44 v.toNatClampNeg) (hos : os = ν 42 (ν 43 v.toNatClampNeg).toNatClampNeg) (hkd : kd = ν 40 (ν 43 v.toNatClampNeg).toNatClampNeg) (hdy : dy = ν 45 v.toNatClampNeg) (n : Nat) (h5 : ∀ k, k < n → tr1 m ν H k) : ∀ k, k ≤ n → ∀ i, i < dpt ν (64 * H) k → i < 32 → bt (cacs m H wo os kd dy k) i = tv ν v (64 * H) k (dpt ν (64 * H) k - 1 - i)
  | 0, _, i, hi, _ => absurd hi (Nat.not_lt_zero i)
  | k + 1, hk, i, hi, hi32 => by
    have ih := acc_sim hwo hos hkd hdy n h5 k (by omega)
    obtain ⟨t1, t2, t3, t4, t5⟩ := h5 k (by omega)
    obtain ⟨d1, d2, d3⟩ := Vo_dec t5
    have e : cacs m H wo os kd dy (k + 1) = cac1 (cacs m H wo os kd dy k) wo os kd dy (m (21 + H) k) := rfl
    rw [e, t1]
    generalize hst : cacs m H wo os kd dy k = st at ih
    generalize hD : dpt ν (64 * H) k = D at *
    generalize hw : ν 55 (64 * H + k) = w at *
    generalize ha : ν 56 (64 * H + k) = a at *
    generalize hb : ν 57 (64 * H + k) = b at *
    have hcase : w = 0 ∨ w = 1 ∨ w = 2 ∨ w = 3 ∨ w = 4 ∨ w = 5 ∨ w = 6 := by
      rcases t5 with ⟨h1, -⟩ | ⟨h1, -⟩ | ⟨h1, -⟩ | ⟨h1, -⟩ | ⟨h1 | h1 | h1, -⟩ <;> simp [h1]
    have hdp : dpt ν (64 * H) (k + 1) = if w = 4 then D else if 4 < w then D - 1 else D + 1 := by
      rw [← hD, ← hw]
      rfl
    have htv : ∀ j, tv ν v (64 * H) (k + 1) j = if w = 4 then (if j = D - 1 then !(tv ν v (64 * H) k j) else tv ν v (64 * H) k j) else if 4 < w then (if j = D - 2 then (if w = 5 then tv ν v (64 * H) k j && tv ν v (64 * H) k (j + 1) else tv ν v (64 * H) k j || tv ν v (64 * H) k (j + 1)) else tv ν v (64 * H) k j) else (if j = D then rf_atom ν w a b v else tv ν v (64 * H) k j) := fun j => by
      rw [← hD, ← hw, ← ha, ← hb]
      rfl
    rw [hdp] at hi ⊢
    rw [htv]
    have push : ∀ p : Bool, ¬ w = 4 → ¬ 4 < w → cac1 st wo os kd dy (cst w a b) = cpu st p → rf_atom ν w a b v = p → bt (cac1 st wo os kd dy (cst w a b)) i = if w = 4 then (if (if w = 4 then D else if 4 < w then D - 1 else D + 1) - 1 - i = D - 1 then !(tv ν v (64 * H) k ((if w = 4 then D else if 4 < w then D - 1 else D + 1) - 1 - i)) else tv ν v (64 * H) k ((if w = 4 then D else if 4 < w then D - 1 else D + 1) - 1 - i)) else if 4 < w then (if (if w = 4 then D else if 4 < w then D - 1 else D + 1) - 1 - i = D - 2 then (if w = 5 then tv ν v (64 * H) k ((if w = 4 then D else if 4 < w then D - 1 else D + 1) - 1 - i) && tv ν v (64 * H) k ((if w = 4 then D else if 4 < w then D - 1 else D + 1) - 1 - i + 1) else tv ν v (64 * H) k ((if w = 4 then D else if 4 < w then D - 1 else D + 1) - 1 - i) || tv ν v (64 * H) k ((if w = 4 then D else if 4 < w then D - 1 else D + 1) - 1 - i + 1)) else tv ν v (64 * H) k ((if w = 4 then D else if 4 < w then D - 1 else D + 1) - 1 - i)) else (if (if w = 4 then D else if 4 < w then D - 1 else D + 1) - 1 - i = D then rf_atom ν w a b v else tv ν v (64 * H) k ((if w = 4 then D else if 4 < w then D - 1 else D + 1) - 1 - i)) := fun p n4 n5 hc hat => by
      rw [if_neg n4, if_neg n5] at hi
      simp only [if_neg n4, if_neg n5]
      rw [hc, hat, bt_cpu hi32]
      by_cases hi0 : i = 0
      · rw [if_pos hi0, if_pos (by omega)]
      · rw [if_neg hi0, if_neg (by omega), ih (i - 1) (by omega) (by omega)]
        congr 1
        omega
    rcases hcase with h | h | h | h | h | h | h
    · refine push (decide ((wo >>> (a &&& 31)) &&& 1 = 1)) (by rw [h]; decide) (by rw [h]; decide) ?_ ?_
      · rw [cac1, d1, if_pos h, d2]
      · rw [rf_atom, hwo]
        simp only [if_pos h]
    · refine push (decide ((os >>> (a &&& 31)) &&& 1 = 1)) (by rw [h]; decide) (by rw [h]; decide) ?_ ?_
      · rw [cac1, d1, if_neg (by rw [h]; decide), if_pos h, d2]
      · rw [rf_atom, hos]
        simp only [if_neg (show ¬ w = 0 by rw [h]; decide), if_pos h]
    · refine push (decide (kd = a)) (by rw [h]; decide) (by rw [h]; decide) ?_ ?_
      · rw [cac1, d1, if_neg (by rw [h]; decide), if_neg (by rw [h]; decide), if_pos h, d2]
      · rw [rf_atom, hkd]
        simp only [if_neg (show ¬ w = 0 by rw [h]; decide), if_neg (show ¬ w = 1 by rw [h]; decide), if_pos h]
    · refine push (decide (a ≤ dy ∧ dy ≤ b)) (by rw [h]; decide) (by rw [h]; decide) ?_ ?_
      · rw [cac1, d1, if_neg (by rw [h]; decide), if_neg (by rw [h]; decide), if_neg (by rw [h]; decide), if_pos h, d2, d3]
      · rw [rf_atom, hdy]
        simp only [if_neg (show ¬ w = 0 by rw [h]; decide), if_neg (show ¬ w = 1 by rw [h]; decide), if_neg (show ¬ w = 2 by rw [h]; decide)]
    · have hc : cac1 st wo os kd dy (cst w a b) = st ^^^ 1 := by
        rw [cac1, d1, if_neg (by rw [h]; decide), if_neg (by rw [h]; decide), if_neg (by rw [h]; decide), if_neg (by rw [h]; decide), if_pos h]
      rw [if_pos h] at hi
      have hd := t3 h
      simp only [if_pos h]
      rw [hc, b_xor, b_1, ih i hi hi32]
      by_cases hi0 : i = 0
      · subst hi0
        rw [if_pos (by omega)]
        simp
      · rw [if_neg (by omega)]
        simp [hi0]
    · have n4 : ¬ w = 4 := by rw [h]; decide
      have g4 : 4 < w := by rw [h]; decide
      have hc : cac1 st wo os kd dy (cst w a b) = ushr st 1 &&& (st ||| -2) := by
        rw [cac1, d1, if_neg (by rw [h]; decide), if_neg (by rw [h]; decide), if_neg (by rw [h]; decide), if_neg (by rw [h]; decide), if_neg n4, if_pos h]
      rw [if_neg n4, if_pos g4] at hi
      have hd := t4 g4
      simp only [if_neg n4, if_pos g4, if_pos h]
      rw [hc, b_and, b_or, b_m2 i hi32, bt_u1, ih (1 + i) (by omega) (by omega), ih i (by omega) hi32]
      by_cases hi0 : i = 0
      · subst hi0
        rw [if_pos (by omega)]
        have x1 : D - 1 - (1 + 0) = D - 1 - 1 - 0 := by omega
        have x2 : D - 1 - 0 = D - 1 - 1 - 0 + 1 := by omega
        rw [x1, x2]
        simp
      · rw [if_neg (by omega)]
        have x1 : D - 1 - (1 + i) = D - 1 - 1 - i := by omega
        rw [x1]
        simp [hi0]
    · have n4 : ¬ w = 4 := by rw [h]; decide
      have g4 : 4 < w := by rw [h]; decide
      have n5 : ¬ w = 5 := by rw [h]; decide
      have hc : cac1 st wo os kd dy (cst w a b) = ushr st 1 ||| (st &&& 1) := by
        rw [cac1, d1, if_neg (by rw [h]; decide), if_neg (by rw [h]; decide), if_neg (by rw [h]; decide), if_neg (by rw [h]; decide), if_neg n4, if_neg n5]
      rw [if_neg n4, if_pos g4] at hi
      have hd := t4 g4
      simp only [if_neg n4, if_pos g4, if_neg n5]
      rw [hc, b_or, b_and, b_1, bt_u1, ih (1 + i) (by omega) (by omega), ih i (by omega) hi32]
      by_cases hi0 : i = 0
      · subst hi0
        rw [if_pos (by omega)]
        have x1 : D - 1 - (1 + 0) = D - 1 - 1 - 0 := by omega
        have x2 : D - 1 - 0 = D - 1 - 1 - 0 + 1 := by omega
        rw [x1, x2]
        simp
      · rw [if_neg (by omega)]
        have x1 : D - 1 - (1 + i) = D - 1 - 1 - i := by omega
        rw [x1]
        simp [hi0]
theorem fit_sim {m ν : Mem} {H V : Nat} (hV : V < 120) (hT : TR m ν H) (h7 : m 7 = ν 44) (h4 : m 4 = ν 42) (h6 : m 6 = ν 43) (h2 : m 2 = ν 40) (h8 : m 8 = ν 45) : ctb m H V = rf_fit ν H (nI V) := by
  obtain ⟨n, t1, t2, t3, t4, t5⟩ := hT
  have e : (nI V).toNatClampNeg = V := nI_clamp (by omega)
  have en : (m 34 H).toNatClampNeg = n := by rw [t1]; exact nI_clamp (by omega)
  have en2 : (ν 54 H).toNatClampNeg = n := by rw [t2]; exact nI_clamp (by omega)
  have h := acc_sim (m := m) (ν := ν) (H := H) (v := nI V) (wo := m 7 V) (os := m 4 (m 6 V).toNatClampNeg) (kd := m 2 (m 6 V).toNatClampNeg) (dy := m 8 V) (by rw [e, h7]) (by rw [e, h4, h6]) (by rw [e, h2, h6]) (by rw [e, h8]) n t5 n (Nat.le_refl n) 0 (by omega) (by decide)
  rw [t4] at h
  unfold ctb rf_fit
  rw [en, en2]
  have h9 : tv ν (nI V) (64 * H) n 0 = bt (cacs m H (m 7 V) (m 4 (m 6 V).toNatClampNeg) (m 2 (m 6 V).toNatClampNeg) (m 8 V) n) 0 := h.symm
  rw [h9]
  cases hb : bt (cacs m H (m 7 V) (m 4 (m 6 V).toNatClampNeg) (m 2 (m 6 V).toNatClampNeg) (m 8 V) n) 0
  · exact decide_eq_false (fun z => by rw [bt_one, hb] at z; cases z)
  · exact decide_eq_true (by rw [bt_one]; exact hb)
