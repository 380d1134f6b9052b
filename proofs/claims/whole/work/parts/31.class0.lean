/-! ===== Int32 by its bits: bt x i ===== -/
def bt (x : Int32) (i : Nat) : Bool := x.toBitVec.getLsbD i
theorem b_ext {x y : Int32} (h : ∀ i, i < 32 → bt x i = bt y i) : x = y := Int32.toBitVec_inj.mp (BitVec.eq_of_getLsbD_eq (fun i hi => h i hi))
theorem b_or (x y : Int32) (i : Nat) : bt (x ||| y) i = (bt x i || bt y i) := by unfold bt; rw [Int32.toBitVec_or, BitVec.getLsbD_or]
theorem b_and (x y : Int32) (i : Nat) : bt (x &&& y) i = (bt x i && bt y i) := by unfold bt; rw [Int32.toBitVec_and, BitVec.getLsbD_and]
theorem b_xor (x y : Int32) (i : Nat) : bt (x ^^^ y) i = (bt x i ^^ bt y i) := by unfold bt; rw [Int32.toBitVec_xor, BitVec.getLsbD_xor]
theorem b_big {x : Int32} {i : Nat} (h : 32 ≤ i) : bt x i = false := BitVec.getLsbD_of_ge _ _ h
theorem b_255 (i : Nat) : bt 255 i = decide (i < 8) := by
  rcases Nat.lt_or_ge i 32 with h | h
  · exact (by decide +kernel : ∀ i, i < 32 → bt 255 i = decide (i < 8)) i h
  · rw [b_big h, decide_eq_false (by omega)]
theorem b_65535 (i : Nat) : bt 65535 i = decide (i < 16) := by
  rcases Nat.lt_or_ge i 32 with h | h
  · exact (by decide +kernel : ∀ i, i < 32 → bt 65535 i = decide (i < 16)) i h
  · rw [b_big h, decide_eq_false (by omega)]
theorem b_m1 : ∀ i, i < 32 → bt (-1) i = true := by decide +kernel
theorem b_0 (i : Nat) : bt 0 i = false := BitVec.getLsbD_zero
theorem s_l : ∀ n, n < 32 → ((nI n &&& 31).toBitVec.smod 32).toNat = n := by decide +kernel
theorem s_u : ∀ n, n < 32 → (((nI n).toUInt32 &&& Int32.toUInt32 31).toBitVec % 32).toNat = n := by decide +kernel
theorem b_shl (n : Nat) (hn : n < 32) (x : Int32) {i : Nat} (hi : i < 32) : bt (x <<< (nI n &&& 31)) i = (decide (n ≤ i) && bt x (i - n)) := by
  unfold bt
  rw [Int32.toBitVec_shiftLeft]
  show (x.toBitVec <<< ((nI n &&& 31).toBitVec.smod 32).toNat).getLsbD i = _
  rw [s_l n hn, BitVec.getLsbD_shiftLeft]
  rcases Nat.lt_or_ge i n with h | h
  · simp [h, Nat.not_le.mpr h]
  · simp [hi, h, Nat.not_lt.mpr h]
theorem b_ushr (n : Nat) (hn : n < 32) (x : Int32) (i : Nat) : bt ((x.toUInt32 >>> ((nI n).toUInt32 &&& Int32.toUInt32 31)).toInt32) i = bt x (n + i) := by
  show (x.toUInt32 >>> ((nI n).toUInt32 &&& Int32.toUInt32 31)).toBitVec.getLsbD i = x.toUInt32.toBitVec.getLsbD (n + i)
  rw [UInt32.toBitVec_shiftRight]
  show (x.toUInt32.toBitVec >>> (((nI n).toUInt32 &&& Int32.toUInt32 31).toBitVec % 32).toNat).getLsbD i = _
  rw [s_u n hn, BitVec.getLsbD_ushiftRight]
theorem b_sshr (n : Nat) (hn : n < 32) (x : Int32) {i : Nat} (hi : i < 32) : bt (x >>> (nI n &&& 31)) i = if n + i < 32 then bt x (n + i) else bt x 31 := by
  unfold bt
  rw [Int32.toBitVec_shiftRight]
  show (x.toBitVec.sshiftRight ((nI n &&& 31).toBitVec.smod 32).toNat).getLsbD i = _
  rw [s_l n hn, BitVec.getLsbD_sshiftRight, BitVec.msb_eq_getLsbD_last]
  simp [hi]
theorem b_shl8 (x : Int32) {i : Nat} (hi : i < 32) : bt (x <<< ((8 : Int32) &&& 31)) i = (decide (8 ≤ i) && bt x (i - 8)) := b_shl 8 (by omega) x hi
theorem b_shl16 (x : Int32) {i : Nat} (hi : i < 32) : bt (x <<< ((16 : Int32) &&& 31)) i = (decide (16 ≤ i) && bt x (i - 16)) := b_shl 16 (by omega) x hi
theorem b_shl24 (x : Int32) {i : Nat} (hi : i < 32) : bt (x <<< ((24 : Int32) &&& 31)) i = (decide (24 ≤ i) && bt x (i - 24)) := b_shl 24 (by omega) x hi
theorem b_sshr8 (x : Int32) {i : Nat} (hi : i < 32) : bt (x >>> ((8 : Int32) &&& 31)) i = if 8 + i < 32 then bt x (8 + i) else bt x 31 := b_sshr 8 (by omega) x hi
theorem b_1 (i : Nat) : bt 1 i = decide (i = 0) := by
  rcases Nat.lt_or_ge i 32 with h | h
  · exact (by decide +kernel : ∀ i, i < 32 → bt 1 i = decide (i = 0)) i h
  · rw [b_big h, decide_eq_false (by omega)]
theorem a31 : ∀ j, j < 32 → nI j &&& 31 = nI j := by decide +kernel
theorem ushr_eq {x e : Int32} {j : Nat} (h : e &&& 31 = nI j) : ushr x e = ushr x (nI j) := by
  unfold ushr
  have h1 : e.toUInt32 &&& Int32.toUInt32 31 = (e &&& 31).toUInt32 &&& Int32.toUInt32 31 := by
    apply UInt32.toBitVec_inj.mp
    show e.toBitVec &&& 31#32 = (e.toBitVec &&& 31#32) &&& 31#32
    rw [BitVec.and_assoc, BitVec.and_self]
  rw [h1, h]
theorem ushr_1 (x e : Int32) : ushr x e &&& 1 = (x >>> (e &&& 31)) &&& 1 := by
  obtain ⟨j, hj, he⟩ := pk_andE e (m := 31) 5 rfl
  have hj' : j < 32 := hj
  rw [ushr_eq he, he]
  apply b_ext
  intro i hi
  rw [b_and, b_and, b_1]
  by_cases h : i = 0
  · subst h
    have h2 := b_sshr j hj' x (i := 0) (by decide)
    rw [a31 j hj'] at h2
    rw [h2, if_pos (by omega)]
    exact congrArg (· && true) (b_ushr j hj' x 0)
  · simp [h]
theorem and1 (x : Int32) : x &&& 1 = 0 ∨ x &&& 1 = 1 := by
  obtain ⟨j, hj, he⟩ := pk_andE x (m := 1) 1 rfl
  rw [he]
  have hj' : j < 2 := hj
  rcases (by omega : j = 0 ∨ j = 1) with h | h
  · left; rw [h]; rfl
  · right; rw [h]; rfl
def MxS (oc idx : Nat) : Prop := Cond.methodLink (ownN oc) idx Lib.Math.max.name ∈ gwt ∧ Cond.static Lib.Math.max.name ∈ gwt ∧ Cond.initialized "java/lang/Math" ∈ gwt ∧ Cond.code Lib.Math.max.name Lib.Math.max.code 2 (some .int) ∈ gwt
def MnS (oc idx : Nat) : Prop := Cond.methodLink (ownN oc) idx Lib.Math.min.name ∈ gwt ∧ Cond.static Lib.Math.min.name ∈ gwt ∧ Cond.initialized "java/lang/Math" ∈ gwt ∧ Cond.code Lib.Math.min.name Lib.Math.min.code 2 (some .int) ∈ gwt
theorem Mmax_3 : MxS 3 118 := ⟨(List.mem_filter.mpr ⟨List.mem_of_getElem? (i := 469) (by decide +kernel), by decide +kernel⟩), (List.mem_filter.mpr ⟨List.mem_of_getElem? (i := 470) (by decide +kernel), by decide +kernel⟩), (List.mem_filter.mpr ⟨List.mem_of_getElem? (i := 70) (by decide +kernel), by decide +kernel⟩), (List.mem_filter.mpr ⟨List.mem_of_getElem? (i := 471) (by decide +kernel), by decide +kernel⟩)⟩
theorem Mmax_7 : MxS 7 170 := ⟨(List.mem_filter.mpr ⟨List.mem_of_getElem? (i := 534) (by decide +kernel), by decide +kernel⟩), (List.mem_filter.mpr ⟨List.mem_of_getElem? (i := 470) (by decide +kernel), by decide +kernel⟩), (List.mem_filter.mpr ⟨List.mem_of_getElem? (i := 70) (by decide +kernel), by decide +kernel⟩), (List.mem_filter.mpr ⟨List.mem_of_getElem? (i := 471) (by decide +kernel), by decide +kernel⟩)⟩
theorem Mmax_0 : MxS 0 32 := ⟨(List.mem_filter.mpr ⟨List.mem_of_getElem? (i := 581) (by decide +kernel), by decide +kernel⟩), (List.mem_filter.mpr ⟨List.mem_of_getElem? (i := 470) (by decide +kernel), by decide +kernel⟩), (List.mem_filter.mpr ⟨List.mem_of_getElem? (i := 70) (by decide +kernel), by decide +kernel⟩), (List.mem_filter.mpr ⟨List.mem_of_getElem? (i := 471) (by decide +kernel), by decide +kernel⟩)⟩
theorem Mmin_3 : MnS 3 124 := ⟨(List.mem_filter.mpr ⟨List.mem_of_getElem? (i := 472) (by decide +kernel), by decide +kernel⟩), (List.mem_filter.mpr ⟨List.mem_of_getElem? (i := 473) (by decide +kernel), by decide +kernel⟩), (List.mem_filter.mpr ⟨List.mem_of_getElem? (i := 70) (by decide +kernel), by decide +kernel⟩), (List.mem_filter.mpr ⟨List.mem_of_getElem? (i := 474) (by decide +kernel), by decide +kernel⟩)⟩
theorem Mmin_1 : MnS 1 22 := ⟨(List.mem_filter.mpr ⟨List.mem_of_getElem? (i := 609) (by decide +kernel), by decide +kernel⟩), (List.mem_filter.mpr ⟨List.mem_of_getElem? (i := 473) (by decide +kernel), by decide +kernel⟩), (List.mem_filter.mpr ⟨List.mem_of_getElem? (i := 70) (by decide +kernel), by decide +kernel⟩), (List.mem_filter.mpr ⟨List.mem_of_getElem? (i := 474) (by decide +kernel), by decide +kernel⟩)⟩
theorem X.max {oc nL : Nat} {cc : ByteArray} {ret : Option FieldType} {d : Nat} {Q : Option Vl → Mem → Prop} {μ : Mem} {pc : Nat} {L : Lc} {idx : Nat} {rest : List Vl} {x y : Int32} (hs : MxS oc idx) (hd : decode cc pc = .ok (.invokestatic idx, 3)) (hdd : 1 ≤ d) (hrest : rest.length ≤ 8) (kk : X oc nL cc ret d μ (pc + 3) L (.inl (if x < y then y else x) :: rest) Q) : X oc nL cc ret d μ pc L (.inl y :: .inl x :: rest) Q := by
  intro l p e s m args below meth c D cs A ad hC hr hlk H locs ls hF
  obtain ⟨hx, hb, hml, hown, hts, hnw, hKn⟩ := id hC
  obtain ⟨h1, h2, h3, h4⟩ := hs
  have hcat := st_cat (ad := ad) hrest
  exact va_mmax hx hb (hml.trans hF.2.2.2.1.1.symm) hown (hts _ h1) (hts _ h2) (hts _ h3) (hts _ h4) hdd (by show _ + 13 ≤ 32 * d; omega) (Nat.le_refl _) (Nat.le_refl _) hd (kk l p e s m args below meth c D cs A ad hC hr hlk H locs ls hF)
theorem X.min {oc nL : Nat} {cc : ByteArray} {ret : Option FieldType} {d : Nat} {Q : Option Vl → Mem → Prop} {μ : Mem} {pc : Nat} {L : Lc} {idx : Nat} {rest : List Vl} {x y : Int32} (hs : MnS oc idx) (hd : decode cc pc = .ok (.invokestatic idx, 3)) (hdd : 1 ≤ d) (hrest : rest.length ≤ 8) (kk : X oc nL cc ret d μ (pc + 3) L (.inl (if y < x then y else x) :: rest) Q) : X oc nL cc ret d μ pc L (.inl y :: .inl x :: rest) Q := by
  intro l p e s m args below meth c D cs A ad hC hr hlk H locs ls hF
  obtain ⟨hx, hb, hml, hown, hts, hnw, hKn⟩ := id hC
  obtain ⟨h1, h2, h3, h4⟩ := hs
  have hcat := st_cat (ad := ad) hrest
  exact va_mmin hx hb (hml.trans hF.2.2.2.1.1.symm) hown (hts _ h1) (hts _ h2) (hts _ h3) (hts _ h4) hdd (by show _ + 13 ≤ 32 * d; omega) (Nat.le_refl _) (Nat.le_refl _) hd (kk l p e s m args below meth c D cs A ad hC hr hlk H locs ls hF)
