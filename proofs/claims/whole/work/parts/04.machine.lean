def cv (ad : Nat → Nat) : Vl → Value
  | .inl x => .int x
  | .inr k => .ref (ad k)
def mset (μ : Mem) (k j : Nat) (x : Int32) : Mem := fun a b => if a = k then (if b = j then x else μ a b) else μ a b
def wfs (ad : Nat → Nat) (μ : Mem) (k : Nat) (sl : List (Option Nat)) : List Value := sl.mapIdx (fun j o => match o with | some t => Value.ref (ad t) | none => Value.int (μ k j))
abbrev CIds : Type := ClassId × ClassId × ClassId
def wce (cs : CIds) (ad : Nat → Nat) (μ : Mem) (k : Nat) : Shp → va_E
  | .inl (n, b) => .inl ((if b then cs.2.1 else cs.1), n, .inl (μ k))
  | .inr (.inl ts) => .inl (cs.2.2, ts.length, .inr (.inr (.inr (.inr (fun i => (ts[i]?).map ad)))))
  | .inr (.inr q) => .inr (q.1, wfs ad μ k q.2)
def wld (cs : CIds) (ad : Nat → Nat) (μ : Mem) : va_W := shp.mapIdx (fun k sh => (ad k, wce cs ad μ k sh))
theorem wld_at {cs : CIds} {ad : Nat → Nat} {μ : Mem} {k : Nat} {sh : Shp} (h : shp[k]? = some sh) : (wld cs ad μ)[k]? = some (ad k, wce cs ad μ k sh) := by
  unfold wld
  rw [List.getElem?_mapIdx, h]
  rfl
theorem wce_congr {cs : CIds} {ad : Nat → Nat} {μ μ' : Mem} {k : Nat} (h : μ' k = μ k) (sh : Shp) : wce cs ad μ' k sh = wce cs ad μ k sh := by
  rcases sh with ⟨n, b⟩ | ts | q
  · simp only [wce, h]
  · rfl
  · simp only [wce, wfs, h]
theorem wld_set {cs : CIds} {ad : Nat → Nat} {μ μ' : Mem} {k : Nat} {sh : Shp} (h : shp[k]? = some sh) (hne : ∀ a, a ≠ k → μ' a = μ a) {e : va_E} (he : wce cs ad μ' k sh = e) : (wld cs ad μ).set k (ad k, e) = wld cs ad μ' := by
  apply List.ext_getElem?
  intro i
  rw [List.getElem?_set]
  by_cases hi : k = i
  · subst hi
    have hl : k < (wld cs ad μ).length := (List.getElem?_eq_some_iff.mp (wld_at (cs := cs) (ad := ad) (μ := μ) h)).1
    rw [if_pos rfl, if_pos hl, wld_at h, he]
  · rw [if_neg hi]
    unfold wld
    rw [List.getElem?_mapIdx, List.getElem?_mapIdx]
    cases shp[i]? with
    | none => rfl
    | some sh' => simp only [Option.map_some, wce_congr (hne i (fun q => hi q.symm))]
theorem mset_ne {μ : Mem} {k j : Nat} {x : Int32} (a : Nat) (h : a ≠ k) : mset μ k j x a = μ a := by
  funext b
  simp [mset, h]
theorem mset_row {μ : Mem} {k j : Nat} {x : Int32} : mset μ k j x k = upd (μ k) j x := by
  funext b
  simp [mset, upd]
theorem wfs_set {ad : Nat → Nat} {μ : Mem} {k j : Nat} {x : Int32} {sl : List (Option Nat)} (h : sl[j]? = some none) : wfs ad (mset μ k j x) k sl = (wfs ad μ k sl).set j (.int x) := by
  apply List.ext_getElem?
  intro i
  have hl : j < sl.length := (List.getElem?_eq_some_iff.mp h).1
  rw [List.getElem?_set]
  unfold wfs
  rw [List.getElem?_mapIdx, List.getElem?_mapIdx]
  by_cases hi : j = i
  · subst hi
    rw [if_pos rfl, if_pos (by simpa using hl), h]
    simp [mset]
  · rw [if_neg hi]
    cases sl[i]? with
    | none => rfl
    | some o =>
      cases o with
      | some t => rfl
      | none => simp [mset, show ¬ i = j from fun q => hi q.symm]
/-! locals -/
def lvr (ls : Array Slot) (nL : Nat) (ad : Nat → Nat) (L : Lc) : Prop := ls.size = nL ∧ lv_wf ls ∧ L.length = nL ∧ ∀ (i : Nat) (v : Vl), L[i]? = some (some v) → ls[i]? = some (.val (cv ad v))
def prs (ad : Nat → Nat) (L : Lc) : List (Nat × Value) := (List.range L.length).filterMap (fun i => match L[i]? with | some (some v) => some (i, cv ad v) | _ => none)
theorem prs_mem {ad : Nat → Nat} {L : Lc} {q : Nat × Value} : q ∈ prs ad L ↔ ∃ v, L[q.1]? = some (some v) ∧ q.2 = cv ad v := by
  unfold prs
  rw [List.mem_filterMap]
  constructor
  · rintro ⟨i, -, h⟩
    split at h
    · rename_i v hv
      cases h
      exact ⟨v, hv, rfl⟩
    · cases h
  · rintro ⟨v, h1, h2⟩
    refine ⟨q.1, List.mem_range.mpr (List.getElem?_eq_some_iff.mp h1).1, ?_⟩
    rw [h1]
    obtain ⟨a, b⟩ := q
    simp only at h2
    rw [h2]
theorem cv_cat (ad : Nat → Nat) (v : Vl) : (cv ad v).category = 1 := by
  cases v <;> rfl
theorem lvr.has {ls : Array Slot} {nL : Nat} {ad : Nat → Nat} {L : Lc} (h : lvr ls nL ad L) : lv_has ls nL (prs ad L) := by
  refine ⟨h.1, h.2.1, fun q hq => ?_⟩
  obtain ⟨v, h1, h2⟩ := prs_mem.mp hq
  rw [h2]
  exact h.2.2.2 _ _ h1
theorem lvr.store {ls ls' : Array Slot} {nL i : Nat} {ad : Nat → Nat} {L : Lc} {w : Vl} {x : Value} (h : lvr ls nL ad L) (hx : x = cv ad w) (h' : lv_has ls' nL ((i, x) :: (prs ad L).filter (fun q => !(q.1 == i) && !(q.1 + 1 == i && q.2.category == 2)))) : lvr ls' nL ad (L.set i (some w)) := by
  refine ⟨h'.1, h'.2.1, by rw [List.length_set]; exact h.2.2.1, fun j v hj => ?_⟩
  rw [List.getElem?_set] at hj
  by_cases e : i = j
  · subst e
    rw [if_pos rfl] at hj
    split at hj
    · cases hj
      rw [← hx]
      exact h'.2.2 (i, x) List.mem_cons_self
    · cases hj
  · rw [if_neg e] at hj
    refine h'.2.2 (j, cv ad v) (List.mem_cons_of_mem _ (List.mem_filter.mpr ⟨prs_mem.mpr ⟨v, hj, rfl⟩, ?_⟩))
    simp [cv_cat, show ¬ j = i from fun q => e q.symm]
theorem lvr.weak {ls : Array Slot} {nL : Nat} {ad : Nat → Nat} {L L' : Lc} (h : lvr ls nL ad L) (hl : L'.length = L.length) (hw : ∀ (i : Nat) (v : Vl), L'[i]? = some (some v) → L[i]? = some (some v)) : lvr ls nL ad L' := ⟨h.1, h.2.1, hl.trans h.2.2.1, fun i v hi => h.2.2.2 i v (hw i v hi)⟩
def getL : Lc → Nat → Option Vl
  | [], _ => none
  | o :: _, 0 => o
  | _ :: r, n + 1 => getL r n
def setL : Lc → Nat → Vl → Option Lc
  | [], _, _ => none
  | _ :: r, 0, v => some (some v :: r)
  | o :: r, n + 1, v => (setL r n v).map (fun r' => o :: r')
theorem getL_spec : ∀ {L : Lc} {i : Nat} {v : Vl}, getL L i = some v → L[i]? = some (some v)
  | [], _, _, h => by cases h
  | o :: _, 0, v, h => by simpa [getL] using h
  | _ :: r, n + 1, v, h => by
    rw [List.getElem?_cons_succ]
    exact getL_spec (L := r) h
theorem setL_spec : ∀ {L : Lc} {i : Nat} {v : Vl} {L' : Lc}, setL L i v = some L' → i < L.length ∧ L' = L.set i (some v)
  | [], _, _, _, h => by cases h
  | o :: r, 0, v, L', h => by
    cases h
    exact ⟨by simp, rfl⟩
  | o :: r, n + 1, v, L', h => by
    simp only [setL, Option.map_eq_some_iff] at h
    obtain ⟨r', h1, h2⟩ := h
    obtain ⟨h3, h4⟩ := setL_spec h1
    subst h2; subst h4
    exact ⟨by simpa using h3, rfl⟩
/-! what the cells answer -/
def fvl (μ : Mem) (k ci j : Nat) : Option Vl := match shp[k]? with
  | some (.inr (.inr (c, sl))) => if c = ci then (match sl[j]? with | some (some t) => some (.inr t) | some none => some (.inl (μ k j)) | none => none) else none
  | _ => none
/-- an int array's length; the script is cell 63 -/
def ial (k : Nat) : Option Nat := match shp[k]? with
  | some (.inl (n, false)) => some n
  | _ => none
def zal (k : Nat) : Option Nat := match shp[k]? with
  | some (.inl (n, true)) => some n
  | _ => none
def ral (k : Nat) : Option (List Nat) := match shp[k]? with
  | some (.inr (.inl ts)) => some ts
  | _ => none
def ushr (x y : Int32) : Int32 := (x.toUInt32 >>> (y.toUInt32 &&& Int32.toUInt32 31)).toInt32
def icm (c : Jvm.ClassFile.Cond) (a b : Int32) : Prop := match c with
  | .eq => a = b
  | .ne => a ≠ b
  | .lt => a < b
  | .ge => b ≤ a
  | .gt => b < a
  | .le => a ≤ b
