/-! the law, from its entry -/
def cwL : List Cond := [.classLink RL 7 RX7, .instantiable RX7 14, .initialized RX7, .code yX7_init cX7_init 1 none, .methodLink RL 9 yX7_init, .instanceMethod yX7_init, .classLink RL 10 RX8, .instantiable RX8 40, .initialized RX8, .code yX8_init cX8_init 1 none, .methodLink RL 12 yX8_init, .instanceMethod yX8_init, .arrayClass .int, .arrayClass .boolean]
theorem cwL_ok : ∀ w ∈ cwL, w ∈ gwt := by decide +kernel
def adL (as : List Nat) : Nat → Nat := fun k => as.getD k 0
theorem gA_map {cs : CIds} {ad : Nat → Nat} (ts : List Nat) : gA cs (ts.map ad) = .inl (cs.2.2, ts.length, .inr (.inr (.inr (.inr (fun i => (ts[i]?).map ad))))) := by
  unfold gA
  rw [List.length_map]
  have : (fun i => (ts.map ad)[i]?) = (fun i => (ts[i]?).map ad) := funext fun i => List.getElem?_map ..
  rw [this]
theorem lvr_of {ls : Array Slot} {ad : Nat → Nat} {b a0 a39 : Nat} (hl : lv_has ls 4 [(3, .int (nI 0)), (2, .ref a39), (1, .ref a0), (0, .ref b)]) (h1 : ad 63 = b) (h2 : ad 0 = a0) (h3 : ad 39 = a39) : lvr ls 4 ad [some (.inr 63), some (.inr 0), some (.inr 39), some (.inl (nI 0))] := by
  subst h1 h2 h3
  refine ⟨hl.1, hl.2.1, rfl, fun i v hi => ?_⟩
  match i, hi with
  | 0, hi => cases hi; exact hl.2.2 (0, .ref (ad 63)) (by simp)
  | 1, hi => cases hi; exact hl.2.2 (1, .ref (ad 0)) (by simp)
  | 2, hi => cases hi; exact hl.2.2 (2, .ref (ad 39)) (by simp)
  | 3, hi => cases hi; exact hl.2.2 (3, .int (nI 0)) (by simp)
  | n + 4, hi => simp at hi
theorem inst_in : ∀ (ci : Nat) (q : vw_C), vwCl[ci]? = some q → Cond.instantiable q.1 q.2.2 ∈ gwt := by
  intro ci q h
  match ci, h with
  | 0, h => cases h; decide +kernel
  | 1, h => cases h; decide +kernel
  | 2, h => cases h; decide +kernel
  | 3, h => cases h; decide +kernel
  | 4, h => cases h; decide +kernel
  | 5, h => cases h; decide +kernel
  | 6, h => cases h; decide +kernel
  | 7, h => cases h; decide +kernel
  | 8, h => cases h; decide +kernel
  | n + 9, h => simp [vwCl] at h
theorem law_K {s : State} {args : Array Value} (hts : ∀ w ∈ gwt, w.before args s = true) (hO : aoI s) : ∃ (D : va_G) (cs : CIds), va_K D vwCl (wty cs) s := by
  obtain ⟨c1, k1, m1, a1, b1, d1⟩ := Cond.arrayClass_spec (hts (.arrayClass .int) (cwL_ok _ (List.mem_of_getElem? (i := 12) rfl)))
  obtain ⟨c2, k2, m2, a2, b2, d2⟩ := Cond.arrayClass_spec (hts (.arrayClass .boolean) (cwL_ok _ (List.mem_of_getElem? (i := 13) rfl)))
  obtain ⟨m3, c3, k3, a0, _, b3, d3, a3⟩ := arrayOverA_spec hO
  have h1 : ∀ c : Nat, ∃ d : ClassId × (Nat → Nat), ∀ q : vw_C, vwCl[c]? = some q → u_Kn s q.1 q.2.1 q.2.2 d.1 d.2 := by
    intro c
    cases hq : vwCl[c]? with
    | none => exact ⟨(c1, fun _ => 0), fun q h => by cases h⟩
    | some q =>
      obtain ⟨cC, iS, h⟩ := u_known (n := q.2.2) hts (cls_in c q hq).1 (hts _ (inst_in c q hq))
      exact ⟨(cC, iS), fun q' h' => by cases h'; exact h⟩
  obtain ⟨f, hf⟩ := Classical.axiomOfChoice h1
  refine ⟨(fun c => (f c).1, fun c => (f c).2), (c1, c2, c3), fun c q hq => hf c q hq, fun k q hk => ?_⟩
  match k, hk with
  | 0, hk => cases hk; exact ⟨fun n z => ⟨fun k h => (by cases h), k1, b1, m1, d1⟩, a1⟩
  | 1, hk => cases hk; exact ⟨fun n z => ⟨fun k h => (by cases h), k2, b2, m2, d2⟩, a2⟩
  | 2, hk => cases hk; exact ⟨fun n z => ⟨fun k h => (by cases h), k3, b3, m3, d3⟩, a3⟩
  | n + 3, hk => simp at hk
def ixm {α β : Type} (f : Nat → α → β) : Nat → List α → List β
  | _, [] => []
  | k, a :: r => f k a :: ixm f (k + 1) r
theorem mapIdx_ixm {α β : Type} (f : Nat → α → β) : ∀ (r : List α) (k : Nat), r.mapIdx (fun i a => f (i + k) a) = ixm f k r
  | [], _ => rfl
  | a :: r, k => by
    rw [List.mapIdx_cons]
    have e : (fun i : Nat => (fun (i : Nat) (a : α) => f (i + k) a) (i + 1)) = fun (i : Nat) (a : α) => f (i + (k + 1)) a := by
      funext i a
      show f (i + 1 + k) a = _
      rw [Nat.add_assoc, Nat.add_comm 1 k]
    rw [e, mapIdx_ixm f r (k + 1)]
    show f (0 + k) a :: _ = f k a :: _
    rw [Nat.zero_add]
theorem mapIdx_ix0 {α β : Type} (f : Nat → α → β) (r : List α) : r.mapIdx f = ixm f 0 r := mapIdx_ixm f r 0
def wcx (cs : CIds) (ad : Nat → Nat) (μ : Mem) (k : Nat) : Shp → va_E
  | .inl (n, b) => .inl ((if b then cs.2.1 else cs.1), n, .inl (μ k))
  | .inr (.inl ts) => .inl (cs.2.2, ts.length, .inr (.inr (.inr (.inr (fun i => (ts[i]?).map ad)))))
  | .inr (.inr q) => .inr (q.1, ixm (fun j o => match o with | some t => Value.ref (ad t) | none => Value.int (μ k j)) 0 q.2)
theorem wce_wcx {cs : CIds} {ad : Nat → Nat} {μ : Mem} {k : Nat} (sh : Shp) : wce cs ad μ k sh = wcx cs ad μ k sh := by
  match sh with
  | .inl (n, b) => rfl
  | .inr (.inl ts) => rfl
  | .inr (.inr q) =>
    show Sum.inr (q.1, wfs ad μ k q.2) = _
    unfold wfs
    rw [mapIdx_ix0]
    rfl
theorem wld_ixm {cs : CIds} {ad : Nat → Nat} {μ : Mem} : wld cs ad μ = ixm (fun k sh => (ad k, wcx cs ad μ k sh)) 0 shp := by
  unfold wld
  rw [mapIdx_ix0]
  have e : (fun (k : Nat) (sh : Shp) => (ad k, wce cs ad μ k sh)) = fun (k : Nat) (sh : Shp) => (ad k, wcx cs ad μ k sh) := by
    funext k sh
    rw [wce_wcx]
  rw [e]
def wL0 (cs : CIds) (ad : Nat → Nat) (μ : Mem) : va_W := [(ad 0, .inr (7, [.ref (ad 1), .ref (ad 5), .ref (ad 12), .ref (ad 15), .ref (ad 16), .ref (ad 18), .ref (ad 35), .ref (ad 37), .int (μ 0 8), .ref (ad 38), .int (μ 0 10), .int (μ 0 11), .int (μ 0 12), .int (μ 0 13)])),
  (ad 1, .inr (5, [.ref (ad 2), .ref (ad 3), .ref (ad 4), .int (μ 1 3)])),
  (ad 2, .inl (cs.1, 40, .inl (μ 2))),
  (ad 3, .inl (cs.1, 40, .inl (μ 3))),
  (ad 4, .inl (cs.1, 40, .inl (μ 4))),
  (ad 5, .inr (6, [.ref (ad 6), .ref (ad 7), .ref (ad 8), .ref (ad 9), .ref (ad 10), .ref (ad 11), .int (μ 5 6)])),
  (ad 6, .inl (cs.1, 120, .inl (μ 6))),
  (ad 7, .inl (cs.1, 120, .inl (μ 7))),
  (ad 8, .inl (cs.1, 120, .inl (μ 8))),
  (ad 9, .inl (cs.1, 120, .inl (μ 9))),
  (ad 10, .inl (cs.1, 120, .inl (μ 10))),
  (ad 11, .inl (cs.1, 120, .inl (μ 11))),
  (ad 12, .inr (0, [.ref (ad 13), .ref (ad 14), .int (μ 12 2)])),
  (ad 13, .inl (cs.1, 12, .inl (μ 13))),
  (ad 14, .inl (cs.1, 12, .inl (μ 14))),
  (ad 15, .inr (3, [.ref (ad 16), .ref (ad 18), .ref (ad 20), .int (μ 15 3), .int (μ 15 4), .int (μ 15 5), .int (μ 15 6), .int (μ 15 7), .int (μ 15 8), .int (μ 15 9), .int (μ 15 10), .int (μ 15 11)])),
  (ad 16, .inr (2, [.ref (ad 17), .int (μ 16 1)])),
  (ad 17, .inl (cs.1, 60, .inl (μ 17))),
  (ad 18, .inr (4, [.ref (ad 19), .ref (ad 34)])),
  (ad 19, .inl (cs.2.2, 13, .inr (.inr (.inr (.inr (fun i => (([21, 22, 23, 24, 25, 26, 27, 28, 29, 30, 31, 32, 33] : List Nat)[i]?).map ad)))))),
  (ad 20, .inl (cs.1, 60, .inl (μ 20))),
  (ad 21, .inl (cs.1, 60, .inl (μ 21))),
  (ad 22, .inl (cs.1, 60, .inl (μ 22))),
  (ad 23, .inl (cs.1, 60, .inl (μ 23))),
  (ad 24, .inl (cs.1, 60, .inl (μ 24))),
  (ad 25, .inl (cs.1, 60, .inl (μ 25))),
  (ad 26, .inl (cs.1, 60, .inl (μ 26))),
  (ad 27, .inl (cs.1, 60, .inl (μ 27))),
  (ad 28, .inl (cs.1, 60, .inl (μ 28))),
  (ad 29, .inl (cs.1, 60, .inl (μ 29))),
  (ad 30, .inl (cs.1, 60, .inl (μ 30))),
  (ad 31, .inl (cs.1, 60, .inl (μ 31))),
  (ad 32, .inl (cs.1, 60, .inl (μ 32))),
  (ad 33, .inl (cs.1, 60, .inl (μ 33))),
  (ad 34, .inl (cs.1, 13, .inl (μ 34))),
  (ad 35, .inr (1, [.ref (ad 36), .int (μ 35 1), .int (μ 35 2)])),
  (ad 36, .inl (cs.1, 6000, .inl (μ 36))),
  (ad 37, .inl (cs.1, 6, .inl (μ 37))),
  (ad 38, .inl (cs.1, 10, .inl (μ 38))),
  (ad 39, .inr (8, [.int (μ 39 0), .int (μ 39 1), .ref (ad 40), .ref (ad 41), .ref (ad 42), .int (μ 39 5), .ref (ad 43), .ref (ad 44), .ref (ad 45), .ref (ad 46), .int (μ 39 10), .int (μ 39 11), .int (μ 39 12), .ref (ad 47), .ref (ad 48), .int (μ 39 15), .ref (ad 49), .ref (ad 50), .ref (ad 51), .int (μ 39 19), .int (μ 39 20), .ref (ad 52), .ref (ad 53), .ref (ad 54), .ref (ad 55), .ref (ad 56), .ref (ad 57), .int (μ 39 27), .int (μ 39 28), .int (μ 39 29), .int (μ 39 30), .ref (ad 58), .int (μ 39 32), .int (μ 39 33), .ref (ad 59), .int (μ 39 35), .int (μ 39 36), .ref (ad 60), .ref (ad 61), .ref (ad 62)])),
  (ad 40, .inl (cs.1, 40, .inl (μ 40))),
  (ad 41, .inl (cs.1, 40, .inl (μ 41))),
  (ad 42, .inl (cs.1, 40, .inl (μ 42))),
  (ad 43, .inl (cs.1, 120, .inl (μ 43))),
  (ad 44, .inl (cs.1, 120, .inl (μ 44))),
  (ad 45, .inl (cs.1, 120, .inl (μ 45))),
  (ad 46, .inl (cs.1, 120, .inl (μ 46))),
  (ad 47, .inl (cs.1, 20, .inl (μ 47))),
  (ad 48, .inl (cs.1, 20, .inl (μ 48))),
  (ad 49, .inl (cs.1, 10, .inl (μ 49))),
  (ad 50, .inl (cs.2.1, 1200, .inl (μ 50))),
  (ad 51, .inl (cs.1, 60, .inl (μ 51))),
  (ad 52, .inl (cs.1, 12, .inl (μ 52))),
  (ad 53, .inl (cs.1, 12, .inl (μ 53))),
  (ad 54, .inl (cs.1, 13, .inl (μ 54))),
  (ad 55, .inl (cs.1, 832, .inl (μ 55))),
  (ad 56, .inl (cs.1, 832, .inl (μ 56))),
  (ad 57, .inl (cs.1, 832, .inl (μ 57))),
  (ad 58, .inl (cs.1, 64, .inl (μ 58))),
  (ad 59, .inl (cs.2.1, 64, .inl (μ 59))),
  (ad 60, .inl (cs.1, 6000, .inl (μ 60))),
  (ad 61, .inl (cs.1, 6000, .inl (μ 61))),
  (ad 62, .inl (cs.1, 6000, .inl (μ 62)))]
def wL1 (cs : CIds) (ad : Nat → Nat) : va_W := [((ad 0), .inr (7, [.ref (ad 1), .ref (ad 5), .ref (ad 12), .ref (ad 15), .ref (ad 16), .ref (ad 18), .ref (ad 35), .ref (ad 37), .int 0, .ref (ad 38), .int 0, .int 0, .int 0, .int 0])),
  ((ad 1), .inr (5, [.ref (ad 2), .ref (ad 3), .ref (ad 4), .int 0])),
  ((ad 2), iA cs 40),
  ((ad 3), iA cs 40),
  ((ad 4), iA cs 40),
  ((ad 5), .inr (6, [.ref (ad 6), .ref (ad 7), .ref (ad 8), .ref (ad 9), .ref (ad 10), .ref (ad 11), .int 0])),
  ((ad 6), iA cs 120),
  ((ad 7), iA cs 120),
  ((ad 8), iA cs 120),
  ((ad 9), iA cs 120),
  ((ad 10), iA cs 120),
  ((ad 11), iA cs 120),
  ((ad 12), .inr (0, [.ref (ad 13), .ref (ad 14), .int 0])),
  ((ad 13), iA cs 12),
  ((ad 14), iA cs 12),
  ((ad 15), .inr (3, [.ref (ad 16), .ref (ad 18), .ref (ad 20), .int 0, .int 0, .int 0, .int 0, .int 0, .int 0, .int 0, .int 0, .int 0])),
  ((ad 16), .inr (2, [.ref (ad 17), .int 0])),
  ((ad 17), iA cs 60),
  ((ad 18), .inr (4, [.ref (ad 19), .ref (ad 34)])),
  ((ad 19), .inl (cs.2.2, 13, .inr (.inr (.inr (.inr (fun i => (([21, 22, 23, 24, 25, 26, 27, 28, 29, 30, 31, 32, 33] : List Nat)[i]?).map ad)))))),
  ((ad 20), iA cs 60),
  ((ad 21), iA cs 60),
  ((ad 22), iA cs 60),
  ((ad 23), iA cs 60),
  ((ad 24), iA cs 60),
  ((ad 25), iA cs 60),
  ((ad 26), iA cs 60),
  ((ad 27), iA cs 60),
  ((ad 28), iA cs 60),
  ((ad 29), iA cs 60),
  ((ad 30), iA cs 60),
  ((ad 31), iA cs 60),
  ((ad 32), iA cs 60),
  ((ad 33), iA cs 60),
  ((ad 34), iA cs 13),
  ((ad 35), .inr (1, [.ref (ad 36), .int 0, .int 1])),
  ((ad 36), iA cs 6000),
  ((ad 37), mA cs),
  ((ad 38), iA cs 10),
  ((ad 39), .inr (8, [.int 0, .int 0, .ref (ad 40), .ref (ad 41), .ref (ad 42), .int 0, .ref (ad 43), .ref (ad 44), .ref (ad 45), .ref (ad 46), .int 0, .int 0, .int 0, .ref (ad 47), .ref (ad 48), .int 0, .ref (ad 49), .ref (ad 50), .ref (ad 51), .int 0, .int 0, .ref (ad 52), .ref (ad 53), .ref (ad 54), .ref (ad 55), .ref (ad 56), .ref (ad 57), .int (-1), .int (-1), .int 0, .int 0, .ref (ad 58), .int 0, .int 0, .ref (ad 59), .int 0, .int 1, .ref (ad 60), .ref (ad 61), .ref (ad 62)])),
  ((ad 40), iA cs 40),
  ((ad 41), iA cs 40),
  ((ad 42), iA cs 40),
  ((ad 43), iA cs 120),
  ((ad 44), iA cs 120),
  ((ad 45), iA cs 120),
  ((ad 46), iA cs 120),
  ((ad 47), iA cs 20),
  ((ad 48), iA cs 20),
  ((ad 49), iA cs 10),
  ((ad 50), zA cs 1200),
  ((ad 51), iA cs 60),
  ((ad 52), iA cs 12),
  ((ad 53), iA cs 12),
  ((ad 54), iA cs 13),
  ((ad 55), iA cs 832),
  ((ad 56), iA cs 832),
  ((ad 57), iA cs 832),
  ((ad 58), iA cs 64),
  ((ad 59), zA cs 64),
  ((ad 60), iA cs 6000),
  ((ad 61), iA cs 6000),
  ((ad 62), iA cs 6000)]
set_option maxRecDepth 100000 in
theorem wld_L0 {cs : CIds} {ad : Nat → Nat} {μ : Mem} : wld cs ad μ = wL0 cs ad μ := by
  rw [wld_ixm]
  unfold shp wL0
  rfl
set_option maxRecDepth 100000 in
theorem L0_L1 {cs : CIds} {ad : Nat → Nat} {xs : Nat → Int32} : wL0 cs ad (mu0 xs) = wL1 cs ad := by
  unfold wL0 wL1
  rfl
theorem wld_start {cs : CIds} {ad : Nat → Nat} {xs : Nat → Int32} : wld cs ad (mu0 xs) = wL1 cs ad := wld_L0.trans L0_L1
set_option maxHeartbeats 4000000 in
set_option maxRecDepth 100000 in
theorem law_end {p : Program} {e : Env} {s : State} {m : MethodId} {below : List Frame} {meth : Method} {c : Code} (l : Launch) {L : Nat} {xs : Nat → Int32} {D : va_G} {cs : CIds} {ad : Nat → Nat} {H : Heap} {locs : List Loc} {ls : Array Slot} (hL : L ≤ 3072) (C0 : lw_At p s m meth c (ad 63) L xs) (hK : va_K D vwCl (wty cs) s) (hP : va_P D vwCl [((ad 0), .inr (7, [.ref (ad 1), .ref (ad 5), .ref (ad 12), .ref (ad 15), .ref (ad 16), .ref (ad 18), .ref (ad 35), .ref (ad 37), .int 0, .ref (ad 38), .int 0, .int 0, .int 0, .int 0])), ((ad 1), .inr (5, [.ref (ad 2), .ref (ad 3), .ref (ad 4), .int 0])), ((ad 2), iA cs 40), ((ad 3), iA cs 40), ((ad 4), iA cs 40), ((ad 5), .inr (6, [.ref (ad 6), .ref (ad 7), .ref (ad 8), .ref (ad 9), .ref (ad 10), .ref (ad 11), .int 0])), ((ad 6), iA cs 120), ((ad 7), iA cs 120), ((ad 8), iA cs 120), ((ad 9), iA cs 120), ((ad 10), iA cs 120), ((ad 11), iA cs 120), ((ad 12), .inr (0, [.ref (ad 13), .ref (ad 14), .int 0])), ((ad 13), iA cs 12), ((ad 14), iA cs 12), ((ad 15), .inr (3, [.ref (ad 16), .ref (ad 18), .ref (ad 20), .int 0, .int 0, .int 0, .int 0, .int 0, .int 0, .int 0, .int 0, .int 0])), ((ad 16), .inr (2, [.ref (ad 17), .int 0])), ((ad 17), iA cs 60), ((ad 18), .inr (4, [.ref (ad 19), .ref (ad 34)])), ((ad 19), gA cs [(ad 21), (ad 22), (ad 23), (ad 24), (ad 25), (ad 26), (ad 27), (ad 28), (ad 29), (ad 30), (ad 31), (ad 32), (ad 33)]), ((ad 21), iA cs 60), ((ad 22), iA cs 60), ((ad 23), iA cs 60), ((ad 24), iA cs 60), ((ad 25), iA cs 60), ((ad 26), iA cs 60), ((ad 27), iA cs 60), ((ad 28), iA cs 60), ((ad 29), iA cs 60), ((ad 30), iA cs 60), ((ad 31), iA cs 60), ((ad 32), iA cs 60), ((ad 33), iA cs 60), ((ad 34), iA cs 13), ((ad 20), iA cs 60), ((ad 35), .inr (1, [.ref (ad 36), .int 0, .int 1])), ((ad 36), iA cs 6000), ((ad 38), iA cs 10), ((ad 37), mA cs), ((ad 39), .inr (8, [.int 0, .int 0, .ref (ad 40), .ref (ad 41), .ref (ad 42), .int 0, .ref (ad 43), .ref (ad 44), .ref (ad 45), .ref (ad 46), .int 0, .int 0, .int 0, .ref (ad 47), .ref (ad 48), .int 0, .ref (ad 49), .ref (ad 50), .ref (ad 51), .int 0, .int 0, .ref (ad 52), .ref (ad 53), .ref (ad 54), .ref (ad 55), .ref (ad 56), .ref (ad 57), .int (-1), .int (-1), .int 0, .int 0, .ref (ad 58), .int 0, .int 0, .ref (ad 59), .int 0, .int 1, .ref (ad 60), .ref (ad 61), .ref (ad 62)])), ((ad 40), iA cs 40), ((ad 41), iA cs 40), ((ad 42), iA cs 40), ((ad 43), iA cs 120), ((ad 44), iA cs 120), ((ad 45), iA cs 120), ((ad 46), iA cs 120), ((ad 47), iA cs 20), ((ad 48), iA cs 20), ((ad 49), iA cs 10), ((ad 50), zA cs 1200), ((ad 51), iA cs 60), ((ad 52), iA cs 12), ((ad 53), iA cs 12), ((ad 54), iA cs 13), ((ad 55), iA cs 832), ((ad 56), iA cs 832), ((ad 57), iA cs 832), ((ad 58), iA cs 64), ((ad 59), zA cs 64), ((ad 60), iA cs 6000), ((ad 61), iA cs 6000), ((ad 62), iA cs 6000)] H) (hD : va_D (fun q : Nat => s.heap.size ≤ q) [((ad 0), .inr (7, [.ref (ad 1), .ref (ad 5), .ref (ad 12), .ref (ad 15), .ref (ad 16), .ref (ad 18), .ref (ad 35), .ref (ad 37), .int 0, .ref (ad 38), .int 0, .int 0, .int 0, .int 0])), ((ad 1), .inr (5, [.ref (ad 2), .ref (ad 3), .ref (ad 4), .int 0])), ((ad 2), iA cs 40), ((ad 3), iA cs 40), ((ad 4), iA cs 40), ((ad 5), .inr (6, [.ref (ad 6), .ref (ad 7), .ref (ad 8), .ref (ad 9), .ref (ad 10), .ref (ad 11), .int 0])), ((ad 6), iA cs 120), ((ad 7), iA cs 120), ((ad 8), iA cs 120), ((ad 9), iA cs 120), ((ad 10), iA cs 120), ((ad 11), iA cs 120), ((ad 12), .inr (0, [.ref (ad 13), .ref (ad 14), .int 0])), ((ad 13), iA cs 12), ((ad 14), iA cs 12), ((ad 15), .inr (3, [.ref (ad 16), .ref (ad 18), .ref (ad 20), .int 0, .int 0, .int 0, .int 0, .int 0, .int 0, .int 0, .int 0, .int 0])), ((ad 16), .inr (2, [.ref (ad 17), .int 0])), ((ad 17), iA cs 60), ((ad 18), .inr (4, [.ref (ad 19), .ref (ad 34)])), ((ad 19), gA cs [(ad 21), (ad 22), (ad 23), (ad 24), (ad 25), (ad 26), (ad 27), (ad 28), (ad 29), (ad 30), (ad 31), (ad 32), (ad 33)]), ((ad 21), iA cs 60), ((ad 22), iA cs 60), ((ad 23), iA cs 60), ((ad 24), iA cs 60), ((ad 25), iA cs 60), ((ad 26), iA cs 60), ((ad 27), iA cs 60), ((ad 28), iA cs 60), ((ad 29), iA cs 60), ((ad 30), iA cs 60), ((ad 31), iA cs 60), ((ad 32), iA cs 60), ((ad 33), iA cs 60), ((ad 34), iA cs 13), ((ad 20), iA cs 60), ((ad 35), .inr (1, [.ref (ad 36), .int 0, .int 1])), ((ad 36), iA cs 6000), ((ad 38), iA cs 10), ((ad 37), mA cs), ((ad 39), .inr (8, [.int 0, .int 0, .ref (ad 40), .ref (ad 41), .ref (ad 42), .int 0, .ref (ad 43), .ref (ad 44), .ref (ad 45), .ref (ad 46), .int 0, .int 0, .int 0, .ref (ad 47), .ref (ad 48), .int 0, .ref (ad 49), .ref (ad 50), .ref (ad 51), .int 0, .int 0, .ref (ad 52), .ref (ad 53), .ref (ad 54), .ref (ad 55), .ref (ad 56), .ref (ad 57), .int (-1), .int (-1), .int 0, .int 0, .ref (ad 58), .int 0, .int 0, .ref (ad 59), .int 0, .int 1, .ref (ad 60), .ref (ad 61), .ref (ad 62)])), ((ad 40), iA cs 40), ((ad 41), iA cs 40), ((ad 42), iA cs 40), ((ad 43), iA cs 120), ((ad 44), iA cs 120), ((ad 45), iA cs 120), ((ad 46), iA cs 120), ((ad 47), iA cs 20), ((ad 48), iA cs 20), ((ad 49), iA cs 10), ((ad 50), zA cs 1200), ((ad 51), iA cs 60), ((ad 52), iA cs 12), ((ad 53), iA cs 12), ((ad 54), iA cs 13), ((ad 55), iA cs 832), ((ad 56), iA cs 832), ((ad 57), iA cs 832), ((ad 58), iA cs 64), ((ad 59), zA cs 64), ((ad 60), iA cs 6000), ((ad 61), iA cs 6000), ((ad 62), iA cs 6000)]) (hS : va_S (fun q : Nat => s.heap.size ≤ q) s.heap H locs) (hl : lv_has ls 4 [(3, .int (nI 0)), (2, .ref (ad 39)), (1, .ref (ad 0)), (0, .ref (ad 63))]) : W p l e room_1 s m #[Value.ref (ad 63)] below meth c H locs 63 30464 (lw_Z below #[Value.ref (ad 63)] s) (F0 m 18 ls []) := by
  obtain ⟨hx, hb, hr, hml, hown0, htl, hX, hbl, hlocks, hgv⟩ := id C0
  have eg : gA cs [(ad 21), (ad 22), (ad 23), (ad 24), (ad 25), (ad 26), (ad 27), (ad 28), (ad 29), (ad 30), (ad 31), (ad 32), (ad 33)] = .inl (cs.2.2, 13, .inr (.inr (.inr (.inr (fun i => (([21, 22, 23, 24, 25, 26, 27, 28, 29, 30, 31, 32, 33] : List Nat)[i]?).map ad))))) := gA_map (cs := cs) (ad := ad) [21, 22, 23, 24, 25, 26, 27, 28, 29, 30, 31, 32, 33]
  rw [eg] at hP hD
  have hP9 : va_P D vwCl (wL1 cs ad) H := hP.sub (ws' := wL1 cs ad) [0, 1, 2, 3, 4, 5, 6, 7, 8, 9, 10, 11, 12, 13, 14, 15, 16, 17, 18, 19, 34, 20, 21, 22, 23, 24, 25, 26, 27, 28, 29, 30, 31, 32, 33, 35, 36, 38, 37, 39, 40, 41, 42, 43, 44, 45, 46, 47, 48, 49, 50, 51, 52, 53, 54, 55, 56, 57, 58, 59, 60, 61, 62] rfl
  have hD9 : va_D (fun q : Nat => s.heap.size ≤ q) (wL1 cs ad) := hD.sub (ws' := wL1 cs ad) [0, 1, 2, 3, 4, 5, 6, 7, 8, 9, 10, 11, 12, 13, 14, 15, 16, 17, 18, 19, 34, 20, 21, 22, 23, 24, 25, 26, 27, 28, 29, 30, 31, 32, 33, 35, 36, 38, 37, 39, 40, 41, 42, 43, 44, 45, 46, 47, 48, 49, 50, 51, 52, 53, 54, 55, 56, 57, 58, 59, 60, 61, 62] (by decide) rfl
  clear hP hD eg
  rw [← wld_start (xs := xs)] at hP9 hD9
  have hlr : lvr ls 4 ad [some (.inr 63), some (.inr 0), some (.inr 39), some (.inl (nI 0))] := lvr_of hl rfl rfl rfl
  have hk : LK L (lawY p l e s m below meth c 63 30464 D cs ad (ad 63) L) := law_LK C0 hK rfl (Nat.le_of_ble_eq_true rfl) (Nat.le_of_ble_eq_true rfl)
  have e63 : mu0 xs 63 = xs := rfl
  have hF : Fr s D cs (fun q : Nat => s.heap.size ≤ q) ad s.heap 4 L (mu0 xs) [some (.inr 63), some (.inr 0), some (.inr 39), some (.inl (nI 0))] H locs ls := ⟨hP9, hD9, hS, hlr, fun _ => ⟨by rw [e63]; exact hX, hbl, Nat.not_le.mpr hbl⟩⟩
  have hY := law_loop hk hL (L + 1) 0 (Nat.zero_le L) (by omega) (mu0 xs) (mu0_RLL xs)
  exact hY H locs ls hF
set_option maxHeartbeats 4000000 in
set_option maxRecDepth 100000 in
theorem ad_of (ah0 aq1 aq2 aq3 aq4 aq5 aq6 aq7 aq8 aq9 aq10 aq11 aq12 aq13 aq14 aq15 aq16 aq17 aq18 aq19 aq34 aq20 aq21 aq22 aq23 aq24 aq25 aq26 aq27 aq28 aq29 aq30 aq31 aq32 aq33 aq35 aq36 aq37 aq38 mh0 mq1 mq2 mq3 mq4 mq5 mq6 mq7 mq8 mq9 mq10 mq11 mq12 mq13 mq14 mq15 mq16 mq17 mq18 mq19 mq20 mq21 mq22 mq23 b : Nat) : ∃ ad : Nat → Nat, ad 0 = ah0 ∧ ad 1 = aq1 ∧ ad 2 = aq2 ∧ ad 3 = aq3 ∧ ad 4 = aq4 ∧ ad 5 = aq5 ∧ ad 6 = aq6 ∧ ad 7 = aq7 ∧ ad 8 = aq8 ∧ ad 9 = aq9 ∧ ad 10 = aq10 ∧ ad 11 = aq11 ∧ ad 12 = aq12 ∧ ad 13 = aq13 ∧ ad 14 = aq14 ∧ ad 15 = aq15 ∧ ad 16 = aq16 ∧ ad 17 = aq17 ∧ ad 18 = aq18 ∧ ad 19 = aq19 ∧ ad 20 = aq34 ∧ ad 21 = aq20 ∧ ad 22 = aq21 ∧ ad 23 = aq22 ∧ ad 24 = aq23 ∧ ad 25 = aq24 ∧ ad 26 = aq25 ∧ ad 27 = aq26 ∧ ad 28 = aq27 ∧ ad 29 = aq28 ∧ ad 30 = aq29 ∧ ad 31 = aq30 ∧ ad 32 = aq31 ∧ ad 33 = aq32 ∧ ad 34 = aq33 ∧ ad 35 = aq35 ∧ ad 36 = aq36 ∧ ad 37 = aq37 ∧ ad 38 = aq38 ∧ ad 39 = mh0 ∧ ad 40 = mq1 ∧ ad 41 = mq2 ∧ ad 42 = mq3 ∧ ad 43 = mq4 ∧ ad 44 = mq5 ∧ ad 45 = mq6 ∧ ad 46 = mq7 ∧ ad 47 = mq8 ∧ ad 48 = mq9 ∧ ad 49 = mq10 ∧ ad 50 = mq11 ∧ ad 51 = mq12 ∧ ad 52 = mq13 ∧ ad 53 = mq14 ∧ ad 54 = mq15 ∧ ad 55 = mq16 ∧ ad 56 = mq17 ∧ ad 57 = mq18 ∧ ad 58 = mq19 ∧ ad 59 = mq20 ∧ ad 60 = mq21 ∧ ad 61 = mq22 ∧ ad 62 = mq23 ∧ ad 63 = b := ⟨adL [ah0, aq1, aq2, aq3, aq4, aq5, aq6, aq7, aq8, aq9, aq10, aq11, aq12, aq13, aq14, aq15, aq16, aq17, aq18, aq19, aq34, aq20, aq21, aq22, aq23, aq24, aq25, aq26, aq27, aq28, aq29, aq30, aq31, aq32, aq33, aq35, aq36, aq37, aq38, mh0, mq1, mq2, mq3, mq4, mq5, mq6, mq7, mq8, mq9, mq10, mq11, mq12, mq13, mq14, mq15, mq16, mq17, mq18, mq19, mq20, mq21, mq22, mq23, b], rfl, rfl, rfl, rfl, rfl, rfl, rfl, rfl, rfl, rfl, rfl, rfl, rfl, rfl, rfl, rfl, rfl, rfl, rfl, rfl, rfl, rfl, rfl, rfl, rfl, rfl, rfl, rfl, rfl, rfl, rfl, rfl, rfl, rfl, rfl, rfl, rfl, rfl, rfl, rfl, rfl, rfl, rfl, rfl, rfl, rfl, rfl, rfl, rfl, rfl, rfl, rfl, rfl, rfl, rfl, rfl, rfl, rfl, rfl, rfl, rfl, rfl, rfl, rfl⟩
set_option maxHeartbeats 4000000 in
set_option maxRecDepth 100000 in
theorem law_end2 {p : Program} {e : Env} {s : State} {m : MethodId} {below : List Frame} {meth : Method} {c : Code} (l : Launch) {L : Nat} {xs : Nat → Int32} {D : va_G} {cs : CIds} {ah0 aq1 aq2 aq3 aq4 aq5 aq6 aq7 aq8 aq9 aq10 aq11 aq12 aq13 aq14 aq15 aq16 aq17 aq18 aq19 aq34 aq20 aq21 aq22 aq23 aq24 aq25 aq26 aq27 aq28 aq29 aq30 aq31 aq32 aq33 aq35 aq36 aq37 aq38 mh0 mq1 mq2 mq3 mq4 mq5 mq6 mq7 mq8 mq9 mq10 mq11 mq12 mq13 mq14 mq15 mq16 mq17 mq18 mq19 mq20 mq21 mq22 mq23 b : Nat} {H : Heap} {locs : List Loc} {ls : Array Slot} (hL : L ≤ 3072) (C0 : lw_At p s m meth c b L xs) (hK : va_K D vwCl (wty cs) s) (hP : va_P D vwCl [(ah0, .inr (7, [.ref aq1, .ref aq5, .ref aq12, .ref aq15, .ref aq16, .ref aq18, .ref aq35, .ref aq37, .int 0, .ref aq38, .int 0, .int 0, .int 0, .int 0])), (aq1, .inr (5, [.ref aq2, .ref aq3, .ref aq4, .int 0])), (aq2, iA cs 40), (aq3, iA cs 40), (aq4, iA cs 40), (aq5, .inr (6, [.ref aq6, .ref aq7, .ref aq8, .ref aq9, .ref aq10, .ref aq11, .int 0])), (aq6, iA cs 120), (aq7, iA cs 120), (aq8, iA cs 120), (aq9, iA cs 120), (aq10, iA cs 120), (aq11, iA cs 120), (aq12, .inr (0, [.ref aq13, .ref aq14, .int 0])), (aq13, iA cs 12), (aq14, iA cs 12), (aq15, .inr (3, [.ref aq16, .ref aq18, .ref aq34, .int 0, .int 0, .int 0, .int 0, .int 0, .int 0, .int 0, .int 0, .int 0])), (aq16, .inr (2, [.ref aq17, .int 0])), (aq17, iA cs 60), (aq18, .inr (4, [.ref aq19, .ref aq33])), (aq19, gA cs [aq20, aq21, aq22, aq23, aq24, aq25, aq26, aq27, aq28, aq29, aq30, aq31, aq32]), (aq20, iA cs 60), (aq21, iA cs 60), (aq22, iA cs 60), (aq23, iA cs 60), (aq24, iA cs 60), (aq25, iA cs 60), (aq26, iA cs 60), (aq27, iA cs 60), (aq28, iA cs 60), (aq29, iA cs 60), (aq30, iA cs 60), (aq31, iA cs 60), (aq32, iA cs 60), (aq33, iA cs 13), (aq34, iA cs 60), (aq35, .inr (1, [.ref aq36, .int 0, .int 1])), (aq36, iA cs 6000), (aq38, iA cs 10), (aq37, mA cs), (mh0, .inr (8, [.int 0, .int 0, .ref mq1, .ref mq2, .ref mq3, .int 0, .ref mq4, .ref mq5, .ref mq6, .ref mq7, .int 0, .int 0, .int 0, .ref mq8, .ref mq9, .int 0, .ref mq10, .ref mq11, .ref mq12, .int 0, .int 0, .ref mq13, .ref mq14, .ref mq15, .ref mq16, .ref mq17, .ref mq18, .int (-1), .int (-1), .int 0, .int 0, .ref mq19, .int 0, .int 0, .ref mq20, .int 0, .int 1, .ref mq21, .ref mq22, .ref mq23])), (mq1, iA cs 40), (mq2, iA cs 40), (mq3, iA cs 40), (mq4, iA cs 120), (mq5, iA cs 120), (mq6, iA cs 120), (mq7, iA cs 120), (mq8, iA cs 20), (mq9, iA cs 20), (mq10, iA cs 10), (mq11, zA cs 1200), (mq12, iA cs 60), (mq13, iA cs 12), (mq14, iA cs 12), (mq15, iA cs 13), (mq16, iA cs 832), (mq17, iA cs 832), (mq18, iA cs 832), (mq19, iA cs 64), (mq20, zA cs 64), (mq21, iA cs 6000), (mq22, iA cs 6000), (mq23, iA cs 6000)] H) (hD : va_D (fun q : Nat => s.heap.size ≤ q) [(ah0, .inr (7, [.ref aq1, .ref aq5, .ref aq12, .ref aq15, .ref aq16, .ref aq18, .ref aq35, .ref aq37, .int 0, .ref aq38, .int 0, .int 0, .int 0, .int 0])), (aq1, .inr (5, [.ref aq2, .ref aq3, .ref aq4, .int 0])), (aq2, iA cs 40), (aq3, iA cs 40), (aq4, iA cs 40), (aq5, .inr (6, [.ref aq6, .ref aq7, .ref aq8, .ref aq9, .ref aq10, .ref aq11, .int 0])), (aq6, iA cs 120), (aq7, iA cs 120), (aq8, iA cs 120), (aq9, iA cs 120), (aq10, iA cs 120), (aq11, iA cs 120), (aq12, .inr (0, [.ref aq13, .ref aq14, .int 0])), (aq13, iA cs 12), (aq14, iA cs 12), (aq15, .inr (3, [.ref aq16, .ref aq18, .ref aq34, .int 0, .int 0, .int 0, .int 0, .int 0, .int 0, .int 0, .int 0, .int 0])), (aq16, .inr (2, [.ref aq17, .int 0])), (aq17, iA cs 60), (aq18, .inr (4, [.ref aq19, .ref aq33])), (aq19, gA cs [aq20, aq21, aq22, aq23, aq24, aq25, aq26, aq27, aq28, aq29, aq30, aq31, aq32]), (aq20, iA cs 60), (aq21, iA cs 60), (aq22, iA cs 60), (aq23, iA cs 60), (aq24, iA cs 60), (aq25, iA cs 60), (aq26, iA cs 60), (aq27, iA cs 60), (aq28, iA cs 60), (aq29, iA cs 60), (aq30, iA cs 60), (aq31, iA cs 60), (aq32, iA cs 60), (aq33, iA cs 13), (aq34, iA cs 60), (aq35, .inr (1, [.ref aq36, .int 0, .int 1])), (aq36, iA cs 6000), (aq38, iA cs 10), (aq37, mA cs), (mh0, .inr (8, [.int 0, .int 0, .ref mq1, .ref mq2, .ref mq3, .int 0, .ref mq4, .ref mq5, .ref mq6, .ref mq7, .int 0, .int 0, .int 0, .ref mq8, .ref mq9, .int 0, .ref mq10, .ref mq11, .ref mq12, .int 0, .int 0, .ref mq13, .ref mq14, .ref mq15, .ref mq16, .ref mq17, .ref mq18, .int (-1), .int (-1), .int 0, .int 0, .ref mq19, .int 0, .int 0, .ref mq20, .int 0, .int 1, .ref mq21, .ref mq22, .ref mq23])), (mq1, iA cs 40), (mq2, iA cs 40), (mq3, iA cs 40), (mq4, iA cs 120), (mq5, iA cs 120), (mq6, iA cs 120), (mq7, iA cs 120), (mq8, iA cs 20), (mq9, iA cs 20), (mq10, iA cs 10), (mq11, zA cs 1200), (mq12, iA cs 60), (mq13, iA cs 12), (mq14, iA cs 12), (mq15, iA cs 13), (mq16, iA cs 832), (mq17, iA cs 832), (mq18, iA cs 832), (mq19, iA cs 64), (mq20, zA cs 64), (mq21, iA cs 6000), (mq22, iA cs 6000), (mq23, iA cs 6000)]) (hS : va_S (fun q : Nat => s.heap.size ≤ q) s.heap H locs) (hl : lv_has ls 4 [(3, .int (nI 0)), (2, .ref mh0), (1, .ref ah0), (0, .ref b)]) : W p l e room_1 s m #[Value.ref b] below meth c H locs 63 30464 (lw_Z below #[Value.ref b] s) (F0 m 18 ls []) := by
  obtain ⟨ad, e0, e1, e2, e3, e4, e5, e6, e7, e8, e9, e10, e11, e12, e13, e14, e15, e16, e17, e18, e19, e20, e21, e22, e23, e24, e25, e26, e27, e28, e29, e30, e31, e32, e33, e34, e35, e36, e37, e38, e39, e40, e41, e42, e43, e44, e45, e46, e47, e48, e49, e50, e51, e52, e53, e54, e55, e56, e57, e58, e59, e60, e61, e62, e63⟩ := ad_of ah0 aq1 aq2 aq3 aq4 aq5 aq6 aq7 aq8 aq9 aq10 aq11 aq12 aq13 aq14 aq15 aq16 aq17 aq18 aq19 aq34 aq20 aq21 aq22 aq23 aq24 aq25 aq26 aq27 aq28 aq29 aq30 aq31 aq32 aq33 aq35 aq36 aq37 aq38 mh0 mq1 mq2 mq3 mq4 mq5 mq6 mq7 mq8 mq9 mq10 mq11 mq12 mq13 mq14 mq15 mq16 mq17 mq18 mq19 mq20 mq21 mq22 mq23 b
  subst e0 e1 e2 e3 e4 e5 e6 e7 e8 e9 e10 e11 e12 e13 e14 e15 e16 e17 e18 e19 e20 e21 e22 e23 e24 e25 e26 e27 e28 e29 e30 e31 e32 e33 e34 e35 e36 e37 e38 e39 e40 e41 e42 e43 e44 e45 e46 e47 e48 e49 e50 e51 e52 e53 e54 e55 e56 e57 e58 e59 e60 e61 e62 e63
  exact law_end l hL C0 hK hP hD hS hl
