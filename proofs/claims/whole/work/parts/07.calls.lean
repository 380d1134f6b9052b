/-! runs of instructions, contracts, calls -/
def vc (oc : Nat) (cc : ByteArray) (ret : Option FieldType) (Ln : Nat) (stops : Nat → Bool) (K : Mem → Nat → Lc → List Vl → Prop) (Q : Option Vl → Mem → Prop) : Nat → Mem → Nat → Lc → List Vl → Prop
  | 0, μ, pc, L, st => K μ pc L st
  | n + 1, μ, pc, L, st => match decode cc pc with
    | .ok (i, len) => vx oc ret Ln (fun μ' pc' L' st' => if stops pc' = true then K μ' pc' L' st' else vc oc cc ret Ln stops K Q n μ' pc' L' st') K Q i len μ pc L st
    | .error _ => False
abbrev rmd (d : Nat) : Room := { frames := d, cells := 0, slots := 0, locals := 32 * d }
def Qcx (Q : Option Vl → Mem → Prop) (D : va_G) (cs : CIds) (A : Nat → Prop) (ad : Nat → Nat) : Array Value → State → Outcome → State → Prop := fun _ st o t => (∃ (r : Option Vl) (μ' : Mem), o = .returned (r.map (cv ad)) ∧ Q r μ' ∧ va_P D vwCl (wld cs ad μ') t.heap) ∧ va_F A st t
/-- from this point on the method comes to its end with Q -/
def X (oc nL : Nat) (cc : ByteArray) (ret : Option FieldType) (d : Nat) (μ : Mem) (pc : Nat) (L : Lc) (st : List Vl) (Q : Option Vl → Mem → Prop) : Prop :=
  ∀ (l : Launch) (p : Program) (e : Env) (s : State) (m : MethodId) (args : Array Value) (below : List Frame) (meth : Method) (c : Code) (D : va_G) (cs : CIds) (A : Nat → Prop) (ad : Nat → Nat), Cx oc nL cc p s m args c D cs → meth.sig.returnType = ret → meth.locks = false →
    Wk p l e (rmd d) s m args below meth c 0 0 (MQ below (Qcx Q D cs A ad) args s 0 0 A) D cs A ad s.heap nL 0 μ pc L st
theorem X.vc {oc nL : Nat} {cc : ByteArray} {ret : Option FieldType} {d : Nat} {Q : Option Vl → Mem → Prop} (stops : Nat → Bool) : ∀ (n : Nat) {μ : Mem} {pc : Nat} {L : Lc} {st : List Vl}, vc oc cc ret 0 stops (fun μ pc L st => X oc nL cc ret d μ pc L st Q) Q n μ pc L st → X oc nL cc ret d μ pc L st Q
  | 0, μ, pc, L, st, h => h
  | n + 1, μ, pc, L, st, h => by
    intro l p e s m args below meth c D cs A ad hC hr hlk
    obtain ⟨hx, hb, -⟩ := id hC
    unfold Jvm.Pilot.CPapersHeldLaw_law_r1485_b542d2.vc at h
    split at h
    · rename_i i len hd
      refine vx_sound hC (k := fun μ' pc' L' st' => if stops pc' = true then X oc nL cc ret d μ' pc' L' st' Q else Jvm.Pilot.CPapersHeldLaw_law_r1485_b542d2.vc oc cc ret 0 stops (fun μ pc L st => X oc nL cc ret d μ pc L st Q) Q n μ' pc' L' st') ?_ ?_ ?_ ?_ hd h
      · intro μ' pc' L' st' h'
        split at h'
        · exact h' l p e s m args below meth c D cs A ad hC hr hlk
        · exact X.vc stops n h' l p e s m args below meth c D cs A ad hC hr hlk
      · intro μ' pc' L' st' h'
        exact h' l p e s m args below meth c D cs A ad hC hr hlk
      · intro x μ' pc' L' hd' hret hq H locs ls hF
        obtain ⟨hP, hD, hS, hl, -⟩ := hF
        rcases hret with h1 | ⟨h1, h2⟩
        · subst h1
          exact W.zret hx hb hr rfl (fun t ht hW => ⟨⟨some (.inl x), μ', rfl, hq, by rw [ht]; exact hP⟩, hS.F ht⟩) hS.2.2 hd' hlk
        · subst h1
          exact W.zret hx hb hr (vp_nar_z x h2).1 (fun t ht hW => ⟨⟨some (.inl x), μ', rfl, hq, by rw [ht]; exact hP⟩, hS.F ht⟩) hS.2.2 hd' hlk
      · intro μ' pc' L' hd' hret hq H locs ls hF
        obtain ⟨hP, hD, hS, hl, -⟩ := hF
        exact W.vret hx hb (hr.trans hret) (fun t ht hW => ⟨⟨none, μ', rfl, hq, by rw [ht]; exact hP⟩, hS.F ht⟩) hS.2.2 hd' hlk
    · exact h.elim
/-- fewer known locals -/
theorem X.weak {oc nL : Nat} {cc : ByteArray} {ret : Option FieldType} {d : Nat} {Q : Option Vl → Mem → Prop} {μ : Mem} {pc : Nat} {L : Lc} {st : List Vl} (L' : Lc) (hl : L'.length = L.length) (hw : ∀ (i : Nat) (v : Vl), L'[i]? = some (some v) → L[i]? = some (some v)) (h : X oc nL cc ret d μ pc L' st Q) : X oc nL cc ret d μ pc L st Q := by
  intro l p e s m args below meth c D cs A ad hC hr hlk H locs ls hF
  exact h l p e s m args below meth c D cs A ad hC hr hlk H locs ls ⟨hF.1, hF.2.1, hF.2.2.1, hF.2.2.2.1.weak hl hw, hF.2.2.2.2⟩
/-- a weaker end -/
theorem X.post {oc nL : Nat} {cc : ByteArray} {ret : Option FieldType} {d : Nat} {Q Q' : Option Vl → Mem → Prop} {μ : Mem} {pc : Nat} {L : Lc} {st : List Vl} (h : X oc nL cc ret d μ pc L st Q) (hq : ∀ r μ', Q r μ' → Q' r μ') : X oc nL cc ret d μ pc L st Q' := by
  intro l p e s m args below meth c D cs A ad hC hr hlk H locs ls hF T hT XX
  obtain ⟨t, a1, o, b1, b2, ⟨⟨r, μ', q1, q2, q3⟩, q4⟩, b4⟩ := h l p e s m args below meth c D cs A ad hC hr hlk H locs ls hF T hT XX
  exact ⟨t, a1, o, b1, b2, ⟨⟨r, μ', q1, hq _ _ q2, q3⟩, q4⟩, b4⟩
def Pcx (As : List Vl) (μ : Mem) (D : va_G) (cs : CIds) (A : Nat → Prop) (ad : Nat → Nat) : Array Value → State → Prop := va_Pc (As.map (cv ad)) (fun U => va_P D vwCl (wld cs ad μ) U.heap ∧ va_D A (wld cs ad μ) ∧ (∀ w ∈ nwt, va_Nw w U) ∧ va_K D vwCl (wty cs) U)
def Ct (y : MethodName) (nL : Nat) (cc : ByteArray) (ret : Option FieldType) (d : Nat) (As : List Vl) (μ : Mem) (Q : Option Vl → Mem → Prop) : Prop :=
  ∀ (l : Launch) (D : va_G) (cs : CIds) (A : Nat → Prop) (ad : Nat → Nat), Met l y (Cond.code y cc nL ret :: gwt) (rmd d) (Pcx As μ D cs A ad) (Qcx Q D cs A ad) 0 0 A
theorem lv_args_mem {ad : Nat → Nat} : ∀ (As : List Vl) (j i : Nat) (v : Vl), As[i]? = some v → (j + i, cv ad v) ∈ lv_args j (As.map (cv ad))
  | [], _, _, _, h => by simp at h
  | a :: As, j, 0, v, h => by
    simp at h
    subst h
    exact List.mem_cons_self
  | a :: As, j, i + 1, v, h => by
    rw [List.map_cons]
    unfold lv_args
    rw [if_neg (by rw [cv_cat]; decide)]
    have := lv_args_mem (ad := ad) As (j + 1) i v (by simpa using h)
    rw [show j + (i + 1) = j + 1 + i by omega]
    exact List.mem_cons_of_mem _ this
theorem lg_len {ad : Nat → Nat} : ∀ (As : List Vl), (lg_sl (As.map (cv ad))).length = As.length
  | [] => rfl
  | a :: As => by
    have := lg_len (ad := ad) As
    unfold lg_sl at this ⊢
    rw [List.map_cons, List.flatMap_cons, List.length_append, this, if_neg (by rw [cv_cat]; decide)]
    simp
    omega
theorem Ct.of {y : MethodName} {oc nL : Nat} {cc : ByteArray} {ret : Option FieldType} {d : Nat} {As : List Vl} {μ : Mem} {Q : Option Vl → Mem → Prop} (L : Lc) (hy : plainName y.cls = true) (ho : y.cls = ownN oc) (hn : As.length ≤ nL) (hL : L = As.map some ++ List.replicate (nL - As.length) none) (h : X oc nL cc ret d μ 0 L [] Q) : Ct y nL cc ret d As μ Q := by
  intro l D cs A ad
  refine Met.ofW (cc := cc) (maxL := nL) (ret := ret) hy rfl ?_
  intro p e s m args below meth c s₁ B hml hv
  obtain ⟨rfl, hP, hD, hN, hK⟩ := hv
  have hts := atoms_spec (ws := Cond.code y cc nL ret :: gwt) B.pre
  have hown : s.vm.findClass (ownN oc) = some m.cls := by rw [← ho]; exact findClass_of_methodNamed B.named
  have hl := lv_entry (As.map (cv ad)) (n := nL) (by rw [lg_len]; exact hn)
  rw [lg_entry_eq]
  generalize (lg_sl (As.map (cv ad)) ++ List.replicate (nL - (lg_sl (As.map (cv ad))).length) Slot.unset).toArray = ls at hl ⊢
  have hlr : lvr ls nL ad L := by
    refine ⟨hl.1, hl.2.1, ?_, fun i v hi => ?_⟩
    · rw [hL, List.length_append, List.length_map, List.length_replicate]
      omega
    · rw [hL] at hi
      by_cases hlt : i < As.length
      · rw [List.getElem?_append_left (by simpa using hlt), List.getElem?_map] at hi
        have hA : As[i]? = some v := by
          cases h9 : As[i]? with
          | none => rw [h9] at hi; cases hi
          | some w => rw [h9] at hi; cases hi; rfl
        have := lv_args_mem (ad := ad) As 0 i v hA
        rw [Nat.zero_add] at this
        exact hl.2.2 _ this
      · rw [List.getElem?_append_right (by simpa using hlt)] at hi
        have := List.eq_of_mem_replicate (List.mem_of_getElem? hi)
        cases this
  exact h l p e s m _ below meth c D cs A ad ⟨B.exec, B.bytes, hml, hown, fun w hw => hts w (List.mem_cons_of_mem _ hw), hN, hK⟩ B.returns B.notSynchronized s.heap [] ls ⟨hP, hD, va_S.rf, hlr, fun h => absurd h (Nat.lt_irrefl 0)⟩
theorem Ct.post {y : MethodName} {nL : Nat} {cc : ByteArray} {ret : Option FieldType} {d : Nat} {As : List Vl} {μ : Mem} {Q Q' : Option Vl → Mem → Prop} (h : Ct y nL cc ret d As μ Q) (hq : ∀ r μ', Q r μ' → Q' r μ') : Ct y nL cc ret d As μ Q' := by
  intro l D cs A ad p e ha hc hk s m args below hf happ hP hK
  obtain ⟨k, o, h1, h2, h3, ⟨⟨r, μ', q1, q2, q3⟩, q4⟩, h5⟩ := h l D cs A ad p e ha hc hk s m args below hf happ hP hK
  exact ⟨k, o, h1, h2, h3, ⟨⟨r, μ', q1, hq _ _ q2, q3⟩, q4⟩, h5⟩
theorem wld_addr {cs : CIds} {ad : Nat → Nat} {μ : Mem} {k : Nat} {q : Nat × va_E} (h : (wld cs ad μ)[k]? = some q) : q.1 = ad k ∧ ∃ sh, shp[k]? = some sh := by
  unfold wld at h
  rw [List.getElem?_mapIdx] at h
  cases hs : shp[k]? with
  | none => rw [hs] at h; cases h
  | some sh => rw [hs] at h; cases h; exact ⟨rfl, sh, rfl⟩
theorem va_D.other {cs : CIds} {ad : Nat → Nat} {μ μ' : Mem} {A : Nat → Prop} (h : va_D A (wld cs ad μ)) : va_D A (wld cs ad μ') := by
  refine ⟨fun i j p q hi hj hpq => ?_, fun k q hq => ?_⟩
  · obtain ⟨h1, sh1, h2⟩ := wld_addr hi
    obtain ⟨h3, sh3, h4⟩ := wld_addr hj
    exact h.1 i j _ _ (wld_at h2) (wld_at h4) (by show ad i = ad j; rw [← h1, ← h3, hpq])
  · obtain ⟨h1, sh1, h2⟩ := wld_addr hq
    rw [h1]
    exact h.2 k _ (wld_at h2)
theorem good_gwt {y : MethodName} {cc : ByteArray} {nL : Nat} {ret : Option FieldType} (h : Cond.code y cc nL ret ∈ gwt) : GoodIn gwt (Cond.code y cc nL ret :: gwt) := by
  intro w hw
  have hw' : w ∈ gwt := by
    rcases List.mem_cons.mp hw with rfl | h1
    · exact h
    · exact h1
  exact ⟨hw', good_of_word (List.mem_filter.mp hw').2⟩
theorem nwt_warm {s U : State} (hW : s.WarmedH U.vm) (h : ∀ w ∈ nwt, va_Nw w s) : ∀ w ∈ nwt, va_Nw w U := by
  intro w hw
  have h1 := (List.mem_filter.mp hw).2
  have h2 := h w hw
  cases w with
  | methodLinkNest a i x hh => exact va_Nw.warmM hW h2
  | _ => exact absurd h1 (by simp [isNest])
theorem nwt_same {u U : State} (hv : u.vm = U.vm) (h : ∀ w ∈ nwt, va_Nw w u) : ∀ w ∈ nwt, va_Nw w U := by
  intro w hw
  have h1 := (List.mem_filter.mp hw).2
  have h2 := h w hw
  cases w with
  | methodLinkNest a i x hh => exact va_Nw.same rfl hv h2
  | _ => exact absurd h1 (by simp [isNest])
theorem Pcx_blind {As : List Vl} {μ : Mem} {D : va_G} {cs : CIds} {A : Nat → Prop} {ad : Nat → Nat} : FrameBlind (Pcx As μ D cs A ad) := by
  intro a U g mk q
  obtain ⟨q0, q1, q2, q3, q4⟩ := q
  exact ⟨q0, q1, q2, nwt_same (u := U) (U := U.calling g mk a) rfl q3, va_K.moved (u := U) (U := U.calling g mk a) (Vm.Alike.refl U.vm) q4⟩
/-- a call's site: what the tables say of it -/
def CsB (oc idx : Nat) (y : MethodName) (cc : ByteArray) (nL : Nat) (ret : Option FieldType) (n : Nat) : Prop :=
  Cond.initialized y.cls ∈ gwt ∧ Cond.code y cc nL ret ∈ gwt ∧ (y.cls ≠ "java/lang/invoke/MethodHandle" ∧ y.cls ≠ "java/lang/invoke/VarHandle" ∧ (parseMethodDescriptor y.desc).map (fun d => d.parameters.length) = some n)
def CsV (oc idx : Nat) (y : MethodName) (cc : ByteArray) (nL : Nat) (ret : Option FieldType) (n : Nat) : Prop := CsB oc idx y cc nL ret n ∧ Cond.methodLink (ownN oc) idx y ∈ gwt ∧ Cond.instanceMethod y ∈ gwt ∧ Cond.selects y.cls y y ∈ gwt
def CsS (oc idx : Nat) (y : MethodName) (cc : ByteArray) (nL : Nat) (ret : Option FieldType) (n : Nat) : Prop := CsB oc idx y cc nL ret n ∧ Cond.methodLink (ownN oc) idx y ∈ gwt ∧ Cond.static y ∈ gwt
def CsN (oc idx : Nat) (y : MethodName) (cc : ByteArray) (nL : Nat) (ret : Option FieldType) (n : Nat) : Prop := CsB oc idx y cc nL ret n ∧ (∃ host, Cond.methodLinkNest (ownN oc) idx y host ∈ nwt) ∧ Cond.static y ∈ gwt
section CALLS
variable {p : Program} {l : Launch} {e : Env} {R : Room} {s : State} {m : MethodId} {args : Array Value} {below : List Frame} {meth : Method} {c : Code} {cells slots : Nat} {Qs : State → Prop} {D : va_G} {cs : CIds} {A : Nat → Prop} {ad : Nat → Nat} {H0 : Heap} {oc nL Ln : Nat} {cc : ByteArray}
theorem W_run {μ : Mem} {L : Lc} {H : Heap} {locs : List Loc} {ls : Array Slot} {Q' : Option Vl → Mem → Prop} {pc : Nat} {st0 rest : List Value} {a : Array Value} (hr : va_Run p l e R s m args below meth c H locs cells slots 0 0 (F0 m pc ls st0) rest (Qcx Q' D cs A ad a) A) (hF : Fr s D cs A ad H0 nL Ln μ L H locs ls) (h63 : ∀ r μ', Q' r μ' → 0 < Ln → μ' 63 = μ 63)
    (kk : ∀ r μ', Q' r μ' → ∀ (H1 : Heap) (locs1 : List Loc), Fr s D cs A ad H0 nL Ln μ' L H1 locs1 ls → W p l e R s m args below meth c H1 locs1 cells slots Qs (F0 m (pc + 3) ls ((r.map (cv ad)).toList ++ rest))) : W p l e R s m args below meth c H locs cells slots Qs (F0 m pc ls st0) := by
  intro T hT XX
  obtain ⟨hP, hD, hS, hl, hX⟩ := hF
  obtain ⟨v, st₀, t, T', L', h0, X', hL, e1, e2, ⟨⟨r, μ', hv, hq, hb⟩, hz, hk⟩, st⟩ := hr T hT XX
  cases hv
  rw [h0] at hz hk
  have hS1 : va_S A H0 T'.heap (locs ++ L') := ⟨Nat.le_trans hS.1 (by rw [e1]; exact hz), fun q h1 h2 => by rw [e1, hk q (Nat.lt_of_lt_of_le h1 hS.1) h2]; exact hS.2.1 q h1 h2, fun q hq => by
      rcases List.mem_append.mp hq with h | h
      · exact hS.2.2 q h
      · exact hL q h⟩
  obtain ⟨t2, a1, b1⟩ := kk r μ' hq T'.heap (locs ++ L') ⟨by rw [e1]; exact hb, hD.other, hS1, hl, fun h => by rw [h63 r μ' hq h]; exact hX h⟩ T' rfl X'
  exact ⟨t2, st t2 a1, b1⟩
theorem Pcx_at (hC : Cx oc nL cc p s m args c D cs) {As : List Vl} {μ : Mem} {H : Heap} (hP : va_P D vwCl (wld cs ad μ) H) (hD : va_D A (wld cs ad μ)) : ∀ U : State, U.heap = H → s.WarmedH U.vm → Pcx As μ D cs A ad (As.map (cv ad)).toArray U := by
  obtain ⟨hx, hb, hml, hown, hts, hnw, hKn⟩ := hC
  intro U hU hW
  exact ⟨rfl, by rw [hU]; exact hP, hD, nwt_warm hW hnw, va_K.moved hW.alike hKn⟩
theorem st_cat {rest : List Vl} (h : rest.length ≤ 8) : ((rest.map (cv ad)).map fun v => v.category).sum ≤ 8 := by
  have : ∀ r : List Vl, ((r.map (cv ad)).map fun v => v.category).sum = r.length := by
    intro r
    induction r with
    | nil => rfl
    | cons a r ih => simp only [List.map_cons, List.sum_cons, ih, cv_cat, List.length_cons]; omega
  rw [this]
  exact h
theorem W_callV (hC : Cx oc nL cc p s m args c D cs) {μ : Mem} {L : Lc} {H : Heap} {locs : List Loc} {ls : Array Slot} {Q' : Option Vl → Mem → Prop} {pc idx a d' nL' ci : Nat} {y : MethodName} {cc' : ByteArray} {ret' : Option FieldType} {As rest : List Vl} {sl : List (Option Nat)} (hs : CsV oc idx y cc' nL' ret' As.length) (hM : Ct y nL' cc' ret' d' (.inr a :: As) μ Q') (hd : decode cc pc = .ok (.invokevirtual idx, 3)) (ha : shp[a]? = some (.inr (.inr (ci, sl)))) {q : vw_C} (hq : vwCl[ci]? = some q) (hqy : q.1 = y.cls) (hf : d' + 1 ≤ R.frames) (hlo : 8 + (nL' + 11) + 32 * d' ≤ R.locals) (hce : cells ≤ R.cells) (hsl : slots ≤ R.slots) (hrest : rest.length ≤ 8) (hF : Fr s D cs A ad H0 nL Ln μ L H locs ls) (h63 : ∀ r μ', Q' r μ' → 0 < Ln → μ' 63 = μ 63)
    (kk : ∀ r μ', Q' r μ' → ∀ (H1 : Heap) (locs1 : List Loc), Fr s D cs A ad H0 nL Ln μ' L H1 locs1 ls → W p l e R s m args below meth c H1 locs1 cells slots Qs (F0 m (pc + 3) ls ((r.map (cv ad)).toList ++ rest.map (cv ad)))) : W p l e R s m args below meth c H locs cells slots Qs (F0 m pc ls ((As.reverse ++ .inr a :: rest).map (cv ad))) := by
  obtain ⟨hx, hb, hml, hown, hts, hnw, hKn⟩ := id hC
  obtain ⟨hP, hD, hS, hl, hX⟩ := id hF
  obtain ⟨⟨hi, hc, hdd⟩, hlk, him, hse⟩ := hs
  have hcb := callB_of (R := R) (rm := rmd d') (mc := 0) (ms := 0) (bytes := cc') (maxL := nL') (ret := ret') As.length hts (good_gwt hc) rfl rfl rfl (hts _ hi) (hts _ hlk) hdd ⟨hf, hlo⟩
  refine W_run (va_runV (C := y.cls) (As := As.map (cv ad)) (rest := rest.map (cv ad)) (b := ad a) ⟨hx, hb, hml, hown, hts⟩ (hM l D cs A ad) ⟨hcb, hts _ him, hts _ hse⟩ ⟨Pcx_blind, ?_, ?_⟩ rfl (by simp) hl.1 ?_ (lv_room (st_cat hrest)) hd ⟨by simpa using hce, by simpa using hsl⟩) hF h63 kk
  · have hw : (wld cs ad μ)[a]? = some (ad a, .inr (ci, wfs ad μ a sl)) := wld_at ha
    have := va_recv (a := ad a) (ci := ci) (q0 := a) (q := q) hKn hP hq hw
    rw [hqy] at this
    exact this
  · intro U hU hW
    exact Pcx_at hC (As := .inr a :: As) hP hD U hU hW
  · show List.map (cv ad) _ = _
    simp [cv]
theorem W_callS (hC : Cx oc nL cc p s m args c D cs) {μ : Mem} {L : Lc} {H : Heap} {locs : List Loc} {ls : Array Slot} {Q' : Option Vl → Mem → Prop} {pc idx d' nL' : Nat} {y : MethodName} {cc' : ByteArray} {ret' : Option FieldType} {As rest : List Vl} (hs : CsS oc idx y cc' nL' ret' As.length) (hM : Ct y nL' cc' ret' d' As μ Q') (hd : decode cc pc = .ok (.invokestatic idx, 3)) (hf : d' + 1 ≤ R.frames) (hlo : 8 + (nL' + 11) + 32 * d' ≤ R.locals) (hce : cells ≤ R.cells) (hsl : slots ≤ R.slots) (hrest : rest.length ≤ 8) (hF : Fr s D cs A ad H0 nL Ln μ L H locs ls) (h63 : ∀ r μ', Q' r μ' → 0 < Ln → μ' 63 = μ 63)
    (kk : ∀ r μ', Q' r μ' → ∀ (H1 : Heap) (locs1 : List Loc), Fr s D cs A ad H0 nL Ln μ' L H1 locs1 ls → W p l e R s m args below meth c H1 locs1 cells slots Qs (F0 m (pc + 3) ls ((r.map (cv ad)).toList ++ rest.map (cv ad)))) : W p l e R s m args below meth c H locs cells slots Qs (F0 m pc ls ((As.reverse ++ rest).map (cv ad))) := by
  obtain ⟨hx, hb, hml, hown, hts, hnw, hKn⟩ := id hC
  obtain ⟨hP, hD, hS, hl, hX⟩ := id hF
  obtain ⟨⟨hi, hc, hdd⟩, hlk, hst⟩ := hs
  have hcb := callB_of (R := R) (rm := rmd d') (mc := 0) (ms := 0) (bytes := cc') (maxL := nL') (ret := ret') As.length hts (good_gwt hc) rfl rfl rfl (hts _ hi) (hts _ hlk) hdd ⟨hf, hlo⟩
  refine W_run (va_runS (As := As.map (cv ad)) (rest := rest.map (cv ad)) ⟨hx, hb, hml, hown, hts⟩ (hM l D cs A ad) ⟨hcb, hts _ hst⟩ ⟨Pcx_blind, Pcx_at hC hP hD⟩ rfl (by simp) hl.1 ?_ (lv_room (st_cat hrest)) hd ⟨by simpa using hce, by simpa using hsl⟩) hF h63 kk
  show List.map (cv ad) _ = _
  simp
theorem W_callN (hC : Cx oc nL cc p s m args c D cs) {μ : Mem} {L : Lc} {H : Heap} {locs : List Loc} {ls : Array Slot} {Q' : Option Vl → Mem → Prop} {pc idx d' nL' : Nat} {y : MethodName} {cc' : ByteArray} {ret' : Option FieldType} {As rest : List Vl} (hs : CsN oc idx y cc' nL' ret' As.length) (hM : Ct y nL' cc' ret' d' As μ Q') (hd : decode cc pc = .ok (.invokestatic idx, 3)) (hf : d' + 1 ≤ R.frames) (hlo : 8 + (nL' + 11) + 32 * d' ≤ R.locals) (hce : cells ≤ R.cells) (hsl : slots ≤ R.slots) (hrest : rest.length ≤ 8) (hF : Fr s D cs A ad H0 nL Ln μ L H locs ls) (h63 : ∀ r μ', Q' r μ' → 0 < Ln → μ' 63 = μ 63)
    (kk : ∀ r μ', Q' r μ' → ∀ (H1 : Heap) (locs1 : List Loc), Fr s D cs A ad H0 nL Ln μ' L H1 locs1 ls → W p l e R s m args below meth c H1 locs1 cells slots Qs (F0 m (pc + 3) ls ((r.map (cv ad)).toList ++ rest.map (cv ad)))) : W p l e R s m args below meth c H locs cells slots Qs (F0 m pc ls ((As.reverse ++ rest).map (cv ad))) := by
  obtain ⟨hx, hb, hml, hown, hts, hnw, hKn⟩ := id hC
  obtain ⟨hP, hD, hS, hl, hX⟩ := id hF
  obtain ⟨⟨hi, hc, hdd⟩, ⟨host, hlk⟩, hst⟩ := hs
  have hcb := va_cnB (R := R) (rm := rmd d') (mc := 0) (ms := 0) (bytes := cc') (maxL := nL') (ret := ret') As.length hts (good_gwt hc) rfl rfl rfl (hnw _ hlk) (hts _ hi) hdd ⟨hf, hlo⟩
  refine W_run (va_runSN (As := As.map (cv ad)) (rest := rest.map (cv ad)) ⟨hx, hb, hml, hown, hts⟩ (hM l D cs A ad) ⟨hcb, hts _ hst, trivial⟩ ⟨Pcx_blind, Pcx_at hC hP hD⟩ rfl (by simp) hl.1 ?_ (lv_room (st_cat hrest)) hd ⟨by simpa using hce, by simpa using hsl⟩) hF h63 kk
  show List.map (cv ad) _ = _
  simp
end CALLS
