/-! the law's own frame -/
def R_law : String := "PapersHeldLaw"
def lw_P (b : Addr) (xs : List Int32) (args : Array Value) (s : State) : Prop := args = #[.ref b] ∧ s.IntsAt b xs ∧ xs.length ≤ 3072 ∧ (Jvm.Cond.and given_1 narrow_1).before args s = true
def lw_Q (_ : Array Value) (s : State) (o : Outcome) (t : State) : Prop := o = .returned (some (.int 1)) ∧ Framed s o t [] 600000 7302250
def lw_Z (below : List Frame) (a : Array Value) (s : State) : State → Prop := fun t => ∃ o, t.status = .running ∧ Ended t below o ∧ lw_Q a s o t
/-- the law's own end, with 1 on the stack, nothing written that was there before, its room as the claim has it -/
theorem lw_ret {p : Program} {l : Launch} {e : Env} {s : State} {m : MethodId} {below : List Frame} {meth : Method} {c : Code} {b : Nat} (hx : p.tables.exec = Jvm.exec) (hb : c.code = code) (hr : meth.sig.returnType = ret) (hlocks : meth.locks = false) {pc : Nat} {H : Heap} {ls : Array Slot} (hdg : decode code pc = .ok (.ireturn, 1)) : W p l e room_1 s m #[Value.ref b] below meth c H [] 600000 7302250 (lw_Z below #[Value.ref b] s) (F0 m pc ls [.int 1]) := by
  intro T hT X
  obtain ⟨fs, hret, hrun, hended, hW, hframe⟩ := X.leave (v := some (.int 1)) (hlocks := hlocks) (fun h => by rw [hr] at h; cases h)
  have hmeth' : T.vm.method? m = some meth := X.method'
  refine ⟨T.setFrames fs, ?_, .returned (some (.int 1)), hrun, hended, rfl, ⟨_, rfl⟩, hW, hframe⟩
  jvm_step X.here [X.here.top, hx, hb, hdg, hmeth', hr, ret, narrow_b1]
  (try refine ⟨rfl, ?_⟩); (try refine ⟨rfl, ?_⟩)
  first | (intro acts; rw [hret _ acts rfl rfl rfl]) | rw [hret _ _ rfl rfl rfl]
  exact Steps.refl _
/-- what holds at the law's entry: the machine, the code, the tables' words (any of lw_tbl by 'hts w (by decide +kernel)'), the script of L ints xs at the cell b, what the Statement gives of the start (any of its parts by flat_of_before) -/
def lw_At (p : Program) (s : State) (m : MethodId) (meth : Method) (c : Code) (b L : Nat) (xs : Nat → Int32) : Prop :=
  p.tables.exec = Jvm.exec ∧ c.code = code ∧ meth.sig.returnType = ret ∧ c.maxLocals = 4 ∧ s.vm.findClass R_law = some m.cls ∧ (∀ w ∈ lw_tbl, w.before #[Value.ref b] s = true) ∧ va_X b L xs s s.heap ∧ b < s.heap.size ∧ meth.locks = false ∧ (Jvm.Cond.and given_1 narrow_1).before #[Value.ref b] s = true

section LAWF
variable {p : Program} {l : Launch} {e : Env} {s : State} {m : MethodId} {below : List Frame} {meth : Method} {c : Code} {cells slots : Nat} {D : va_G} {cs : CIds} {ad : Nat → Nat} {b L : Nat} {xs : Nat → Int32}
theorem law_Cx (C0 : lw_At p s m meth c b L xs) (hK : va_K D vwCl (wty cs) s) : Cx 9 4 cL_law p s m #[Value.ref b] c D cs := by
  obtain ⟨hx, hb, hr, hml, hown, hts, hX, hbl, hlocks, hgv⟩ := id C0
  refine ⟨hx, hb, hml, hown, fun w hw => hts w (List.mem_filter.mp hw).1, fun w hw => ?_, hK⟩
  obtain ⟨h1, h2⟩ := List.mem_filter.mp hw
  have h3 := hts w h1
  cases w with
  | methodLinkNest a i x hh => exact va_Nw.of rfl h3
  | _ => exact absurd h2 (by simp [isNest])
abbrev lawY (p : Program) (l : Launch) (e : Env) (s : State) (m : MethodId) (below : List Frame) (meth : Method) (c : Code) (cells slots : Nat) (D : va_G) (cs : CIds) (ad : Nat → Nat) (b L : Nat) : Mem → Nat → Lc → List Vl → Prop := fun μ pc Lc st => Wk p l e room_1 s m #[Value.ref b] below meth c cells slots (lw_Z below #[Value.ref b] s) D cs (fun q => s.heap.size ≤ q) ad s.heap 4 L μ pc Lc st
set_option maxRecDepth 100000 in
theorem law_run (C0 : lw_At p s m meth c b L xs) (hK : va_K D vwCl (wty cs) s) (hce : cells ≤ 600000) (hsl : slots ≤ 7302250) (stops : Nat → Bool) : ∀ (n : Nat) (μ : Mem) (pc : Nat) (Lq : Lc) (st : List Vl), vc 9 cL_law (some .boolean) L stops (lawY p l e s m below meth c cells slots D cs ad b L) (fun r _ => r = some (.inl 1)) n μ pc Lq st → lawY p l e s m below meth c cells slots D cs ad b L μ pc Lq st := by
  intro n
  induction n with
  | zero => intro μ pc Lq st h; exact h
  | succ n ih =>
    intro μ pc Lq st h
    have hC := law_Cx (D := D) (cs := cs) C0 hK
    obtain ⟨hx, hb, hr, hml, hown, hts, hX, hbl, hlocks, hgv⟩ := id C0
    unfold Jvm.Pilot.CPapersHeldLaw_law_r1485_b542d2.vc at h
    split at h
    · rename_i i len hd
      refine vx_sound hC (k := fun μ' pc' L' st' => if stops pc' = true then lawY p l e s m below meth c cells slots D cs ad b L μ' pc' L' st' else Jvm.Pilot.CPapersHeldLaw_law_r1485_b542d2.vc 9 cL_law (some .boolean) L stops (lawY p l e s m below meth c cells slots D cs ad b L) (fun r _ => r = some (.inl 1)) n μ' pc' L' st') ?_ ?_ ?_ ?_ hd h
      · intro μ' pc' L' st' h'
        split at h'
        · exact h'
        · exact ih _ _ _ _ h'
      · intro μ' pc' L' st' h'
        exact h'
      · intro x μ' pc' L' hd' hret hq H locs ls hF
        obtain ⟨hP, hD, hS, hl, -⟩ := hF
        cases hq
        refine va_forget (fun q hq => hS.2.2 q hq) ?_
        refine W.widen (k := 600000) (n := 7302250) hce hsl ?_
        exact lw_ret hx hb hr hlocks hd'
      · intro μ' pc' L' hd' hret hq H locs ls hF
        cases hret
    · exact h.elim
set_option maxRecDepth 100000 in
theorem law_LK (C0 : lw_At p s m meth c b L xs) (hK : va_K D vwCl (wty cs) s) (hb63 : ad 63 = b) (hce : cells ≤ 600000) (hsl : slots ≤ 7302250) : LK L (lawY p l e s m below meth c cells slots D cs ad b L) := by
  refine ⟨fun stops n μ pc Lq st h => law_run C0 hK hce hsl stops n μ pc Lq st h, ?_, ?_⟩
  · intro idx a d' nL' y cc' ret' As rest st μ pc Lq Q' hs hM hd hR hf hlo hrest hst h63 kk
    subst hst
    obtain ⟨ci, sl, q, h1, h2, h3⟩ := hR
    intro H locs ls hF
    exact W_callV (law_Cx C0 hK) (R := room_1) hs hM hd h1 h2 h3 hf hlo hce hsl hrest hF (fun r μ' hq _ => h63 r μ' hq) (fun r μ' hq H1 locs1 hF1 => by
      have := kk r μ' hq H1 locs1 ls hF1
      cases r <;> simpa using this)
  · intro μ pc Lq st hd kk H locs ls hF
    obtain ⟨hx, hb, hr, hml, hown, hts, hX, hbl, hlocks, hgv⟩ := id C0
    rw [← hb63] at hX hbl
    exact va_slen hx hb hX hbl (Nat.not_le.mpr hbl) hF.2.2.1 hd (kk H locs ls hF)
end LAWF
