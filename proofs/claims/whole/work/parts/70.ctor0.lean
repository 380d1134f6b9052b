/-! rows for constructors -/
abbrev iA (cs : CIds) (n : Nat) : va_E := .inl (cs.1, n, .inl (fun _ => 0))
abbrev zA (cs : CIds) (n : Nat) : va_E := .inl (cs.2.1, n, .inl (fun _ => 0))
theorem va_D_one (a : Nat) (e : va_E) : va_D (fun _ => True) [(a, e)] := by
  refine ⟨fun i j p q hi hj _ => ?_, fun _ _ _ => trivial⟩
  have h1 : i < 1 := (List.getElem?_eq_some_iff.mp hi).1
  have h2 : j < 1 := (List.getElem?_eq_some_iff.mp hj).1
  omega
/-- the tables' word of int[][] -/
def aoI (U : State) : Prop := (Cond.arrayOver (.array .int)).before #[] U = true
theorem aoI_moved {u U : State} (hvm : u.vm.Alike U.vm) (h : aoI u) : aoI U := by
  obtain ⟨comp, c, k, h1, h2, h3, h4, h5⟩ := arrayOverA_spec h
  obtain ⟨k', hk', he⟩ := hvm.2.2 _ _ h3
  have hi : (U.vm.classes.findIdx? fun (x : Class) => match x.kind with | .array component _ => component == comp | _ => false) = some c := by
    have e1 := va_idx_bare U.vm comp
    have e2 := va_idx_bare u.vm comp
    have e3 : U.vm.bare = u.vm.bare := by first | exact hvm.bare_eq | exact hvm.bare_eq.symm
    rw [e3] at e1
    exact e1.symm.trans (e2.trans h2)
  have hkind : k'.kind = .array comp (.array .int) := by rw [he]; exact h4
  have f1 : U.vm.findClass (FieldType.array .int).toString = some comp := by rw [hvm.findClass]; exact h1
  have f2 : U.vm.findClass ("[" ++ (FieldType.array .int).toString) = some c := by rw [hvm.findClass]; exact h5
  unfold aoI Cond.before Cond.holds
  simp only [Cond.value]
  rw [f1, Option.bind_some]
  refine (congrArg (fun o : Option Nat => (o.bind (fun c => (U.vm.classes[c]?).map fun (k : Class) => match k.kind with | .array _ ty => decide (ty = FieldType.array .int) && decide (U.vm.findClass ("[" ++ (FieldType.array .int).toString) = some c) | _ => false) == some true)) hi).trans ?_
  simp [hk', hkind, f2]
abbrev Pn (D : va_G) (cs : CIds) (h0 : Nat) (o : Nat × List Value) (sz : Nat) : Array Value → State → Prop := va_Pc [.ref h0] (fun U => U.heap.size = sz ∧ va_P D vwCl [(h0, .inr o)] U.heap ∧ va_K D vwCl (wty cs) U ∧ (∀ w ∈ nwt, va_Nw w U) ∧ aoI U)
theorem Pn_blind {D : va_G} {cs : CIds} {h0 : Nat} {o : Nat × List Value} {sz : Nat} : FrameBlind (Pn D cs h0 o sz) := by
  intro a U g mk q
  obtain ⟨q0, q1, qP, qK, qN, qO⟩ := q
  exact ⟨q0, q1, qP, va_K.moved (u := U) (U := U.calling g mk a) (Vm.Alike.refl U.vm) qK, nwt_same (u := U) (U := U.calling g mk a) rfl qN, aoI_moved (u := U) (U := U.calling g mk a) (Vm.Alike.refl U.vm) qO⟩
section CT
variable {p : Program} {l : Launch} {e : Env} {R : Room} {s : State} {m : MethodId} {args : Array Value} {below : List Frame} {meth : Method} {c : Code} {H : Heap} {locs : List Loc} {cells slots : Nat} {Q : State → Prop} {cc : ByteArray} {pc : Nat} {ls : Array Slot} {rest : List Value} {D : va_G} {A : Nat → Prop} {ws : va_W} {H0 : Heap} {cs : CIds}
theorem va_newI (hexec : p.tables.exec = Jvm.exec) (hb : c.code = cc) (harr : (Cond.arrayClass .int).before args s = true) (hK : va_K D vwCl (wty cs) s) (hP : va_P D vwCl ws H) (hD : va_D A ws) (hS : va_S A H0 H locs) (hA : ∀ q, H0.size ≤ q → A q)
    {n : Int32} {N' : Nat} (hn : ¬ n < 0) (hN : n.toNatClampNeg = N') (hbytes : N' * componentBytes .int ≤ 536870912) (hcells : cells + 1 ≤ R.cells) (hslots : slots + N' ≤ R.slots) (hdg : decode cc pc = .ok (.newarray .int, 2))
    (kk : ∀ (q : Nat) (H1 : Heap), va_P D vwCl (ws ++ [(q, iA cs N')]) H1 → va_D A (ws ++ [(q, iA cs N')]) → va_S A H0 H1 locs → W p l e R s m args below meth c H1 locs (cells + 1) (slots + N') Q (F0 m (pc + 2) ls (.ref q :: rest))) : W p l e R s m args below meth c H locs cells slots Q (F0 m pc ls (.int n :: rest)) := by
  refine va_newa (atype := .int) (ty := .int) (a0 := (N', .inl (fun _ => 0))) hexec hb harr rfl hK hP hD hS hA (fun cA => rfl) hn hN hbytes hcells hslots hdg (fun q cA H1 hK1 hP1 hD1 hS1 => ?_)
  have h1 : s.vm.findClass ("[" ++ FieldType.int.toString) = some cA := (hK1.2 3 (cA, .int) rfl).2
  have h2 : s.vm.findClass ("[" ++ FieldType.int.toString) = some cs.1 := (hK.2 0 (cs.1, .int) rfl).2
  have h3 : cA = cs.1 := Option.some.inj (h1.symm.trans h2)
  subst h3
  exact kk q H1 hP1 hD1 hS1
theorem va_newZ (hexec : p.tables.exec = Jvm.exec) (hb : c.code = cc) (harr : (Cond.arrayClass .boolean).before args s = true) (hK : va_K D vwCl (wty cs) s) (hP : va_P D vwCl ws H) (hD : va_D A ws) (hS : va_S A H0 H locs) (hA : ∀ q, H0.size ≤ q → A q)
    {n : Int32} {N' : Nat} (hn : ¬ n < 0) (hN : n.toNatClampNeg = N') (hbytes : N' * componentBytes .boolean ≤ 536870912) (hcells : cells + 1 ≤ R.cells) (hslots : slots + N' ≤ R.slots) (hdg : decode cc pc = .ok (.newarray .boolean, 2))
    (kk : ∀ (q : Nat) (H1 : Heap), va_P D vwCl (ws ++ [(q, zA cs N')]) H1 → va_D A (ws ++ [(q, zA cs N')]) → va_S A H0 H1 locs → W p l e R s m args below meth c H1 locs (cells + 1) (slots + N') Q (F0 m (pc + 2) ls (.ref q :: rest))) : W p l e R s m args below meth c H locs cells slots Q (F0 m pc ls (.int n :: rest)) := by
  refine va_newa (atype := .boolean) (ty := .boolean) (a0 := (N', .inl (fun _ => 0))) hexec hb harr rfl hK hP hD hS hA (fun cA => rfl) hn hN hbytes hcells hslots hdg (fun q cA H1 hK1 hP1 hD1 hS1 => ?_)
  have h1 : s.vm.findClass ("[" ++ FieldType.boolean.toString) = some cA := (hK1.2 3 (cA, .boolean) rfl).2
  have h2 : s.vm.findClass ("[" ++ FieldType.boolean.toString) = some cs.2.1 := (hK.2 1 (cs.2.1, .boolean) rfl).2
  have h3 : cA = cs.2.1 := Option.some.inj (h1.symm.trans h2)
  subst h3
  exact kk q H1 hP1 hD1 hS1
end CT
set_option maxRecDepth 20000 in
theorem df0 : ∀ j, j < 3 → defaultValue (tyX0 j) = vp_V [.null, .null, .int 0] j := by decide +kernel
set_option maxRecDepth 20000 in
theorem df1 : ∀ j, j < 3 → defaultValue (tyX1 j) = vp_V [.null, .int 0, .int 0] j := by decide +kernel
set_option maxRecDepth 20000 in
theorem df2 : ∀ j, j < 2 → defaultValue (tyX2 j) = vp_V [.null, .int 0] j := by decide +kernel
set_option maxRecDepth 20000 in
theorem df3 : ∀ j, j < 12 → defaultValue (tyX3 j) = vp_V [.null, .null, .null, .int 0, .int 0, .int 0, .int 0, .int 0, .int 0, .int 0, .int 0, .int 0] j := by decide +kernel
set_option maxRecDepth 20000 in
theorem df4 : ∀ j, j < 2 → defaultValue (tyX4 j) = vp_V [.null, .null] j := by decide +kernel
set_option maxRecDepth 20000 in
theorem df5 : ∀ j, j < 4 → defaultValue (tyX5 j) = vp_V [.null, .null, .null, .int 0] j := by decide +kernel
set_option maxRecDepth 20000 in
theorem df6 : ∀ j, j < 7 → defaultValue (tyX6 j) = vp_V [.null, .null, .null, .null, .null, .null, .int 0] j := by decide +kernel
set_option maxRecDepth 20000 in
theorem df7 : ∀ j, j < 14 → defaultValue (tyX7 j) = vp_V [.null, .null, .null, .null, .null, .null, .null, .null, .int 0, .null, .int 0, .int 0, .int 0, .int 0] j := by decide +kernel
set_option maxRecDepth 20000 in
theorem df8 : ∀ j, j < 40 → defaultValue (tyX8 j) = vp_V [.int 0, .int 0, .null, .null, .null, .int 0, .null, .null, .null, .null, .int 0, .int 0, .int 0, .null, .null, .int 0, .null, .null, .null, .int 0, .int 0, .null, .null, .null, .null, .null, .null, .int 0, .int 0, .int 0, .int 0, .null, .int 0, .int 0, .null, .int 0, .int 0, .null, .null, .null] j := by decide +kernel
def nwc : List Cond := [.methodLinkNest RX7 11 yX5_init "PapersHeld", .methodLinkNest RX7 18 yX6_init "PapersHeld", .methodLinkNest RX7 25 yX0_init "PapersHeld", .methodLinkNest RX7 32 yX3_init "PapersHeld", .methodLinkNest RX3 11 yX2_init "PapersHeld", .methodLinkNest RX3 20 yX4_init "PapersHeld", .methodLinkNest RX7 49 yX1_init "PapersHeld"]
theorem nw_ok : ∀ w ∈ nwc, w ∈ nwt := by decide +kernel
