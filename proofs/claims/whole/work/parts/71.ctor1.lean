/-! constructors that make arrays only -/
def cw5 : List Cond := [.methodLink RX5 3 objectInit, .instanceMethod objectInit, .code objectInit ⟨#[0xb1]⟩ 1 none, .arrayClass .int, .fieldLink RX5 9 "PapersHeld$Things" "kind" "[I", .fieldLink RX5 15 "PapersHeld$Things" "owner" "[I", .fieldLink RX5 18 "PapersHeld$Things" "owners" "[I"]
theorem cw5_ok : ∀ w ∈ cw5, w ∈ gwt := by decide +kernel
set_option maxHeartbeats 4000000 in
set_option maxRecDepth 100000 in
theorem n5 (l : Launch) (D : va_G) (cs : CIds) (h0 sz : Nat) : Met l yX5_init (Cond.code yX5_init cX5_init 1 none :: gwt) ({ frames := 1, cells := 3, slots := 120, locals := 12 }) (Pn D cs h0 (5, [.null, .null, .null, .int 0]) sz) (va_Qv (fun _ : Unit => True) (fun _ U => ∃ q1 q2 q3 : Nat, va_P D vwCl [(h0, .inr (5, [.ref q1, .ref q2, .ref q3, .int 0])), (q1, iA cs 40), (q2, iA cs 40), (q3, iA cs 40)] U.heap ∧ va_D (va_A [(h0, .inr (5, [.null, .null, .null, .int 0]))] sz) [(h0, .inr (5, [.ref q1, .ref q2, .ref q3, .int 0])), (q1, iA cs 40), (q2, iA cs 40), (q3, iA cs 40)]) (va_A [(h0, .inr (5, [.null, .null, .null, .int 0]))] sz)) 3 120 (va_A [(h0, .inr (5, [.null, .null, .null, .int 0]))] sz) := by
  refine Met.ofW (cc := cX5_init) (maxL := 1) (ret := none) (by decide) rfl ?_
  intro p e s m args below meth c s₁ B hml hv
  obtain ⟨rfl, hsz, hP, hK, hN, hO⟩ := hv
  have hx := B.exec
  have hb := B.bytes
  have hr := B.returns
  have hts0 := atoms_spec (ws := Cond.code yX5_init cX5_init 1 none :: gwt) B.pre
  have hts : ∀ w ∈ gwt, w.before #[Value.ref h0] s = true := fun w hw => hts0 w (List.mem_cons_of_mem _ hw)
  have hown : s.vm.findClass RX5 = some m.cls := findClass_of_methodNamed B.named
  have hlocks := B.notSynchronized
  have hin : meth.name = "<init>" := (name_of_methodNamed B.named B.method).1
  subst hsz
  have hD := (va_D_one h0 (.inr (5, [.null, .null, .null, .int 0]))).self (sz := s.heap.size)
  generalize hAe : va_A [(h0, .inr (5, [.null, .null, .null, .int 0]))] s.heap.size = A at hD ⊢
  have hA : ∀ q : Nat, s.heap.size ≤ q → A q := fun q h => by rw [← hAe]; exact Or.inr h
  have hS : va_S A s.heap s.heap [] := va_S.rf
  have hl := lv_entry ([.ref h0]) (n := 1) (Nat.le_of_ble_eq_true rfl)
  rw [lg_entry_eq]
  generalize (lg_sl ([.ref h0]) ++ List.replicate (1 - (lg_sl ([.ref h0])).length) Slot.unset).toArray = ls at hl ⊢
  have hl : lv_has ls 1 [(0, .ref h0)] := hl
  refine lv_aload_n hx hb (show decode cX5_init 0 = .ok (.aload_n 0, 1) from by decide +kernel) rfl (lv_at hl 0 rfl) ?_
  refine W.objInit hx hb hown (hts (.methodLink RX5 3 objectInit) (cw5_ok _ (List.mem_of_getElem? (i := 0) rfl))) (hts (.instanceMethod objectInit) (cw5_ok _ (List.mem_of_getElem? (i := 1) rfl))) (hts _ (cw5_ok _ (List.mem_of_getElem? (i := 2) rfl))) rfl (by rw [hml]; exact hl.1) rfl (show decode cX5_init 1 = .ok (.invokespecial 3, 3) from by decide +kernel) (Nat.le_of_ble_eq_true rfl) (Nat.le_of_ble_eq_true rfl) ?_
  refine W.eq (g2 := F0 m 4 ls []) rfl ?_
  refine lv_aload_n hx hb (show decode cX5_init 4 = .ok (.aload_n 0, 1) from by decide +kernel) rfl (lv_at hl 0 rfl) ?_
  refine lv_bipush (v := 40) hx hb (show decode cX5_init 5 = .ok (.bipush 40, 2) from by decide +kernel) (by decide) ?_
  refine va_newI hx hb (hts (.arrayClass .int) (cw5_ok _ (List.mem_of_getElem? (i := 3) rfl))) hK hP hD hS hA (n := 40) (N' := 40) (by decide) (by decide) (by decide) (Nat.le_of_ble_eq_true rfl) (Nat.le_of_ble_eq_true rfl) (show decode cX5_init 7 = .ok (.newarray .int, 2) from by decide +kernel) (fun q1 H hP hD hS => ?_)
  have hP : va_P D vwCl [(h0, .inr (5, [.null, .null, .null, .int 0])), (q1, iA cs 40)] H := hP
  have hD : va_D A [(h0, .inr (5, [.null, .null, .null, .int 0])), (q1, iA cs 40)] := hD
  refine W.widen (k := 1) (n := 40) (Nat.le_of_ble_eq_true rfl) (Nat.le_of_ble_eq_true rfl) ?_
  refine va_putF (D := D) (ci := 5) (v := .ref q1) (ty := .array .int) (C := RX5) (T := TX5) (N := 4) hx hb hts (cls_in 5 _ rfl).1 tyX5 tyX5_ok nmX5 hown hK hP hD hS 0 rfl rfl 0 (by decide) (hts (.fieldLink RX5 9 "PapersHeld$Things" "kind" "[I") (cw5_ok _ (List.mem_of_getElem? (i := 4) rfl))) (fun _ h9 => h9) rfl hin rfl (by decide +kernel) rfl rfl (Nat.le_of_ble_eq_true rfl) (show decode cX5_init 9 = .ok (.putfield 9, 3) from by decide +kernel) (fun H locs hP hD hS => ?_)
  have hP : va_P D vwCl [(h0, .inr (5, [.ref q1, .null, .null, .int 0])), (q1, iA cs 40)] H := hP
  have hD : va_D A [(h0, .inr (5, [.ref q1, .null, .null, .int 0])), (q1, iA cs 40)] := hD
  refine W.eq (g2 := F0 m 12 ls []) rfl ?_
  refine lv_aload_n hx hb (show decode cX5_init 12 = .ok (.aload_n 0, 1) from by decide +kernel) rfl (lv_at hl 0 rfl) ?_
  refine lv_bipush (v := 40) hx hb (show decode cX5_init 13 = .ok (.bipush 40, 2) from by decide +kernel) (by decide) ?_
  refine va_newI hx hb (hts (.arrayClass .int) (cw5_ok _ (List.mem_of_getElem? (i := 3) rfl))) hK hP hD hS hA (n := 40) (N' := 40) (by decide) (by decide) (by decide) (Nat.le_of_ble_eq_true rfl) (Nat.le_of_ble_eq_true rfl) (show decode cX5_init 15 = .ok (.newarray .int, 2) from by decide +kernel) (fun q2 H hP hD hS => ?_)
  have hP : va_P D vwCl [(h0, .inr (5, [.ref q1, .null, .null, .int 0])), (q1, iA cs 40), (q2, iA cs 40)] H := hP
  have hD : va_D A [(h0, .inr (5, [.ref q1, .null, .null, .int 0])), (q1, iA cs 40), (q2, iA cs 40)] := hD
  refine W.widen (k := 2) (n := 80) (Nat.le_of_ble_eq_true rfl) (Nat.le_of_ble_eq_true rfl) ?_
  refine va_putF (D := D) (ci := 5) (v := .ref q2) (ty := .array .int) (C := RX5) (T := TX5) (N := 4) hx hb hts (cls_in 5 _ rfl).1 tyX5 tyX5_ok nmX5 hown hK hP hD hS 0 rfl rfl 1 (by decide) (hts (.fieldLink RX5 15 "PapersHeld$Things" "owner" "[I") (cw5_ok _ (List.mem_of_getElem? (i := 5) rfl))) (fun _ h9 => h9) rfl hin rfl (by decide +kernel) rfl rfl (Nat.le_of_ble_eq_true rfl) (show decode cX5_init 17 = .ok (.putfield 15, 3) from by decide +kernel) (fun H locs hP hD hS => ?_)
  have hP : va_P D vwCl [(h0, .inr (5, [.ref q1, .ref q2, .null, .int 0])), (q1, iA cs 40), (q2, iA cs 40)] H := hP
  have hD : va_D A [(h0, .inr (5, [.ref q1, .ref q2, .null, .int 0])), (q1, iA cs 40), (q2, iA cs 40)] := hD
  refine W.eq (g2 := F0 m 20 ls []) rfl ?_
  refine lv_aload_n hx hb (show decode cX5_init 20 = .ok (.aload_n 0, 1) from by decide +kernel) rfl (lv_at hl 0 rfl) ?_
  refine lv_bipush (v := 40) hx hb (show decode cX5_init 21 = .ok (.bipush 40, 2) from by decide +kernel) (by decide) ?_
  refine va_newI hx hb (hts (.arrayClass .int) (cw5_ok _ (List.mem_of_getElem? (i := 3) rfl))) hK hP hD hS hA (n := 40) (N' := 40) (by decide) (by decide) (by decide) (Nat.le_of_ble_eq_true rfl) (Nat.le_of_ble_eq_true rfl) (show decode cX5_init 23 = .ok (.newarray .int, 2) from by decide +kernel) (fun q3 H hP hD hS => ?_)
  have hP : va_P D vwCl [(h0, .inr (5, [.ref q1, .ref q2, .null, .int 0])), (q1, iA cs 40), (q2, iA cs 40), (q3, iA cs 40)] H := hP
  have hD : va_D A [(h0, .inr (5, [.ref q1, .ref q2, .null, .int 0])), (q1, iA cs 40), (q2, iA cs 40), (q3, iA cs 40)] := hD
  refine W.widen (k := 3) (n := 120) (Nat.le_of_ble_eq_true rfl) (Nat.le_of_ble_eq_true rfl) ?_
  refine va_putF (D := D) (ci := 5) (v := .ref q3) (ty := .array .int) (C := RX5) (T := TX5) (N := 4) hx hb hts (cls_in 5 _ rfl).1 tyX5 tyX5_ok nmX5 hown hK hP hD hS 0 rfl rfl 2 (by decide) (hts (.fieldLink RX5 18 "PapersHeld$Things" "owners" "[I") (cw5_ok _ (List.mem_of_getElem? (i := 6) rfl))) (fun _ h9 => h9) rfl hin rfl (by decide +kernel) rfl rfl (Nat.le_of_ble_eq_true rfl) (show decode cX5_init 25 = .ok (.putfield 18, 3) from by decide +kernel) (fun H locs hP hD hS => ?_)
  have hP : va_P D vwCl [(h0, .inr (5, [.ref q1, .ref q2, .ref q3, .int 0])), (q1, iA cs 40), (q2, iA cs 40), (q3, iA cs 40)] H := hP
  have hD : va_D A [(h0, .inr (5, [.ref q1, .ref q2, .ref q3, .int 0])), (q1, iA cs 40), (q2, iA cs 40), (q3, iA cs 40)] := hD
  refine W.eq (g2 := F0 m 28 ls []) rfl ?_
  refine W.widen (k := 3) (n := 120) (Nat.le_of_ble_eq_true rfl) (Nat.le_of_ble_eq_true rfl) ?_
  exact W.vret hx hb hr (fun t ht hW => ⟨⟨(), rfl, trivial, q1, q2, q3, by rw [ht]; exact hP, hD⟩, hS.F ht⟩) hS.2.2 (show decode cX5_init 28 = .ok (.return_, 1) from by decide +kernel)
def cw6 : List Cond := [.methodLink RX6 3 objectInit, .instanceMethod objectInit, .code objectInit ⟨#[0xb1]⟩ 1 none, .arrayClass .int, .fieldLink RX6 9 "PapersHeld$Versions" "thing" "[I", .fieldLink RX6 15 "PapersHeld$Versions" "words" "[I", .fieldLink RX6 18 "PapersHeld$Versions" "day" "[I", .fieldLink RX6 21 "PapersHeld$Versions" "copies" "[I", .fieldLink RX6 24 "PapersHeld$Versions" "fitting" "[I", .fieldLink RX6 27 "PapersHeld$Versions" "backups" "[I"]
theorem cw6_ok : ∀ w ∈ cw6, w ∈ gwt := by decide +kernel
set_option maxHeartbeats 4000000 in
set_option maxRecDepth 100000 in
theorem n6 (l : Launch) (D : va_G) (cs : CIds) (h0 sz : Nat) : Met l yX6_init (Cond.code yX6_init cX6_init 1 none :: gwt) ({ frames := 1, cells := 6, slots := 720, locals := 12 }) (Pn D cs h0 (6, [.null, .null, .null, .null, .null, .null, .int 0]) sz) (va_Qv (fun _ : Unit => True) (fun _ U => ∃ q1 q2 q3 q4 q5 q6 : Nat, va_P D vwCl [(h0, .inr (6, [.ref q1, .ref q2, .ref q3, .ref q4, .ref q5, .ref q6, .int 0])), (q1, iA cs 120), (q2, iA cs 120), (q3, iA cs 120), (q4, iA cs 120), (q5, iA cs 120), (q6, iA cs 120)] U.heap ∧ va_D (va_A [(h0, .inr (6, [.null, .null, .null, .null, .null, .null, .int 0]))] sz) [(h0, .inr (6, [.ref q1, .ref q2, .ref q3, .ref q4, .ref q5, .ref q6, .int 0])), (q1, iA cs 120), (q2, iA cs 120), (q3, iA cs 120), (q4, iA cs 120), (q5, iA cs 120), (q6, iA cs 120)]) (va_A [(h0, .inr (6, [.null, .null, .null, .null, .null, .null, .int 0]))] sz)) 6 720 (va_A [(h0, .inr (6, [.null, .null, .null, .null, .null, .null, .int 0]))] sz) := by
  refine Met.ofW (cc := cX6_init) (maxL := 1) (ret := none) (by decide) rfl ?_
  intro p e s m args below meth c s₁ B hml hv
  obtain ⟨rfl, hsz, hP, hK, hN, hO⟩ := hv
  have hx := B.exec
  have hb := B.bytes
  have hr := B.returns
  have hts0 := atoms_spec (ws := Cond.code yX6_init cX6_init 1 none :: gwt) B.pre
  have hts : ∀ w ∈ gwt, w.before #[Value.ref h0] s = true := fun w hw => hts0 w (List.mem_cons_of_mem _ hw)
  have hown : s.vm.findClass RX6 = some m.cls := findClass_of_methodNamed B.named
  have hlocks := B.notSynchronized
  have hin : meth.name = "<init>" := (name_of_methodNamed B.named B.method).1
  subst hsz
  have hD := (va_D_one h0 (.inr (6, [.null, .null, .null, .null, .null, .null, .int 0]))).self (sz := s.heap.size)
  generalize hAe : va_A [(h0, .inr (6, [.null, .null, .null, .null, .null, .null, .int 0]))] s.heap.size = A at hD ⊢
  have hA : ∀ q : Nat, s.heap.size ≤ q → A q := fun q h => by rw [← hAe]; exact Or.inr h
  have hS : va_S A s.heap s.heap [] := va_S.rf
  have hl := lv_entry ([.ref h0]) (n := 1) (Nat.le_of_ble_eq_true rfl)
  rw [lg_entry_eq]
  generalize (lg_sl ([.ref h0]) ++ List.replicate (1 - (lg_sl ([.ref h0])).length) Slot.unset).toArray = ls at hl ⊢
  have hl : lv_has ls 1 [(0, .ref h0)] := hl
  refine lv_aload_n hx hb (show decode cX6_init 0 = .ok (.aload_n 0, 1) from by decide +kernel) rfl (lv_at hl 0 rfl) ?_
  refine W.objInit hx hb hown (hts (.methodLink RX6 3 objectInit) (cw6_ok _ (List.mem_of_getElem? (i := 0) rfl))) (hts (.instanceMethod objectInit) (cw6_ok _ (List.mem_of_getElem? (i := 1) rfl))) (hts _ (cw6_ok _ (List.mem_of_getElem? (i := 2) rfl))) rfl (by rw [hml]; exact hl.1) rfl (show decode cX6_init 1 = .ok (.invokespecial 3, 3) from by decide +kernel) (Nat.le_of_ble_eq_true rfl) (Nat.le_of_ble_eq_true rfl) ?_
  refine W.eq (g2 := F0 m 4 ls []) rfl ?_
  refine lv_aload_n hx hb (show decode cX6_init 4 = .ok (.aload_n 0, 1) from by decide +kernel) rfl (lv_at hl 0 rfl) ?_
  refine lv_bipush (v := 120) hx hb (show decode cX6_init 5 = .ok (.bipush 120, 2) from by decide +kernel) (by decide) ?_
  refine va_newI hx hb (hts (.arrayClass .int) (cw6_ok _ (List.mem_of_getElem? (i := 3) rfl))) hK hP hD hS hA (n := 120) (N' := 120) (by decide) (by decide) (by decide) (Nat.le_of_ble_eq_true rfl) (Nat.le_of_ble_eq_true rfl) (show decode cX6_init 7 = .ok (.newarray .int, 2) from by decide +kernel) (fun q1 H hP hD hS => ?_)
  have hP : va_P D vwCl [(h0, .inr (6, [.null, .null, .null, .null, .null, .null, .int 0])), (q1, iA cs 120)] H := hP
  have hD : va_D A [(h0, .inr (6, [.null, .null, .null, .null, .null, .null, .int 0])), (q1, iA cs 120)] := hD
  refine W.widen (k := 1) (n := 120) (Nat.le_of_ble_eq_true rfl) (Nat.le_of_ble_eq_true rfl) ?_
  refine va_putF (D := D) (ci := 6) (v := .ref q1) (ty := .array .int) (C := RX6) (T := TX6) (N := 7) hx hb hts (cls_in 6 _ rfl).1 tyX6 tyX6_ok nmX6 hown hK hP hD hS 0 rfl rfl 0 (by decide) (hts (.fieldLink RX6 9 "PapersHeld$Versions" "thing" "[I") (cw6_ok _ (List.mem_of_getElem? (i := 4) rfl))) (fun _ h9 => h9) rfl hin rfl (by decide +kernel) rfl rfl (Nat.le_of_ble_eq_true rfl) (show decode cX6_init 9 = .ok (.putfield 9, 3) from by decide +kernel) (fun H locs hP hD hS => ?_)
  have hP : va_P D vwCl [(h0, .inr (6, [.ref q1, .null, .null, .null, .null, .null, .int 0])), (q1, iA cs 120)] H := hP
  have hD : va_D A [(h0, .inr (6, [.ref q1, .null, .null, .null, .null, .null, .int 0])), (q1, iA cs 120)] := hD
  refine W.eq (g2 := F0 m 12 ls []) rfl ?_
  refine lv_aload_n hx hb (show decode cX6_init 12 = .ok (.aload_n 0, 1) from by decide +kernel) rfl (lv_at hl 0 rfl) ?_
  refine lv_bipush (v := 120) hx hb (show decode cX6_init 13 = .ok (.bipush 120, 2) from by decide +kernel) (by decide) ?_
  refine va_newI hx hb (hts (.arrayClass .int) (cw6_ok _ (List.mem_of_getElem? (i := 3) rfl))) hK hP hD hS hA (n := 120) (N' := 120) (by decide) (by decide) (by decide) (Nat.le_of_ble_eq_true rfl) (Nat.le_of_ble_eq_true rfl) (show decode cX6_init 15 = .ok (.newarray .int, 2) from by decide +kernel) (fun q2 H hP hD hS => ?_)
  have hP : va_P D vwCl [(h0, .inr (6, [.ref q1, .null, .null, .null, .null, .null, .int 0])), (q1, iA cs 120), (q2, iA cs 120)] H := hP
  have hD : va_D A [(h0, .inr (6, [.ref q1, .null, .null, .null, .null, .null, .int 0])), (q1, iA cs 120), (q2, iA cs 120)] := hD
  refine W.widen (k := 2) (n := 240) (Nat.le_of_ble_eq_true rfl) (Nat.le_of_ble_eq_true rfl) ?_
  refine va_putF (D := D) (ci := 6) (v := .ref q2) (ty := .array .int) (C := RX6) (T := TX6) (N := 7) hx hb hts (cls_in 6 _ rfl).1 tyX6 tyX6_ok nmX6 hown hK hP hD hS 0 rfl rfl 1 (by decide) (hts (.fieldLink RX6 15 "PapersHeld$Versions" "words" "[I") (cw6_ok _ (List.mem_of_getElem? (i := 5) rfl))) (fun _ h9 => h9) rfl hin rfl (by decide +kernel) rfl rfl (Nat.le_of_ble_eq_true rfl) (show decode cX6_init 17 = .ok (.putfield 15, 3) from by decide +kernel) (fun H locs hP hD hS => ?_)
  have hP : va_P D vwCl [(h0, .inr (6, [.ref q1, .ref q2, .null, .null, .null, .null, .int 0])), (q1, iA cs 120), (q2, iA cs 120)] H := hP
  have hD : va_D A [(h0, .inr (6, [.ref q1, .ref q2, .null, .null, .null, .null, .int 0])), (q1, iA cs 120), (q2, iA cs 120)] := hD
  refine W.eq (g2 := F0 m 20 ls []) rfl ?_
  refine lv_aload_n hx hb (show decode cX6_init 20 = .ok (.aload_n 0, 1) from by decide +kernel) rfl (lv_at hl 0 rfl) ?_
  refine lv_bipush (v := 120) hx hb (show decode cX6_init 21 = .ok (.bipush 120, 2) from by decide +kernel) (by decide) ?_
  refine va_newI hx hb (hts (.arrayClass .int) (cw6_ok _ (List.mem_of_getElem? (i := 3) rfl))) hK hP hD hS hA (n := 120) (N' := 120) (by decide) (by decide) (by decide) (Nat.le_of_ble_eq_true rfl) (Nat.le_of_ble_eq_true rfl) (show decode cX6_init 23 = .ok (.newarray .int, 2) from by decide +kernel) (fun q3 H hP hD hS => ?_)
  have hP : va_P D vwCl [(h0, .inr (6, [.ref q1, .ref q2, .null, .null, .null, .null, .int 0])), (q1, iA cs 120), (q2, iA cs 120), (q3, iA cs 120)] H := hP
  have hD : va_D A [(h0, .inr (6, [.ref q1, .ref q2, .null, .null, .null, .null, .int 0])), (q1, iA cs 120), (q2, iA cs 120), (q3, iA cs 120)] := hD
  refine W.widen (k := 3) (n := 360) (Nat.le_of_ble_eq_true rfl) (Nat.le_of_ble_eq_true rfl) ?_
  refine va_putF (D := D) (ci := 6) (v := .ref q3) (ty := .array .int) (C := RX6) (T := TX6) (N := 7) hx hb hts (cls_in 6 _ rfl).1 tyX6 tyX6_ok nmX6 hown hK hP hD hS 0 rfl rfl 2 (by decide) (hts (.fieldLink RX6 18 "PapersHeld$Versions" "day" "[I") (cw6_ok _ (List.mem_of_getElem? (i := 6) rfl))) (fun _ h9 => h9) rfl hin rfl (by decide +kernel) rfl rfl (Nat.le_of_ble_eq_true rfl) (show decode cX6_init 25 = .ok (.putfield 18, 3) from by decide +kernel) (fun H locs hP hD hS => ?_)
  have hP : va_P D vwCl [(h0, .inr (6, [.ref q1, .ref q2, .ref q3, .null, .null, .null, .int 0])), (q1, iA cs 120), (q2, iA cs 120), (q3, iA cs 120)] H := hP
  have hD : va_D A [(h0, .inr (6, [.ref q1, .ref q2, .ref q3, .null, .null, .null, .int 0])), (q1, iA cs 120), (q2, iA cs 120), (q3, iA cs 120)] := hD
  refine W.eq (g2 := F0 m 28 ls []) rfl ?_
  refine lv_aload_n hx hb (show decode cX6_init 28 = .ok (.aload_n 0, 1) from by decide +kernel) rfl (lv_at hl 0 rfl) ?_
  refine lv_bipush (v := 120) hx hb (show decode cX6_init 29 = .ok (.bipush 120, 2) from by decide +kernel) (by decide) ?_
  refine va_newI hx hb (hts (.arrayClass .int) (cw6_ok _ (List.mem_of_getElem? (i := 3) rfl))) hK hP hD hS hA (n := 120) (N' := 120) (by decide) (by decide) (by decide) (Nat.le_of_ble_eq_true rfl) (Nat.le_of_ble_eq_true rfl) (show decode cX6_init 31 = .ok (.newarray .int, 2) from by decide +kernel) (fun q4 H hP hD hS => ?_)
  have hP : va_P D vwCl [(h0, .inr (6, [.ref q1, .ref q2, .ref q3, .null, .null, .null, .int 0])), (q1, iA cs 120), (q2, iA cs 120), (q3, iA cs 120), (q4, iA cs 120)] H := hP
  have hD : va_D A [(h0, .inr (6, [.ref q1, .ref q2, .ref q3, .null, .null, .null, .int 0])), (q1, iA cs 120), (q2, iA cs 120), (q3, iA cs 120), (q4, iA cs 120)] := hD
  refine W.widen (k := 4) (n := 480) (Nat.le_of_ble_eq_true rfl) (Nat.le_of_ble_eq_true rfl) ?_
  refine va_putF (D := D) (ci := 6) (v := .ref q4) (ty := .array .int) (C := RX6) (T := TX6) (N := 7) hx hb hts (cls_in 6 _ rfl).1 tyX6 tyX6_ok nmX6 hown hK hP hD hS 0 rfl rfl 3 (by decide) (hts (.fieldLink RX6 21 "PapersHeld$Versions" "copies" "[I") (cw6_ok _ (List.mem_of_getElem? (i := 7) rfl))) (fun _ h9 => h9) rfl hin rfl (by decide +kernel) rfl rfl (Nat.le_of_ble_eq_true rfl) (show decode cX6_init 33 = .ok (.putfield 21, 3) from by decide +kernel) (fun H locs hP hD hS => ?_)
  have hP : va_P D vwCl [(h0, .inr (6, [.ref q1, .ref q2, .ref q3, .ref q4, .null, .null, .int 0])), (q1, iA cs 120), (q2, iA cs 120), (q3, iA cs 120), (q4, iA cs 120)] H := hP
  have hD : va_D A [(h0, .inr (6, [.ref q1, .ref q2, .ref q3, .ref q4, .null, .null, .int 0])), (q1, iA cs 120), (q2, iA cs 120), (q3, iA cs 120), (q4, iA cs 120)] := hD
  refine W.eq (g2 := F0 m 36 ls []) rfl ?_
  refine lv_aload_n hx hb (show decode cX6_init 36 = .ok (.aload_n 0, 1) from by decide +kernel) rfl (lv_at hl 0 rfl) ?_
  refine lv_bipush (v := 120) hx hb (show decode cX6_init 37 = .ok (.bipush 120, 2) from by decide +kernel) (by decide) ?_
  refine va_newI hx hb (hts (.arrayClass .int) (cw6_ok _ (List.mem_of_getElem? (i := 3) rfl))) hK hP hD hS hA (n := 120) (N' := 120) (by decide) (by decide) (by decide) (Nat.le_of_ble_eq_true rfl) (Nat.le_of_ble_eq_true rfl) (show decode cX6_init 39 = .ok (.newarray .int, 2) from by decide +kernel) (fun q5 H hP hD hS => ?_)
  have hP : va_P D vwCl [(h0, .inr (6, [.ref q1, .ref q2, .ref q3, .ref q4, .null, .null, .int 0])), (q1, iA cs 120), (q2, iA cs 120), (q3, iA cs 120), (q4, iA cs 120), (q5, iA cs 120)] H := hP
  have hD : va_D A [(h0, .inr (6, [.ref q1, .ref q2, .ref q3, .ref q4, .null, .null, .int 0])), (q1, iA cs 120), (q2, iA cs 120), (q3, iA cs 120), (q4, iA cs 120), (q5, iA cs 120)] := hD
  refine W.widen (k := 5) (n := 600) (Nat.le_of_ble_eq_true rfl) (Nat.le_of_ble_eq_true rfl) ?_
  refine va_putF (D := D) (ci := 6) (v := .ref q5) (ty := .array .int) (C := RX6) (T := TX6) (N := 7) hx hb hts (cls_in 6 _ rfl).1 tyX6 tyX6_ok nmX6 hown hK hP hD hS 0 rfl rfl 4 (by decide) (hts (.fieldLink RX6 24 "PapersHeld$Versions" "fitting" "[I") (cw6_ok _ (List.mem_of_getElem? (i := 8) rfl))) (fun _ h9 => h9) rfl hin rfl (by decide +kernel) rfl rfl (Nat.le_of_ble_eq_true rfl) (show decode cX6_init 41 = .ok (.putfield 24, 3) from by decide +kernel) (fun H locs hP hD hS => ?_)
  have hP : va_P D vwCl [(h0, .inr (6, [.ref q1, .ref q2, .ref q3, .ref q4, .ref q5, .null, .int 0])), (q1, iA cs 120), (q2, iA cs 120), (q3, iA cs 120), (q4, iA cs 120), (q5, iA cs 120)] H := hP
  have hD : va_D A [(h0, .inr (6, [.ref q1, .ref q2, .ref q3, .ref q4, .ref q5, .null, .int 0])), (q1, iA cs 120), (q2, iA cs 120), (q3, iA cs 120), (q4, iA cs 120), (q5, iA cs 120)] := hD
  refine W.eq (g2 := F0 m 44 ls []) rfl ?_
  refine lv_aload_n hx hb (show decode cX6_init 44 = .ok (.aload_n 0, 1) from by decide +kernel) rfl (lv_at hl 0 rfl) ?_
  refine lv_bipush (v := 120) hx hb (show decode cX6_init 45 = .ok (.bipush 120, 2) from by decide +kernel) (by decide) ?_
  refine va_newI hx hb (hts (.arrayClass .int) (cw6_ok _ (List.mem_of_getElem? (i := 3) rfl))) hK hP hD hS hA (n := 120) (N' := 120) (by decide) (by decide) (by decide) (Nat.le_of_ble_eq_true rfl) (Nat.le_of_ble_eq_true rfl) (show decode cX6_init 47 = .ok (.newarray .int, 2) from by decide +kernel) (fun q6 H hP hD hS => ?_)
  have hP : va_P D vwCl [(h0, .inr (6, [.ref q1, .ref q2, .ref q3, .ref q4, .ref q5, .null, .int 0])), (q1, iA cs 120), (q2, iA cs 120), (q3, iA cs 120), (q4, iA cs 120), (q5, iA cs 120), (q6, iA cs 120)] H := hP
  have hD : va_D A [(h0, .inr (6, [.ref q1, .ref q2, .ref q3, .ref q4, .ref q5, .null, .int 0])), (q1, iA cs 120), (q2, iA cs 120), (q3, iA cs 120), (q4, iA cs 120), (q5, iA cs 120), (q6, iA cs 120)] := hD
  refine W.widen (k := 6) (n := 720) (Nat.le_of_ble_eq_true rfl) (Nat.le_of_ble_eq_true rfl) ?_
  refine va_putF (D := D) (ci := 6) (v := .ref q6) (ty := .array .int) (C := RX6) (T := TX6) (N := 7) hx hb hts (cls_in 6 _ rfl).1 tyX6 tyX6_ok nmX6 hown hK hP hD hS 0 rfl rfl 5 (by decide) (hts (.fieldLink RX6 27 "PapersHeld$Versions" "backups" "[I") (cw6_ok _ (List.mem_of_getElem? (i := 9) rfl))) (fun _ h9 => h9) rfl hin rfl (by decide +kernel) rfl rfl (Nat.le_of_ble_eq_true rfl) (show decode cX6_init 49 = .ok (.putfield 27, 3) from by decide +kernel) (fun H locs hP hD hS => ?_)
  have hP : va_P D vwCl [(h0, .inr (6, [.ref q1, .ref q2, .ref q3, .ref q4, .ref q5, .ref q6, .int 0])), (q1, iA cs 120), (q2, iA cs 120), (q3, iA cs 120), (q4, iA cs 120), (q5, iA cs 120), (q6, iA cs 120)] H := hP
  have hD : va_D A [(h0, .inr (6, [.ref q1, .ref q2, .ref q3, .ref q4, .ref q5, .ref q6, .int 0])), (q1, iA cs 120), (q2, iA cs 120), (q3, iA cs 120), (q4, iA cs 120), (q5, iA cs 120), (q6, iA cs 120)] := hD
  refine W.eq (g2 := F0 m 52 ls []) rfl ?_
  refine W.widen (k := 6) (n := 720) (Nat.le_of_ble_eq_true rfl) (Nat.le_of_ble_eq_true rfl) ?_
  exact W.vret hx hb hr (fun t ht hW => ⟨⟨(), rfl, trivial, q1, q2, q3, q4, q5, q6, by rw [ht]; exact hP, hD⟩, hS.F ht⟩) hS.2.2 (show decode cX6_init 52 = .ok (.return_, 1) from by decide +kernel)
def cw0 : List Cond := [.methodLink RX0 3 objectInit, .instanceMethod objectInit, .code objectInit ⟨#[0xb1]⟩ 1 none, .arrayClass .int, .fieldLink RX0 9 "PapersHeld$Holds" "firstDay" "[I", .fieldLink RX0 15 "PapersHeld$Holds" "lastEnd" "[I"]
theorem cw0_ok : ∀ w ∈ cw0, w ∈ gwt := by decide +kernel
set_option maxHeartbeats 4000000 in
set_option maxRecDepth 100000 in
theorem n0 (l : Launch) (D : va_G) (cs : CIds) (h0 sz : Nat) : Met l yX0_init (Cond.code yX0_init cX0_init 1 none :: gwt) ({ frames := 1, cells := 2, slots := 24, locals := 12 }) (Pn D cs h0 (0, [.null, .null, .int 0]) sz) (va_Qv (fun _ : Unit => True) (fun _ U => ∃ q1 q2 : Nat, va_P D vwCl [(h0, .inr (0, [.ref q1, .ref q2, .int 0])), (q1, iA cs 12), (q2, iA cs 12)] U.heap ∧ va_D (va_A [(h0, .inr (0, [.null, .null, .int 0]))] sz) [(h0, .inr (0, [.ref q1, .ref q2, .int 0])), (q1, iA cs 12), (q2, iA cs 12)]) (va_A [(h0, .inr (0, [.null, .null, .int 0]))] sz)) 2 24 (va_A [(h0, .inr (0, [.null, .null, .int 0]))] sz) := by
  refine Met.ofW (cc := cX0_init) (maxL := 1) (ret := none) (by decide) rfl ?_
  intro p e s m args below meth c s₁ B hml hv
  obtain ⟨rfl, hsz, hP, hK, hN, hO⟩ := hv
  have hx := B.exec
  have hb := B.bytes
  have hr := B.returns
  have hts0 := atoms_spec (ws := Cond.code yX0_init cX0_init 1 none :: gwt) B.pre
  have hts : ∀ w ∈ gwt, w.before #[Value.ref h0] s = true := fun w hw => hts0 w (List.mem_cons_of_mem _ hw)
  have hown : s.vm.findClass RX0 = some m.cls := findClass_of_methodNamed B.named
  have hlocks := B.notSynchronized
  have hin : meth.name = "<init>" := (name_of_methodNamed B.named B.method).1
  subst hsz
  have hD := (va_D_one h0 (.inr (0, [.null, .null, .int 0]))).self (sz := s.heap.size)
  generalize hAe : va_A [(h0, .inr (0, [.null, .null, .int 0]))] s.heap.size = A at hD ⊢
  have hA : ∀ q : Nat, s.heap.size ≤ q → A q := fun q h => by rw [← hAe]; exact Or.inr h
  have hS : va_S A s.heap s.heap [] := va_S.rf
  have hl := lv_entry ([.ref h0]) (n := 1) (Nat.le_of_ble_eq_true rfl)
  rw [lg_entry_eq]
  generalize (lg_sl ([.ref h0]) ++ List.replicate (1 - (lg_sl ([.ref h0])).length) Slot.unset).toArray = ls at hl ⊢
  have hl : lv_has ls 1 [(0, .ref h0)] := hl
  refine lv_aload_n hx hb (show decode cX0_init 0 = .ok (.aload_n 0, 1) from by decide +kernel) rfl (lv_at hl 0 rfl) ?_
  refine W.objInit hx hb hown (hts (.methodLink RX0 3 objectInit) (cw0_ok _ (List.mem_of_getElem? (i := 0) rfl))) (hts (.instanceMethod objectInit) (cw0_ok _ (List.mem_of_getElem? (i := 1) rfl))) (hts _ (cw0_ok _ (List.mem_of_getElem? (i := 2) rfl))) rfl (by rw [hml]; exact hl.1) rfl (show decode cX0_init 1 = .ok (.invokespecial 3, 3) from by decide +kernel) (Nat.le_of_ble_eq_true rfl) (Nat.le_of_ble_eq_true rfl) ?_
  refine W.eq (g2 := F0 m 4 ls []) rfl ?_
  refine lv_aload_n hx hb (show decode cX0_init 4 = .ok (.aload_n 0, 1) from by decide +kernel) rfl (lv_at hl 0 rfl) ?_
  refine lv_bipush (v := 12) hx hb (show decode cX0_init 5 = .ok (.bipush 12, 2) from by decide +kernel) (by decide) ?_
  refine va_newI hx hb (hts (.arrayClass .int) (cw0_ok _ (List.mem_of_getElem? (i := 3) rfl))) hK hP hD hS hA (n := 12) (N' := 12) (by decide) (by decide) (by decide) (Nat.le_of_ble_eq_true rfl) (Nat.le_of_ble_eq_true rfl) (show decode cX0_init 7 = .ok (.newarray .int, 2) from by decide +kernel) (fun q1 H hP hD hS => ?_)
  have hP : va_P D vwCl [(h0, .inr (0, [.null, .null, .int 0])), (q1, iA cs 12)] H := hP
  have hD : va_D A [(h0, .inr (0, [.null, .null, .int 0])), (q1, iA cs 12)] := hD
  refine W.widen (k := 1) (n := 12) (Nat.le_of_ble_eq_true rfl) (Nat.le_of_ble_eq_true rfl) ?_
  refine va_putF (D := D) (ci := 0) (v := .ref q1) (ty := .array .int) (C := RX0) (T := TX0) (N := 3) hx hb hts (cls_in 0 _ rfl).1 tyX0 tyX0_ok nmX0 hown hK hP hD hS 0 rfl rfl 0 (by decide) (hts (.fieldLink RX0 9 "PapersHeld$Holds" "firstDay" "[I") (cw0_ok _ (List.mem_of_getElem? (i := 4) rfl))) (fun _ h9 => h9) rfl hin rfl (by decide +kernel) rfl rfl (Nat.le_of_ble_eq_true rfl) (show decode cX0_init 9 = .ok (.putfield 9, 3) from by decide +kernel) (fun H locs hP hD hS => ?_)
  have hP : va_P D vwCl [(h0, .inr (0, [.ref q1, .null, .int 0])), (q1, iA cs 12)] H := hP
  have hD : va_D A [(h0, .inr (0, [.ref q1, .null, .int 0])), (q1, iA cs 12)] := hD
  refine W.eq (g2 := F0 m 12 ls []) rfl ?_
  refine lv_aload_n hx hb (show decode cX0_init 12 = .ok (.aload_n 0, 1) from by decide +kernel) rfl (lv_at hl 0 rfl) ?_
  refine lv_bipush (v := 12) hx hb (show decode cX0_init 13 = .ok (.bipush 12, 2) from by decide +kernel) (by decide) ?_
  refine va_newI hx hb (hts (.arrayClass .int) (cw0_ok _ (List.mem_of_getElem? (i := 3) rfl))) hK hP hD hS hA (n := 12) (N' := 12) (by decide) (by decide) (by decide) (Nat.le_of_ble_eq_true rfl) (Nat.le_of_ble_eq_true rfl) (show decode cX0_init 15 = .ok (.newarray .int, 2) from by decide +kernel) (fun q2 H hP hD hS => ?_)
  have hP : va_P D vwCl [(h0, .inr (0, [.ref q1, .null, .int 0])), (q1, iA cs 12), (q2, iA cs 12)] H := hP
  have hD : va_D A [(h0, .inr (0, [.ref q1, .null, .int 0])), (q1, iA cs 12), (q2, iA cs 12)] := hD
  refine W.widen (k := 2) (n := 24) (Nat.le_of_ble_eq_true rfl) (Nat.le_of_ble_eq_true rfl) ?_
  refine va_putF (D := D) (ci := 0) (v := .ref q2) (ty := .array .int) (C := RX0) (T := TX0) (N := 3) hx hb hts (cls_in 0 _ rfl).1 tyX0 tyX0_ok nmX0 hown hK hP hD hS 0 rfl rfl 1 (by decide) (hts (.fieldLink RX0 15 "PapersHeld$Holds" "lastEnd" "[I") (cw0_ok _ (List.mem_of_getElem? (i := 5) rfl))) (fun _ h9 => h9) rfl hin rfl (by decide +kernel) rfl rfl (Nat.le_of_ble_eq_true rfl) (show decode cX0_init 17 = .ok (.putfield 15, 3) from by decide +kernel) (fun H locs hP hD hS => ?_)
  have hP : va_P D vwCl [(h0, .inr (0, [.ref q1, .ref q2, .int 0])), (q1, iA cs 12), (q2, iA cs 12)] H := hP
  have hD : va_D A [(h0, .inr (0, [.ref q1, .ref q2, .int 0])), (q1, iA cs 12), (q2, iA cs 12)] := hD
  refine W.eq (g2 := F0 m 20 ls []) rfl ?_
  refine W.widen (k := 2) (n := 24) (Nat.le_of_ble_eq_true rfl) (Nat.le_of_ble_eq_true rfl) ?_
  exact W.vret hx hb hr (fun t ht hW => ⟨⟨(), rfl, trivial, q1, q2, by rw [ht]; exact hP, hD⟩, hS.F ht⟩) hS.2.2 (show decode cX0_init 20 = .ok (.return_, 1) from by decide +kernel)
def cw2 : List Cond := [.methodLink RX2 3 objectInit, .instanceMethod objectInit, .code objectInit ⟨#[0xb1]⟩ 1 none, .arrayClass .int, .fieldLink RX2 9 "PapersHeld$Tape" "bytes" "[I"]
theorem cw2_ok : ∀ w ∈ cw2, w ∈ gwt := by decide +kernel
set_option maxHeartbeats 4000000 in
set_option maxRecDepth 100000 in
theorem n2 (l : Launch) (D : va_G) (cs : CIds) (h0 sz : Nat) : Met l yX2_init (Cond.code yX2_init cX2_init 1 none :: gwt) ({ frames := 1, cells := 1, slots := 60, locals := 12 }) (Pn D cs h0 (2, [.null, .int 0]) sz) (va_Qv (fun _ : Unit => True) (fun _ U => ∃ q1 : Nat, va_P D vwCl [(h0, .inr (2, [.ref q1, .int 0])), (q1, iA cs 60)] U.heap ∧ va_D (va_A [(h0, .inr (2, [.null, .int 0]))] sz) [(h0, .inr (2, [.ref q1, .int 0])), (q1, iA cs 60)]) (va_A [(h0, .inr (2, [.null, .int 0]))] sz)) 1 60 (va_A [(h0, .inr (2, [.null, .int 0]))] sz) := by
  refine Met.ofW (cc := cX2_init) (maxL := 1) (ret := none) (by decide) rfl ?_
  intro p e s m args below meth c s₁ B hml hv
  obtain ⟨rfl, hsz, hP, hK, hN, hO⟩ := hv
  have hx := B.exec
  have hb := B.bytes
  have hr := B.returns
  have hts0 := atoms_spec (ws := Cond.code yX2_init cX2_init 1 none :: gwt) B.pre
  have hts : ∀ w ∈ gwt, w.before #[Value.ref h0] s = true := fun w hw => hts0 w (List.mem_cons_of_mem _ hw)
  have hown : s.vm.findClass RX2 = some m.cls := findClass_of_methodNamed B.named
  have hlocks := B.notSynchronized
  have hin : meth.name = "<init>" := (name_of_methodNamed B.named B.method).1
  subst hsz
  have hD := (va_D_one h0 (.inr (2, [.null, .int 0]))).self (sz := s.heap.size)
  generalize hAe : va_A [(h0, .inr (2, [.null, .int 0]))] s.heap.size = A at hD ⊢
  have hA : ∀ q : Nat, s.heap.size ≤ q → A q := fun q h => by rw [← hAe]; exact Or.inr h
  have hS : va_S A s.heap s.heap [] := va_S.rf
  have hl := lv_entry ([.ref h0]) (n := 1) (Nat.le_of_ble_eq_true rfl)
  rw [lg_entry_eq]
  generalize (lg_sl ([.ref h0]) ++ List.replicate (1 - (lg_sl ([.ref h0])).length) Slot.unset).toArray = ls at hl ⊢
  have hl : lv_has ls 1 [(0, .ref h0)] := hl
  refine lv_aload_n hx hb (show decode cX2_init 0 = .ok (.aload_n 0, 1) from by decide +kernel) rfl (lv_at hl 0 rfl) ?_
  refine W.objInit hx hb hown (hts (.methodLink RX2 3 objectInit) (cw2_ok _ (List.mem_of_getElem? (i := 0) rfl))) (hts (.instanceMethod objectInit) (cw2_ok _ (List.mem_of_getElem? (i := 1) rfl))) (hts _ (cw2_ok _ (List.mem_of_getElem? (i := 2) rfl))) rfl (by rw [hml]; exact hl.1) rfl (show decode cX2_init 1 = .ok (.invokespecial 3, 3) from by decide +kernel) (Nat.le_of_ble_eq_true rfl) (Nat.le_of_ble_eq_true rfl) ?_
  refine W.eq (g2 := F0 m 4 ls []) rfl ?_
  refine lv_aload_n hx hb (show decode cX2_init 4 = .ok (.aload_n 0, 1) from by decide +kernel) rfl (lv_at hl 0 rfl) ?_
  refine lv_bipush (v := 60) hx hb (show decode cX2_init 5 = .ok (.bipush 60, 2) from by decide +kernel) (by decide) ?_
  refine va_newI hx hb (hts (.arrayClass .int) (cw2_ok _ (List.mem_of_getElem? (i := 3) rfl))) hK hP hD hS hA (n := 60) (N' := 60) (by decide) (by decide) (by decide) (Nat.le_of_ble_eq_true rfl) (Nat.le_of_ble_eq_true rfl) (show decode cX2_init 7 = .ok (.newarray .int, 2) from by decide +kernel) (fun q1 H hP hD hS => ?_)
  have hP : va_P D vwCl [(h0, .inr (2, [.null, .int 0])), (q1, iA cs 60)] H := hP
  have hD : va_D A [(h0, .inr (2, [.null, .int 0])), (q1, iA cs 60)] := hD
  refine W.widen (k := 1) (n := 60) (Nat.le_of_ble_eq_true rfl) (Nat.le_of_ble_eq_true rfl) ?_
  refine va_putF (D := D) (ci := 2) (v := .ref q1) (ty := .array .int) (C := RX2) (T := TX2) (N := 2) hx hb hts (cls_in 2 _ rfl).1 tyX2 tyX2_ok nmX2 hown hK hP hD hS 0 rfl rfl 0 (by decide) (hts (.fieldLink RX2 9 "PapersHeld$Tape" "bytes" "[I") (cw2_ok _ (List.mem_of_getElem? (i := 4) rfl))) (fun _ h9 => h9) rfl hin rfl (by decide +kernel) rfl rfl (Nat.le_of_ble_eq_true rfl) (show decode cX2_init 9 = .ok (.putfield 9, 3) from by decide +kernel) (fun H locs hP hD hS => ?_)
  have hP : va_P D vwCl [(h0, .inr (2, [.ref q1, .int 0])), (q1, iA cs 60)] H := hP
  have hD : va_D A [(h0, .inr (2, [.ref q1, .int 0])), (q1, iA cs 60)] := hD
  refine W.eq (g2 := F0 m 12 ls []) rfl ?_
  refine W.widen (k := 1) (n := 60) (Nat.le_of_ble_eq_true rfl) (Nat.le_of_ble_eq_true rfl) ?_
  exact W.vret hx hb hr (fun t ht hW => ⟨⟨(), rfl, trivial, q1, by rw [ht]; exact hP, hD⟩, hS.F ht⟩) hS.2.2 (show decode cX2_init 12 = .ok (.return_, 1) from by decide +kernel)
def cw1 : List Cond := [.methodLink RX1 3 objectInit, .instanceMethod objectInit, .code objectInit ⟨#[0xb1]⟩ 1 none, .arrayClass .int, .fieldLink RX1 9 "PapersHeld$Records" "kept" "[I", .fieldLink RX1 15 "PapersHeld$Records" "link" "I"]
theorem cw1_ok : ∀ w ∈ cw1, w ∈ gwt := by decide +kernel
set_option maxHeartbeats 4000000 in
set_option maxRecDepth 100000 in
theorem n1 (l : Launch) (D : va_G) (cs : CIds) (h0 sz : Nat) : Met l yX1_init (Cond.code yX1_init cX1_init 1 none :: gwt) ({ frames := 1, cells := 1, slots := 6000, locals := 12 }) (Pn D cs h0 (1, [.null, .int 0, .int 0]) sz) (va_Qv (fun _ : Unit => True) (fun _ U => ∃ q1 : Nat, va_P D vwCl [(h0, .inr (1, [.ref q1, .int 0, .int 1])), (q1, iA cs 6000)] U.heap ∧ va_D (va_A [(h0, .inr (1, [.null, .int 0, .int 0]))] sz) [(h0, .inr (1, [.ref q1, .int 0, .int 1])), (q1, iA cs 6000)]) (va_A [(h0, .inr (1, [.null, .int 0, .int 0]))] sz)) 1 6000 (va_A [(h0, .inr (1, [.null, .int 0, .int 0]))] sz) := by
  refine Met.ofW (cc := cX1_init) (maxL := 1) (ret := none) (by decide) rfl ?_
  intro p e s m args below meth c s₁ B hml hv
  obtain ⟨rfl, hsz, hP, hK, hN, hO⟩ := hv
  have hx := B.exec
  have hb := B.bytes
  have hr := B.returns
  have hts0 := atoms_spec (ws := Cond.code yX1_init cX1_init 1 none :: gwt) B.pre
  have hts : ∀ w ∈ gwt, w.before #[Value.ref h0] s = true := fun w hw => hts0 w (List.mem_cons_of_mem _ hw)
  have hown : s.vm.findClass RX1 = some m.cls := findClass_of_methodNamed B.named
  have hlocks := B.notSynchronized
  have hin : meth.name = "<init>" := (name_of_methodNamed B.named B.method).1
  subst hsz
  have hD := (va_D_one h0 (.inr (1, [.null, .int 0, .int 0]))).self (sz := s.heap.size)
  generalize hAe : va_A [(h0, .inr (1, [.null, .int 0, .int 0]))] s.heap.size = A at hD ⊢
  have hA : ∀ q : Nat, s.heap.size ≤ q → A q := fun q h => by rw [← hAe]; exact Or.inr h
  have hS : va_S A s.heap s.heap [] := va_S.rf
  have hl := lv_entry ([.ref h0]) (n := 1) (Nat.le_of_ble_eq_true rfl)
  rw [lg_entry_eq]
  generalize (lg_sl ([.ref h0]) ++ List.replicate (1 - (lg_sl ([.ref h0])).length) Slot.unset).toArray = ls at hl ⊢
  have hl : lv_has ls 1 [(0, .ref h0)] := hl
  refine lv_aload_n hx hb (show decode cX1_init 0 = .ok (.aload_n 0, 1) from by decide +kernel) rfl (lv_at hl 0 rfl) ?_
  refine W.objInit hx hb hown (hts (.methodLink RX1 3 objectInit) (cw1_ok _ (List.mem_of_getElem? (i := 0) rfl))) (hts (.instanceMethod objectInit) (cw1_ok _ (List.mem_of_getElem? (i := 1) rfl))) (hts _ (cw1_ok _ (List.mem_of_getElem? (i := 2) rfl))) rfl (by rw [hml]; exact hl.1) rfl (show decode cX1_init 1 = .ok (.invokespecial 3, 3) from by decide +kernel) (Nat.le_of_ble_eq_true rfl) (Nat.le_of_ble_eq_true rfl) ?_
  refine W.eq (g2 := F0 m 4 ls []) rfl ?_
  refine lv_aload_n hx hb (show decode cX1_init 4 = .ok (.aload_n 0, 1) from by decide +kernel) rfl (lv_at hl 0 rfl) ?_
  refine lv_sipush (v := 6000) hx hb (show decode cX1_init 5 = .ok (.sipush 6000, 3) from by decide +kernel) (by decide) ?_
  refine va_newI hx hb (hts (.arrayClass .int) (cw1_ok _ (List.mem_of_getElem? (i := 3) rfl))) hK hP hD hS hA (n := 6000) (N' := 6000) (by decide) (by decide) (by decide) (Nat.le_of_ble_eq_true rfl) (Nat.le_of_ble_eq_true rfl) (show decode cX1_init 8 = .ok (.newarray .int, 2) from by decide +kernel) (fun q1 H hP hD hS => ?_)
  have hP : va_P D vwCl [(h0, .inr (1, [.null, .int 0, .int 0])), (q1, iA cs 6000)] H := hP
  have hD : va_D A [(h0, .inr (1, [.null, .int 0, .int 0])), (q1, iA cs 6000)] := hD
  refine W.widen (k := 1) (n := 6000) (Nat.le_of_ble_eq_true rfl) (Nat.le_of_ble_eq_true rfl) ?_
  refine va_putF (D := D) (ci := 1) (v := .ref q1) (ty := .array .int) (C := RX1) (T := TX1) (N := 3) hx hb hts (cls_in 1 _ rfl).1 tyX1 tyX1_ok nmX1 hown hK hP hD hS 0 rfl rfl 0 (by decide) (hts (.fieldLink RX1 9 "PapersHeld$Records" "kept" "[I") (cw1_ok _ (List.mem_of_getElem? (i := 4) rfl))) (fun _ h9 => h9) rfl hin rfl (by decide +kernel) rfl rfl (Nat.le_of_ble_eq_true rfl) (show decode cX1_init 10 = .ok (.putfield 9, 3) from by decide +kernel) (fun H locs hP hD hS => ?_)
  have hP : va_P D vwCl [(h0, .inr (1, [.ref q1, .int 0, .int 0])), (q1, iA cs 6000)] H := hP
  have hD : va_D A [(h0, .inr (1, [.ref q1, .int 0, .int 0])), (q1, iA cs 6000)] := hD
  refine W.eq (g2 := F0 m 13 ls []) rfl ?_
  refine lv_aload_n hx hb (show decode cX1_init 13 = .ok (.aload_n 0, 1) from by decide +kernel) rfl (lv_at hl 0 rfl) ?_
  refine lv_iconst (v := 1) hx hb (show decode cX1_init 14 = .ok (.iconst 1, 1) from by decide +kernel) (by decide) ?_
  refine va_put (D := D) (ci := 1) (v := .int 1) (ty := .int) (C := RX1) (T := TX1) (N := 3) hx hb hts (cls_in 1 _ rfl).1 tyX1 tyX1_ok nmX1 hown hK hP hD hS 0 rfl rfl 2 (by decide) (hts (.fieldLink RX1 15 "PapersHeld$Records" "link" "I") (cw1_ok _ (List.mem_of_getElem? (i := 5) rfl))) (fun _ h9 => h9) rfl (by decide +kernel) rfl rfl (Nat.le_of_ble_eq_true rfl) (show decode cX1_init 15 = .ok (.putfield 15, 3) from by decide +kernel) (fun H locs hP hD hS => ?_)
  have hP : va_P D vwCl [(h0, .inr (1, [.ref q1, .int 0, .int 1])), (q1, iA cs 6000)] H := hP
  have hD : va_D A [(h0, .inr (1, [.ref q1, .int 0, .int 1])), (q1, iA cs 6000)] := hD
  refine W.eq (g2 := F0 m 18 ls []) rfl ?_
  refine W.widen (k := 1) (n := 6000) (Nat.le_of_ble_eq_true rfl) (Nat.le_of_ble_eq_true rfl) ?_
  exact W.vret hx hb hr (fun t ht hW => ⟨⟨(), rfl, trivial, q1, by rw [ht]; exact hP, hD⟩, hS.F ht⟩) hS.2.2 (show decode cX1_init 18 = .ok (.return_, 1) from by decide +kernel)
