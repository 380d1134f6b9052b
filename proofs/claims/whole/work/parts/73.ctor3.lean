/-! texts, their reader -/
/-- the tables' word of t[][] -/
def va_AOA (t : FieldType) (U : State) : Prop := (Cond.arrayOver (.array t)).before #[] U = true
theorem va_AOA.use {t : FieldType} {A : Array Value} {U : State} (h : va_AOA t U) : (Cond.arrayOver (.array t)).before A U = true := h
/-! ===== BEGIN new T[n][m]: the outer array a place, the inner ones among the pooled ===== -/
/-- f, but v at every address of l -/
def vr_up {α : Type} (f : Nat → α) (l : List Nat) (v : α) : Nat → α := fun a => if a ∈ l then v else f a
theorem vr_up_in {α : Type} {f : Nat → α} {l : List Nat} {v : α} {a : Nat} (h : a ∈ l) : vr_up f l v a = v := if_pos h
theorem vr_up_ne {α : Type} {f : Nat → α} {l : List Nat} {v : α} {a : Nat} (h : a ∉ l) : vr_up f l v a = f a := if_neg h
theorem vr_rows {L l : List Nat} {f : Nat → va_E} {e : va_E} (h : ∀ a, a ∈ l → a ∉ L) : va_pl L f ++ l.map (fun a => (a, e)) = va_pl (L ++ l) (vr_up f l e) := by
  unfold va_pl
  rw [List.map_append]
  congr 1
  · apply List.map_congr_left
    intro a ha
    rw [vr_up_ne (fun q => h a q ha)]
  · apply List.map_congr_left
    intro a ha
    rw [vr_up_in ha]
theorem vr_lay {X rows : va_W} {x : Nat × va_E} {pl : va_W} {D : va_G} {cl : List vw_C} {H : Heap} (hP : va_P D cl (((X ++ pl) ++ [x]) ++ rows) H) : va_P D cl ((X ++ [x]) ++ (pl ++ rows)) H := by
  rw [List.append_assoc (X ++ pl)] at hP
  have h := va_P.swap hP
  rw [← List.append_assoc X] at h
  have h2 := va_P.swap h
  rw [List.append_assoc (X ++ [x])] at h2
  exact h2
theorem vr_layD {X rows : va_W} {x : Nat × va_E} {pl : va_W} {A : Nat → Prop} (hD : va_D A (((X ++ pl) ++ [x]) ++ rows)) : va_D A ((X ++ [x]) ++ (pl ++ rows)) := by
  rw [List.append_assoc (X ++ pl)] at hD
  have h := va_D.swap hD
  rw [← List.append_assoc X] at h
  have h2 := va_D.swap h
  rw [List.append_assoc (X ++ [x])] at h2
  exact h2
theorem vr_outer (c : ClassId) (N h0 : Nat) : ∀ i : Nat, Jvm.Free.Multi.outerC c N h0 i = arrV c N (fun j => va_rf (if j < i then some (h0 + 1 + j) else none))
  | 0 => by
    show ({ cls := c, slots := Array.replicate N .null, vm := .none } : Cell) = _
    rw [arrV_new]
    refine congrArg (arrV c N) (funext fun j => ?_)
    simp [va_rf]
  | i + 1 => by
    show (Jvm.Free.Multi.outerC c N h0 i).setSlot i (.ref (h0 + 1 + i)) = _
    rw [vr_outer c N h0 i, arrV_store]
    refine congrArg (arrV c N) (funext fun j => ?_)
    by_cases e : j = i
    · subst e
      simp [updV, va_rf]
    · by_cases h : j < i
      · simp [updV, e, h, Nat.lt_succ_of_lt h]
      · simp [updV, e, h, show ¬ j < i + 1 by omega]
section VGM
variable {p : Program} {l : Launch} {e : Env} {R : Room} {s : State} {m : MethodId} {args : Array Value} {below : List Frame} {meth : Method} {c : Code} {H : Heap} {locs : List Loc} {cells slots : Nat} {Q : State → Prop}
variable {cc : ByteArray} {pc : Nat} {ls : Array Slot} {rest : List Value} {D : va_G} {cl : List vw_C} {A : Nat → Prop} {a : Nat} {tys : List (ClassId × FieldType)} {ws : va_W} {H0 : Heap}
theorem va_mna {X : va_W} {L : List Nat} {f : Nat → va_E} {cc : ByteArray} (hexec : p.tables.exec = Jvm.exec) (hb : c.code = cc) {own : String} {index : Nat} {ty : FieldType} {cy : ClassId} (hown : s.vm.findClass own = some m.cls) (hclink : (Cond.classLink own index ("[" ++ (FieldType.array ty).toString)).before args s = true) (hover : va_AOA ty s) (harr : (Cond.arrayClass ty).before args s = true) (hcy : s.vm.findClass (FieldType.array ty).toString = some cy)
    (hK : va_K D cl tys s) (hP : va_P D cl (X ++ va_pl L f) H) (hD : va_D A (X ++ va_pl L f)) (hS : va_S A H0 H locs) (hA : ∀ q, H0.size ≤ q → A q) {n k : Int32} {N' K' : Nat} {z : vp_A} (hn : ¬ n < 0) (hk : ¬ k < 0) (hN : n.toNatClampNeg = N') (hM : k.toNatClampNeg = K')
    (hb1 : N' * 4 ≤ 536870912) (hb2 : K' * componentBytes ty ≤ 536870912) (hb3 : K' ≤ 536870912) (hdf : fits ty (defaultValue ty) = true) (hdd : (defaultValue ty).isDefault = true) (hcells : cells + (1 + N') ≤ R.cells) (hslots : slots + (N' + N' * K') ≤ R.slots) (hz : ∀ c : ClassId, Jvm.Free.Multi.innerC c K' (defaultValue ty) = vp_cell c z) (hdg : decode cc pc = .ok (.multianewarray index 2, 4))
    (kk : ∀ (q : Nat) (r : Nat → Nat) (cA : ClassId) (H1 : Heap), (∀ i j : Nat, i < N' → j < N' → r i = r j → i = j) → (∀ i : Nat, i < N' → r i ∉ L) → va_K D cl (tys ++ [(cA, .array ty)]) s →
      va_P D cl ((X ++ [(q, .inl (cA, N', .inr (.inr (.inr (.inr (fun i => if i < N' then some (r i) else none))))))]) ++ va_pl (L ++ (List.range N').map r) (vr_up f ((List.range N').map r) (.inl (cy, z)))) H1 → va_D A ((X ++ [(q, .inl (cA, N', .inr (.inr (.inr (.inr (fun i => if i < N' then some (r i) else none))))))]) ++ va_pl (L ++ (List.range N').map r) (vr_up f ((List.range N').map r) (.inl (cy, z)))) → va_S A H0 H1 locs →
      W p l e R s m args below meth c H1 locs (cells + 1 + N') (slots + N' + N' * K') Q (F0 m (pc + 4) ls (.ref q :: rest))) : W p l e R s m args below meth c H locs cells slots Q (F0 m pc ls (.int k :: .int n :: rest)) := by
  subst hN
  subst hM
  intro T hT Xs
  obtain ⟨vm₁, cA, comp, -, fA, fC, hO, -, X', step⟩ := Xs.multianewarray2F hexec hown hclink (va_AOA.use hover) harr (g := F0 m pc ls (.int k :: .int n :: rest)) rfl (by rw [hb]; exact hdg) rfl hn hk hb1 hb2 hb3 hdf hdd hcells hslots
  have ec : some cy = some comp := hcy.symm.trans fC
  cases ec
  generalize hF : Jvm.Free.Multi.fill (T.setVm vm₁) cA cy n.toNatClampNeg k.toNatClampNeg (defaultValue ty) n.toNatClampNeg = F at X' step
  have hTh : (T.setVm vm₁).heap = H := hT
  obtain ⟨f1, f2, -, -⟩ := Jvm.Free.Multi.fill_facts (T.setVm vm₁) cA cy n.toNatClampNeg k.toNatClampNeg (defaultValue ty) n.toNatClampNeg
  rw [hF, hTh] at f1 f2
  have hold : ∀ x : Nat, x < H.size → F.heap[x]? = H[x]? := fun x hx => by
    have := Jvm.Free.Multi.fill_old (T.setVm vm₁) cA cy n.toNatClampNeg k.toNatClampNeg (defaultValue ty) (a := x) (by rw [hTh]; exact hx) n.toNatClampNeg
    rw [hF, hTh] at this
    exact this
  have hrow : ∀ j : Nat, j < n.toNatClampNeg → F.heap[H.size + 1 + j]? = some (vp_cell cy z) := fun j hj => by
    have := Jvm.Free.Multi.fill_inner (T.setVm vm₁) cA cy n.toNatClampNeg k.toNatClampNeg (defaultValue ty) n.toNatClampNeg j hj
    rw [hF, hTh, hz] at this
    exact this
  have hout : Jvm.Free.Multi.outerC cA n.toNatClampNeg H.size n.toNatClampNeg = vp_cell cA (n.toNatClampNeg, .inr (.inr (.inr (.inr (fun i => if i < n.toNatClampNeg then some (H.size + 1 + i) else none))))) := by
    rw [vp_cell_q]
    exact vr_outer cA n.toNatClampNeg H.size n.toNatClampNeg
  rw [hout] at f2
  have hlt : ∀ a, a ∈ L → a < H.size := fun a ha => by
    obtain ⟨k9, hk9⟩ := va_pl_get (X := X) (f := f) ha
    exact (hP k9 _ hk9).lt
  have hnl : ∀ i : Nat, i < n.toNatClampNeg → H.size + 1 + i ∉ L := fun i _ h => by
    have := hlt _ h
    omega
  have hnm : ∀ a, a ∈ (List.range n.toNatClampNeg).map (fun i => H.size + 1 + i) → a ∉ L := fun a ha h => by
    obtain ⟨i, -, rfl⟩ := List.mem_map.mp ha
    have := hlt _ h
    omega
  have hP0 : va_P D cl (X ++ va_pl L f) F.heap := hP.kept (fun k9 x hx => hold x.1 ((hP k9 x hx).lt))
  have hP1 : va_P D cl ((X ++ va_pl L f) ++ [(H.size, .inl (cA, n.toNatClampNeg, .inr (.inr (.inr (.inr (fun i => if i < n.toNatClampNeg then some (H.size + 1 + i) else none))))))]) F.heap := hP0.app (fun k9 x hx => by
    have h0 : k9 < 1 := (List.getElem?_eq_some_iff.mp hx).1
    rw [show k9 = 0 by omega] at hx
    cases hx
    exact f2)
  have hP2 : va_P D cl (((X ++ va_pl L f) ++ [(H.size, .inl (cA, n.toNatClampNeg, .inr (.inr (.inr (.inr (fun i => if i < n.toNatClampNeg then some (H.size + 1 + i) else none))))))]) ++ ((List.range n.toNatClampNeg).map (fun i => H.size + 1 + i)).map (fun a => (a, .inl (cy, z)))) F.heap := hP1.app (fun k9 x hx => by
    obtain ⟨a, ha, rfl⟩ := List.mem_map.mp (List.mem_of_getElem? hx)
    obtain ⟨i, hi, rfl⟩ := List.mem_map.mp ha
    exact hrow i (List.mem_range.mp hi))
  have hD2 : va_D A (((X ++ va_pl L f) ++ [(H.size, .inl (cA, n.toNatClampNeg, .inr (.inr (.inr (.inr (fun i => if i < n.toNatClampNeg then some (H.size + 1 + i) else none))))))]) ++ ((List.range n.toNatClampNeg).map (fun i => H.size + 1 + i)).map (fun a => (a, .inl (cy, z)))) := by
    have hD1 := hD.push (e := .inl (cA, n.toNatClampNeg, .inr (.inr (.inr (.inr (fun i => if i < n.toNatClampNeg then some (H.size + 1 + i) else none)))))) hP rfl (hA _ hS.1)
    generalize hW1 : (X ++ va_pl L f) ++ [(H.size, .inl (cA, n.toNatClampNeg, .inr (.inr (.inr (.inr (fun i => if i < n.toNatClampNeg then some (H.size + 1 + i) else none))))))] = W1 at hD1 hP1 ⊢
    have hle : ∀ (k9 : Nat) (x : Nat × va_E), W1[k9]? = some x → x.1 ≤ H.size := fun k9 x hx => by
      rw [← hW1] at hx
      by_cases hl : k9 < (X ++ va_pl L f).length
      · rw [List.getElem?_append_left hl] at hx
        exact Nat.le_of_lt ((hP k9 x hx).lt)
      · rw [List.getElem?_append_right (by omega)] at hx
        have h0 : k9 - (X ++ va_pl L f).length < 1 := (List.getElem?_eq_some_iff.mp hx).1
        rw [show k9 - (X ++ va_pl L f).length = 0 by omega] at hx
        cases hx
        exact Nat.le_refl _
    have hr : ∀ (k9 : Nat) (x : Nat × va_E), (((List.range n.toNatClampNeg).map (fun i => H.size + 1 + i)).map (fun a => ((a, .inl (cy, z)) : Nat × va_E)))[k9]? = some x → x.1 = H.size + 1 + k9 := fun k9 x hx => by
      rw [List.getElem?_map, List.getElem?_map] at hx
      by_cases h9 : k9 < n.toNatClampNeg
      · rw [List.getElem?_range h9] at hx
        cases hx
        rfl
      · have hn0 : (List.range n.toNatClampNeg)[k9]? = none := List.getElem?_eq_none (by rw [List.length_range]; omega)
        rw [hn0] at hx
        cases hx
    refine ⟨fun i j x y hi hj hxy => ?_, fun k9 x hx => ?_⟩
    · by_cases h1 : i < W1.length <;> by_cases h2 : j < W1.length
      · rw [List.getElem?_append_left h1] at hi
        rw [List.getElem?_append_left h2] at hj
        exact hD1.1 i j x y hi hj hxy
      · rw [List.getElem?_append_left h1] at hi
        rw [List.getElem?_append_right (by omega)] at hj
        have := hle _ _ hi
        have := hr _ _ hj
        omega
      · rw [List.getElem?_append_right (by omega)] at hi
        rw [List.getElem?_append_left h2] at hj
        have := hle _ _ hj
        have := hr _ _ hi
        omega
      · rw [List.getElem?_append_right (by omega)] at hi hj
        have := hr _ _ hi
        have := hr _ _ hj
        omega
    · by_cases h1 : k9 < W1.length
      · rw [List.getElem?_append_left h1] at hx
        exact hD1.2 k9 x hx
      · rw [List.getElem?_append_right (by omega)] at hx
        have := hr _ _ hx
        exact hA _ (by have := hS.1; omega)
  have hAr : ArrOfT s cA (.array ty) := fun N9 z9 => by
    obtain ⟨-, k9, hk9, cm9, hkk9⟩ := (hO 0 0 0).1
    exact ⟨(fun q hq => by cases hq), k9, hk9, cm9, hkk9⟩
  have hK2 : va_K D cl (tys ++ [(cA, .array ty)]) s := ⟨hK.1, fun k9 x hx => by
    by_cases hl : k9 < tys.length
    · rw [List.getElem?_append_left hl] at hx
      exact hK.2 k9 x hx
    · rw [List.getElem?_append_right (by omega)] at hx
      have h0 : k9 - tys.length < 1 := (List.getElem?_eq_some_iff.mp hx).1
      rw [show k9 - tys.length = 0 by omega] at hx
      cases hx
      exact ⟨hAr, fA⟩⟩
  obtain ⟨t, a1, b1⟩ := kk H.size (fun i => H.size + 1 + i) cA F.heap (fun i j _ _ h => by have h9 : H.size + 1 + i = H.size + 1 + j := h; omega) hnl hK2 (by rw [← vr_rows hnm]; exact vr_lay hP2) (by rw [← vr_rows hnm]; exact vr_layD hD2) ⟨by rw [f1]; have := hS.1; omega, fun x h1 h2 => (hold x (Nat.lt_of_lt_of_le h1 hS.1)).trans (hS.2.1 x h1 h2), hS.2.2⟩ F rfl X'
  refine ⟨t, step t ?_, b1⟩
  have e : T.heap.size = H.size := by rw [hT]
  rw [e]
  exact a1
end VGM
/-! ===== END ===== -/
abbrev gA (cs : CIds) (ts : List Nat) : va_E := .inl (cs.2.2, ts.length, .inr (.inr (.inr (.inr (fun i => ts[i]?)))))
theorem ifs13 (r : Nat → Nat) : (fun i => if i < 13 then some (r i) else none) = (fun i => [r 0, r 1, r 2, r 3, r 4, r 5, r 6, r 7, r 8, r 9, r 10, r 11, r 12][i]?) := by
  funext i
  match i with
  | 0 => rfl
  | 1 => rfl
  | 2 => rfl
  | 3 => rfl
  | 4 => rfl
  | 5 => rfl
  | 6 => rfl
  | 7 => rfl
  | 8 => rfl
  | 9 => rfl
  | 10 => rfl
  | 11 => rfl
  | 12 => rfl
  | n + 13 => simp
section CG
variable {p : Program} {l : Launch} {e : Env} {R : Room} {s : State} {m : MethodId} {args : Array Value} {below : List Frame} {meth : Method} {c : Code} {H : Heap} {locs : List Loc} {cells slots : Nat} {Q : State → Prop} {cc : ByteArray} {pc : Nat} {ls : Array Slot} {rest : List Value} {D : va_G} {A : Nat → Prop} {ws : va_W} {H0 : Heap} {cs : CIds}
set_option maxRecDepth 20000 in
theorem va_newG (hexec : p.tables.exec = Jvm.exec) (hb : c.code = cc) (hown : s.vm.findClass RX4 = some m.cls) (hcl : (Cond.classLink RX4 9 "[[I").before args s = true) (hO : aoI s) (harr : (Cond.arrayClass .int).before args s = true) (hK : va_K D vwCl (wty cs) s) (hP : va_P D vwCl ws H) (hD : va_D A ws) (hS : va_S A H0 H locs) (hA : ∀ q, H0.size ≤ q → A q)
    (hcells : cells + 14 ≤ R.cells) (hslots : slots + 793 ≤ R.slots) (hdg : decode cc pc = .ok (.multianewarray 9 2, 4))
    (kk : ∀ (q r0 r1 r2 r3 r4 r5 r6 r7 r8 r9 r10 r11 r12 : Nat) (H1 : Heap), va_P D vwCl (ws ++ [(q, gA cs [r0, r1, r2, r3, r4, r5, r6, r7, r8, r9, r10, r11, r12]), (r0, iA cs 60), (r1, iA cs 60), (r2, iA cs 60), (r3, iA cs 60), (r4, iA cs 60), (r5, iA cs 60), (r6, iA cs 60), (r7, iA cs 60), (r8, iA cs 60), (r9, iA cs 60), (r10, iA cs 60), (r11, iA cs 60), (r12, iA cs 60)]) H1 → va_D A (ws ++ [(q, gA cs [r0, r1, r2, r3, r4, r5, r6, r7, r8, r9, r10, r11, r12]), (r0, iA cs 60), (r1, iA cs 60), (r2, iA cs 60), (r3, iA cs 60), (r4, iA cs 60), (r5, iA cs 60), (r6, iA cs 60), (r7, iA cs 60), (r8, iA cs 60), (r9, iA cs 60), (r10, iA cs 60), (r11, iA cs 60), (r12, iA cs 60)]) → va_S A H0 H1 locs → W p l e R s m args below meth c H1 locs (cells + 14) (slots + 793) Q (F0 m (pc + 4) ls (.ref q :: rest))) : W p l e R s m args below meth c H locs cells slots Q (F0 m pc ls (.int 60 :: .int 13 :: rest)) := by
  have hcy : s.vm.findClass (FieldType.array .int).toString = some cs.1 := (hK.2 0 (cs.1, .int) rfl).2
  have hst : "[" ++ (FieldType.array .int).toString = "[[I" := by decide
  have hnil : ws ++ va_pl [] (fun _ => iA cs 60) = ws := by simp [va_pl]
  refine va_mna (X := ws) (L := []) (f := fun _ => iA cs 60) (ty := .int) (cy := cs.1) (n := 13) (k := 60) (N' := 13) (K' := 60) (z := (60, .inl (fun _ => 0))) hexec hb (own := RX4) (index := 9) hown (by rw [hst]; exact hcl) hO harr hcy hK (by rw [hnil]; exact hP) (by rw [hnil]; exact hD) hS hA (by decide) (by decide) (by decide) (by decide) (by decide) (by decide) (by decide) rfl rfl hcells hslots (fun c0 => ?_) hdg (fun q r cA H1 hinj hnot hK1 hP1 hD1 hS1 => ?_)
  · show ({ cls := c0, slots := Array.replicate 60 (.int 0), vm := .none } : Cell) = _
    rw [arrV_new]
    rfl
  · have h1 : s.vm.findClass ("[" ++ (FieldType.array .int).toString) = some cA := (hK1.2 3 (cA, .array .int) rfl).2
    have h2 : s.vm.findClass ("[" ++ (FieldType.array .int).toString) = some cs.2.2 := (hK.2 2 (cs.2.2, .array .int) rfl).2
    have h3 : cA = cs.2.2 := Option.some.inj (h1.symm.trans h2)
    subst h3
    have e2 : va_pl ([] ++ (List.range 13).map r) (vr_up (fun _ => iA cs 60) ((List.range 13).map r) (iA cs 60)) = ((List.range 13).map r).map (fun a => (a, iA cs 60)) := by
      rw [List.nil_append]
      unfold va_pl
      exact List.map_congr_left (fun a ha => by rw [vr_up_in ha])
    rw [e2, ifs13 r, List.append_assoc] at hP1 hD1
    exact kk q (r 0) (r 1) (r 2) (r 3) (r 4) (r 5) (r 6) (r 7) (r 8) (r 9) (r 10) (r 11) (r 12) H1 hP1 hD1 hS1
end CG
def cw4 : List Cond := [.methodLink RX4 3 objectInit, .instanceMethod objectInit, .code objectInit ⟨#[0xb1]⟩ 1 none, .classLink RX4 9 "[[I", .arrayClass .int, .fieldLink RX4 11 "PapersHeld$Texts" "steps" "[[I", .fieldLink RX4 16 "PapersHeld$Texts" "length" "[I"]
theorem cw4_ok : ∀ w ∈ cw4, w ∈ gwt := by decide +kernel
set_option maxHeartbeats 4000000 in
set_option maxRecDepth 100000 in
theorem n4 (l : Launch) (D : va_G) (cs : CIds) (h0 sz : Nat) : Met l yX4_init (Cond.code yX4_init cX4_init 1 none :: gwt) ({ frames := 1, cells := 15, slots := 806, locals := 12 }) (Pn D cs h0 (4, [.null, .null]) sz) (va_Qv (fun _ : Unit => True) (fun _ U => ∃ q1 r0 r1 r2 r3 r4 r5 r6 r7 r8 r9 r10 r11 r12 q2 : Nat, va_P D vwCl [(h0, .inr (4, [.ref q1, .ref q2])), (q1, gA cs [r0, r1, r2, r3, r4, r5, r6, r7, r8, r9, r10, r11, r12]), (r0, iA cs 60), (r1, iA cs 60), (r2, iA cs 60), (r3, iA cs 60), (r4, iA cs 60), (r5, iA cs 60), (r6, iA cs 60), (r7, iA cs 60), (r8, iA cs 60), (r9, iA cs 60), (r10, iA cs 60), (r11, iA cs 60), (r12, iA cs 60), (q2, iA cs 13)] U.heap ∧ va_D (va_A [(h0, .inr (4, [.null, .null]))] sz) [(h0, .inr (4, [.ref q1, .ref q2])), (q1, gA cs [r0, r1, r2, r3, r4, r5, r6, r7, r8, r9, r10, r11, r12]), (r0, iA cs 60), (r1, iA cs 60), (r2, iA cs 60), (r3, iA cs 60), (r4, iA cs 60), (r5, iA cs 60), (r6, iA cs 60), (r7, iA cs 60), (r8, iA cs 60), (r9, iA cs 60), (r10, iA cs 60), (r11, iA cs 60), (r12, iA cs 60), (q2, iA cs 13)]) (va_A [(h0, .inr (4, [.null, .null]))] sz)) 15 806 (va_A [(h0, .inr (4, [.null, .null]))] sz) := by
  refine Met.ofW (cc := cX4_init) (maxL := 1) (ret := none) (by decide) rfl ?_
  intro p e s m args below meth c s₁ B hml hv
  obtain ⟨rfl, hsz, hP, hK, hN, hO⟩ := hv
  have hx := B.exec
  have hb := B.bytes
  have hr := B.returns
  have hts0 := atoms_spec (ws := Cond.code yX4_init cX4_init 1 none :: gwt) B.pre
  have hts : ∀ w ∈ gwt, w.before #[Value.ref h0] s = true := fun w hw => hts0 w (List.mem_cons_of_mem _ hw)
  have hown : s.vm.findClass RX4 = some m.cls := findClass_of_methodNamed B.named
  have hlocks := B.notSynchronized
  have hin : meth.name = "<init>" := (name_of_methodNamed B.named B.method).1
  subst hsz
  have hD := (va_D_one h0 (.inr (4, [.null, .null]))).self (sz := s.heap.size)
  generalize hAe : va_A [(h0, .inr (4, [.null, .null]))] s.heap.size = A at hD ⊢
  have hA : ∀ q : Nat, s.heap.size ≤ q → A q := fun q h => by rw [← hAe]; exact Or.inr h
  have hS : va_S A s.heap s.heap [] := va_S.rf
  have hl := lv_entry ([.ref h0]) (n := 1) (Nat.le_of_ble_eq_true rfl)
  rw [lg_entry_eq]
  generalize (lg_sl ([.ref h0]) ++ List.replicate (1 - (lg_sl ([.ref h0])).length) Slot.unset).toArray = ls at hl ⊢
  have hl : lv_has ls 1 [(0, .ref h0)] := hl
  refine lv_aload_n hx hb (show decode cX4_init 0 = .ok (.aload_n 0, 1) from by decide +kernel) rfl (lv_at hl 0 rfl) ?_
  refine W.objInit hx hb hown (hts (.methodLink RX4 3 objectInit) (cw4_ok _ (List.mem_of_getElem? (i := 0) rfl))) (hts (.instanceMethod objectInit) (cw4_ok _ (List.mem_of_getElem? (i := 1) rfl))) (hts _ (cw4_ok _ (List.mem_of_getElem? (i := 2) rfl))) rfl (by rw [hml]; exact hl.1) rfl (show decode cX4_init 1 = .ok (.invokespecial 3, 3) from by decide +kernel) (Nat.le_of_ble_eq_true rfl) (Nat.le_of_ble_eq_true rfl) ?_
  refine W.eq (g2 := F0 m 4 ls []) rfl ?_
  refine lv_aload_n hx hb (show decode cX4_init 4 = .ok (.aload_n 0, 1) from by decide +kernel) rfl (lv_at hl 0 rfl) ?_
  refine lv_bipush (v := 13) hx hb (show decode cX4_init 5 = .ok (.bipush 13, 2) from by decide +kernel) (by decide) ?_
  refine lv_bipush (v := 60) hx hb (show decode cX4_init 7 = .ok (.bipush 60, 2) from by decide +kernel) (by decide) ?_
  refine va_newG hx hb hown (hts (.classLink RX4 9 "[[I") (cw4_ok _ (List.mem_of_getElem? (i := 3) rfl))) hO (hts (.arrayClass .int) (cw4_ok _ (List.mem_of_getElem? (i := 4) rfl))) hK hP hD hS hA (Nat.le_of_ble_eq_true rfl) (Nat.le_of_ble_eq_true rfl) (show decode cX4_init 9 = .ok (.multianewarray 9 2, 4) from by decide +kernel) (fun q1 r0 r1 r2 r3 r4 r5 r6 r7 r8 r9 r10 r11 r12 H hP hD hS => ?_)
  have hP : va_P D vwCl [(h0, .inr (4, [.null, .null])), (q1, gA cs [r0, r1, r2, r3, r4, r5, r6, r7, r8, r9, r10, r11, r12]), (r0, iA cs 60), (r1, iA cs 60), (r2, iA cs 60), (r3, iA cs 60), (r4, iA cs 60), (r5, iA cs 60), (r6, iA cs 60), (r7, iA cs 60), (r8, iA cs 60), (r9, iA cs 60), (r10, iA cs 60), (r11, iA cs 60), (r12, iA cs 60)] H := hP
  have hD : va_D A [(h0, .inr (4, [.null, .null])), (q1, gA cs [r0, r1, r2, r3, r4, r5, r6, r7, r8, r9, r10, r11, r12]), (r0, iA cs 60), (r1, iA cs 60), (r2, iA cs 60), (r3, iA cs 60), (r4, iA cs 60), (r5, iA cs 60), (r6, iA cs 60), (r7, iA cs 60), (r8, iA cs 60), (r9, iA cs 60), (r10, iA cs 60), (r11, iA cs 60), (r12, iA cs 60)] := hD
  refine W.widen (k := 14) (n := 793) (Nat.le_of_ble_eq_true rfl) (Nat.le_of_ble_eq_true rfl) ?_
  refine va_putF (D := D) (ci := 4) (v := .ref q1) (ty := .array (.array .int)) (C := RX4) (T := TX4) (N := 2) hx hb hts (cls_in 4 _ rfl).1 tyX4 tyX4_ok nmX4 hown hK hP hD hS 0 rfl rfl 0 (by decide) (hts (.fieldLink RX4 11 "PapersHeld$Texts" "steps" "[[I") (cw4_ok _ (List.mem_of_getElem? (i := 5) rfl))) (fun _ h9 => h9) rfl hin rfl (by decide +kernel) rfl rfl (Nat.le_of_ble_eq_true rfl) (show decode cX4_init 13 = .ok (.putfield 11, 3) from by decide +kernel) (fun H locs hP hD hS => ?_)
  have hP : va_P D vwCl [(h0, .inr (4, [.ref q1, .null])), (q1, gA cs [r0, r1, r2, r3, r4, r5, r6, r7, r8, r9, r10, r11, r12]), (r0, iA cs 60), (r1, iA cs 60), (r2, iA cs 60), (r3, iA cs 60), (r4, iA cs 60), (r5, iA cs 60), (r6, iA cs 60), (r7, iA cs 60), (r8, iA cs 60), (r9, iA cs 60), (r10, iA cs 60), (r11, iA cs 60), (r12, iA cs 60)] H := hP
  have hD : va_D A [(h0, .inr (4, [.ref q1, .null])), (q1, gA cs [r0, r1, r2, r3, r4, r5, r6, r7, r8, r9, r10, r11, r12]), (r0, iA cs 60), (r1, iA cs 60), (r2, iA cs 60), (r3, iA cs 60), (r4, iA cs 60), (r5, iA cs 60), (r6, iA cs 60), (r7, iA cs 60), (r8, iA cs 60), (r9, iA cs 60), (r10, iA cs 60), (r11, iA cs 60), (r12, iA cs 60)] := hD
  refine W.eq (g2 := F0 m 16 ls []) rfl ?_
  refine lv_aload_n hx hb (show decode cX4_init 16 = .ok (.aload_n 0, 1) from by decide +kernel) rfl (lv_at hl 0 rfl) ?_
  refine lv_bipush (v := 13) hx hb (show decode cX4_init 17 = .ok (.bipush 13, 2) from by decide +kernel) (by decide) ?_
  refine va_newI hx hb (hts (.arrayClass .int) (cw4_ok _ (List.mem_of_getElem? (i := 4) rfl))) hK hP hD hS hA (n := 13) (N' := 13) (by decide) (by decide) (by decide) (Nat.le_of_ble_eq_true rfl) (Nat.le_of_ble_eq_true rfl) (show decode cX4_init 19 = .ok (.newarray .int, 2) from by decide +kernel) (fun q2 H hP hD hS => ?_)
  have hP : va_P D vwCl [(h0, .inr (4, [.ref q1, .null])), (q1, gA cs [r0, r1, r2, r3, r4, r5, r6, r7, r8, r9, r10, r11, r12]), (r0, iA cs 60), (r1, iA cs 60), (r2, iA cs 60), (r3, iA cs 60), (r4, iA cs 60), (r5, iA cs 60), (r6, iA cs 60), (r7, iA cs 60), (r8, iA cs 60), (r9, iA cs 60), (r10, iA cs 60), (r11, iA cs 60), (r12, iA cs 60), (q2, iA cs 13)] H := hP
  have hD : va_D A [(h0, .inr (4, [.ref q1, .null])), (q1, gA cs [r0, r1, r2, r3, r4, r5, r6, r7, r8, r9, r10, r11, r12]), (r0, iA cs 60), (r1, iA cs 60), (r2, iA cs 60), (r3, iA cs 60), (r4, iA cs 60), (r5, iA cs 60), (r6, iA cs 60), (r7, iA cs 60), (r8, iA cs 60), (r9, iA cs 60), (r10, iA cs 60), (r11, iA cs 60), (r12, iA cs 60), (q2, iA cs 13)] := hD
  refine W.widen (k := 15) (n := 806) (Nat.le_of_ble_eq_true rfl) (Nat.le_of_ble_eq_true rfl) ?_
  refine va_putF (D := D) (ci := 4) (v := .ref q2) (ty := .array .int) (C := RX4) (T := TX4) (N := 2) hx hb hts (cls_in 4 _ rfl).1 tyX4 tyX4_ok nmX4 hown hK hP hD hS 0 rfl rfl 1 (by decide) (hts (.fieldLink RX4 16 "PapersHeld$Texts" "length" "[I") (cw4_ok _ (List.mem_of_getElem? (i := 6) rfl))) (fun _ h9 => h9) rfl hin rfl (by decide +kernel) rfl rfl (Nat.le_of_ble_eq_true rfl) (show decode cX4_init 21 = .ok (.putfield 16, 3) from by decide +kernel) (fun H locs hP hD hS => ?_)
  have hP : va_P D vwCl [(h0, .inr (4, [.ref q1, .ref q2])), (q1, gA cs [r0, r1, r2, r3, r4, r5, r6, r7, r8, r9, r10, r11, r12]), (r0, iA cs 60), (r1, iA cs 60), (r2, iA cs 60), (r3, iA cs 60), (r4, iA cs 60), (r5, iA cs 60), (r6, iA cs 60), (r7, iA cs 60), (r8, iA cs 60), (r9, iA cs 60), (r10, iA cs 60), (r11, iA cs 60), (r12, iA cs 60), (q2, iA cs 13)] H := hP
  have hD : va_D A [(h0, .inr (4, [.ref q1, .ref q2])), (q1, gA cs [r0, r1, r2, r3, r4, r5, r6, r7, r8, r9, r10, r11, r12]), (r0, iA cs 60), (r1, iA cs 60), (r2, iA cs 60), (r3, iA cs 60), (r4, iA cs 60), (r5, iA cs 60), (r6, iA cs 60), (r7, iA cs 60), (r8, iA cs 60), (r9, iA cs 60), (r10, iA cs 60), (r11, iA cs 60), (r12, iA cs 60), (q2, iA cs 13)] := hD
  refine W.eq (g2 := F0 m 24 ls []) rfl ?_
  refine W.widen (k := 15) (n := 806) (Nat.le_of_ble_eq_true rfl) (Nat.le_of_ble_eq_true rfl) ?_
  exact W.vret hx hb hr (fun t ht hW => ⟨⟨(), rfl, trivial, q1, r0, r1, r2, r3, r4, r5, r6, r7, r8, r9, r10, r11, r12, q2, by rw [ht]; exact hP, hD⟩, hS.F ht⟩) hS.2.2 (show decode cX4_init 24 = .ok (.return_, 1) from by decide +kernel)
def cw3 : List Cond := [.methodLink RX3 3 objectInit, .instanceMethod objectInit, .code objectInit ⟨#[0xb1]⟩ 1 none, .classLink RX3 9 RX2, .instantiable RX2 2, .initialized RX2, .code yX2_init cX2_init 1 none, .instanceMethod yX2_init, .fieldLink RX3 12 "PapersHeld$TextReader" "tape" "LPapersHeld$Tape;", .classLink RX3 18 RX4, .instantiable RX4 2, .initialized RX4, .code yX4_init cX4_init 1 none, .instanceMethod yX4_init, .fieldLink RX3 21 "PapersHeld$TextReader" "texts" "LPapersHeld$Texts;", .arrayClass .int, .fieldLink RX3 25 "PapersHeld$TextReader" "waiting" "[I"]
theorem cw3_ok : ∀ w ∈ cw3, w ∈ gwt := by decide +kernel
set_option maxHeartbeats 4000000 in
set_option maxRecDepth 100000 in
theorem n3 (l : Launch) (D : va_G) (cs : CIds) (h0 sz : Nat) : Met l yX3_init (Cond.code yX3_init cX3_init 1 none :: gwt) ({ frames := 2, cells := 19, slots := 930, locals := 32 }) (Pn D cs h0 (3, [.null, .null, .null, .int 0, .int 0, .int 0, .int 0, .int 0, .int 0, .int 0, .int 0, .int 0]) sz) (va_Qv (fun _ : Unit => True) (fun _ U => ∃ q1 q2 q3 q4 q5 q6 q7 q8 q9 q10 q11 q12 q13 q14 q15 q16 q17 q18 q19 : Nat, va_P D vwCl [(h0, .inr (3, [.ref q1, .ref q3, .ref q19, .int 0, .int 0, .int 0, .int 0, .int 0, .int 0, .int 0, .int 0, .int 0])), (q1, .inr (2, [.ref q2, .int 0])), (q2, iA cs 60), (q3, .inr (4, [.ref q4, .ref q18])), (q4, gA cs [q5, q6, q7, q8, q9, q10, q11, q12, q13, q14, q15, q16, q17]), (q5, iA cs 60), (q6, iA cs 60), (q7, iA cs 60), (q8, iA cs 60), (q9, iA cs 60), (q10, iA cs 60), (q11, iA cs 60), (q12, iA cs 60), (q13, iA cs 60), (q14, iA cs 60), (q15, iA cs 60), (q16, iA cs 60), (q17, iA cs 60), (q18, iA cs 13), (q19, iA cs 60)] U.heap ∧ va_D (va_A [(h0, .inr (3, [.null, .null, .null, .int 0, .int 0, .int 0, .int 0, .int 0, .int 0, .int 0, .int 0, .int 0]))] sz) [(h0, .inr (3, [.ref q1, .ref q3, .ref q19, .int 0, .int 0, .int 0, .int 0, .int 0, .int 0, .int 0, .int 0, .int 0])), (q1, .inr (2, [.ref q2, .int 0])), (q2, iA cs 60), (q3, .inr (4, [.ref q4, .ref q18])), (q4, gA cs [q5, q6, q7, q8, q9, q10, q11, q12, q13, q14, q15, q16, q17]), (q5, iA cs 60), (q6, iA cs 60), (q7, iA cs 60), (q8, iA cs 60), (q9, iA cs 60), (q10, iA cs 60), (q11, iA cs 60), (q12, iA cs 60), (q13, iA cs 60), (q14, iA cs 60), (q15, iA cs 60), (q16, iA cs 60), (q17, iA cs 60), (q18, iA cs 13), (q19, iA cs 60)]) (va_A [(h0, .inr (3, [.null, .null, .null, .int 0, .int 0, .int 0, .int 0, .int 0, .int 0, .int 0, .int 0, .int 0]))] sz)) 19 930 (va_A [(h0, .inr (3, [.null, .null, .null, .int 0, .int 0, .int 0, .int 0, .int 0, .int 0, .int 0, .int 0, .int 0]))] sz) := by
  refine Met.ofW (cc := cX3_init) (maxL := 1) (ret := none) (by decide) rfl ?_
  intro p e s m args below meth c s₁ B hml hv
  obtain ⟨rfl, hsz, hP, hK, hN, hO⟩ := hv
  have hx := B.exec
  have hb := B.bytes
  have hr := B.returns
  have hts0 := atoms_spec (ws := Cond.code yX3_init cX3_init 1 none :: gwt) B.pre
  have hts : ∀ w ∈ gwt, w.before #[Value.ref h0] s = true := fun w hw => hts0 w (List.mem_cons_of_mem _ hw)
  have hown : s.vm.findClass RX3 = some m.cls := findClass_of_methodNamed B.named
  have hlocks := B.notSynchronized
  have hin : meth.name = "<init>" := (name_of_methodNamed B.named B.method).1
  subst hsz
  have hD := (va_D_one h0 (.inr (3, [.null, .null, .null, .int 0, .int 0, .int 0, .int 0, .int 0, .int 0, .int 0, .int 0, .int 0]))).self (sz := s.heap.size)
  generalize hAe : va_A [(h0, .inr (3, [.null, .null, .null, .int 0, .int 0, .int 0, .int 0, .int 0, .int 0, .int 0, .int 0, .int 0]))] s.heap.size = A at hD ⊢
  have hA : ∀ q : Nat, s.heap.size ≤ q → A q := fun q h => by rw [← hAe]; exact Or.inr h
  have hS : va_S A s.heap s.heap [] := va_S.rf
  have hl := lv_entry ([.ref h0]) (n := 1) (Nat.le_of_ble_eq_true rfl)
  rw [lg_entry_eq]
  generalize (lg_sl ([.ref h0]) ++ List.replicate (1 - (lg_sl ([.ref h0])).length) Slot.unset).toArray = ls at hl ⊢
  have hl : lv_has ls 1 [(0, .ref h0)] := hl
  refine lv_aload_n hx hb (show decode cX3_init 0 = .ok (.aload_n 0, 1) from by decide +kernel) rfl (lv_at hl 0 rfl) ?_
  refine W.objInit hx hb hown (hts (.methodLink RX3 3 objectInit) (cw3_ok _ (List.mem_of_getElem? (i := 0) rfl))) (hts (.instanceMethod objectInit) (cw3_ok _ (List.mem_of_getElem? (i := 1) rfl))) (hts _ (cw3_ok _ (List.mem_of_getElem? (i := 2) rfl))) rfl (by rw [hml]; exact hl.1) rfl (show decode cX3_init 1 = .ok (.invokespecial 3, 3) from by decide +kernel) (Nat.le_of_ble_eq_true rfl) (Nat.le_of_ble_eq_true rfl) ?_
  refine W.eq (g2 := F0 m 4 ls []) rfl ?_
  refine lv_aload_n hx hb (show decode cX3_init 4 = .ok (.aload_n 0, 1) from by decide +kernel) rfl (lv_at hl 0 rfl) ?_
  refine va_new (ci := 2) (fs := [.null, .int 0]) (C := RX2) (T := TX2) (N := 2) hx hb hts (cls_in 2 _ rfl).1 tyX2 tyX2_ok hown (hts (.classLink RX3 9 RX2) (cw3_ok _ (List.mem_of_getElem? (i := 3) rfl))) (hts (.instantiable RX2 2) (cw3_ok _ (List.mem_of_getElem? (i := 4) rfl))) (hts (.initialized RX2) (cw3_ok _ (List.mem_of_getElem? (i := 5) rfl))) hK hP hD hS hA rfl df2 (Nat.le_of_ble_eq_true rfl) (Nat.le_of_ble_eq_true rfl) (show decode cX3_init 5 = .ok (.new 9, 3) from by decide +kernel) (fun q1 H hP hD hS => ?_)
  have hP : va_P D vwCl [(h0, .inr (3, [.null, .null, .null, .int 0, .int 0, .int 0, .int 0, .int 0, .int 0, .int 0, .int 0, .int 0])), (q1, .inr (2, [.null, .int 0]))] H := hP
  have hD : va_D A [(h0, .inr (3, [.null, .null, .null, .int 0, .int 0, .int 0, .int 0, .int 0, .int 0, .int 0, .int 0, .int 0])), (q1, .inr (2, [.null, .int 0]))] := hD
  refine W.widen (k := 1) (n := 2) (Nat.le_of_ble_eq_true rfl) (Nat.le_of_ble_eq_true rfl) ?_
  refine lv_dup hx hb (show decode cX3_init 8 = .ok (.dup, 1) from by decide +kernel) rfl ?_
  have hPc := hP.sub (ws' := [(q1, .inr (2, [.null, .int 0]))]) [1] rfl
  have hFc := va_free (wc := [(q1, .inr (2, [.null, .int 0]))]) hD hS hA [1] rfl
  refine va_callv (va_runIN (host := "PapersHeld") (As := []) (rest := [.ref q1, .ref h0]) ⟨hx, hb, hml, hown, hts⟩ (n2 l D cs q1 H.size) ⟨va_cnB (bytes := cX2_init) (maxL := 1) (ret := none) 0 hts (good_gwt (cw3_ok _ (List.mem_of_getElem? (i := 6) rfl))) rfl rfl rfl (hN _ (nw_ok _ (List.mem_of_getElem? (i := 4) rfl))) (hts (.initialized RX2) (cw3_ok _ (List.mem_of_getElem? (i := 5) rfl))) (by decide +kernel) ⟨(Nat.le_of_ble_eq_true rfl), (Nat.le_of_ble_eq_true rfl)⟩, rfl, hts (.instanceMethod yX2_init) (cw3_ok _ (List.mem_of_getElem? (i := 7) rfl))⟩ ⟨Pn_blind, fun U hU hW => ⟨rfl, by rw [hU], by rw [hU]; exact hPc, va_K.moved hW.alike hK, nwt_warm hW hN, aoI_moved hW.alike hO⟩⟩ rfl rfl hl.1 rfl (lv_room (Nat.le_of_ble_eq_true rfl)) (show decode cX3_init 9 = .ok (.invokespecial 11, 3) from by decide +kernel) ⟨(Nat.le_of_ble_eq_true rfl), (Nat.le_of_ble_eq_true rfl)⟩) hS (fun q _ h => hFc q h) hFc (fun u t H1 locs ht hvm hw hB hz1 hk1 hS => ?_)
  obtain ⟨q2, hP1, hD1⟩ := hB
  rw [ht] at hP1
  obtain ⟨hP, hD⟩ := va_join (wr := [(h0, .inr (3, [.null, .null, .null, .int 0, .int 0, .int 0, .int 0, .int 0, .int 0, .int 0, .int 0, .int 0]))]) (w1 := [(q1, .inr (2, [.ref q2, .int 0])), (q2, iA cs 60)]) hP hD [1] [0] rfl rfl (by decide) (by decide) hk1 hFc hP1 hD1
  clear hPc hFc hP1 hD1 hk1 hz1
  generalize H1 = H at hP hS ⊢
  have hP : va_P D vwCl [(h0, .inr (3, [.null, .null, .null, .int 0, .int 0, .int 0, .int 0, .int 0, .int 0, .int 0, .int 0, .int 0])), (q1, .inr (2, [.ref q2, .int 0])), (q2, iA cs 60)] H := hP
  have hD : va_D A [(h0, .inr (3, [.null, .null, .null, .int 0, .int 0, .int 0, .int 0, .int 0, .int 0, .int 0, .int 0, .int 0])), (q1, .inr (2, [.ref q2, .int 0])), (q2, iA cs 60)] := hD
  refine W.widen (k := 2) (n := 62) (Nat.le_of_ble_eq_true rfl) (Nat.le_of_ble_eq_true rfl) ?_
  refine W.eq (g2 := F0 m 12 ls [.ref q1, .ref h0]) rfl ?_
  refine va_putF (D := D) (ci := 3) (v := .ref q1) (ty := .object "PapersHeld$Tape") (C := RX3) (T := TX3) (N := 12) hx hb hts (cls_in 3 _ rfl).1 tyX3 tyX3_ok nmX3 hown hK hP hD hS 0 rfl rfl 0 (by decide) (hts (.fieldLink RX3 12 "PapersHeld$TextReader" "tape" "LPapersHeld$Tape;") (cw3_ok _ (List.mem_of_getElem? (i := 8) rfl))) (fun _ h9 => h9) rfl hin rfl (by decide +kernel) rfl rfl (Nat.le_of_ble_eq_true rfl) (show decode cX3_init 12 = .ok (.putfield 12, 3) from by decide +kernel) (fun H locs hP hD hS => ?_)
  have hP : va_P D vwCl [(h0, .inr (3, [.ref q1, .null, .null, .int 0, .int 0, .int 0, .int 0, .int 0, .int 0, .int 0, .int 0, .int 0])), (q1, .inr (2, [.ref q2, .int 0])), (q2, iA cs 60)] H := hP
  have hD : va_D A [(h0, .inr (3, [.ref q1, .null, .null, .int 0, .int 0, .int 0, .int 0, .int 0, .int 0, .int 0, .int 0, .int 0])), (q1, .inr (2, [.ref q2, .int 0])), (q2, iA cs 60)] := hD
  refine W.eq (g2 := F0 m 15 ls []) rfl ?_
  refine lv_aload_n hx hb (show decode cX3_init 15 = .ok (.aload_n 0, 1) from by decide +kernel) rfl (lv_at hl 0 rfl) ?_
  refine va_new (ci := 4) (fs := [.null, .null]) (C := RX4) (T := TX4) (N := 2) hx hb hts (cls_in 4 _ rfl).1 tyX4 tyX4_ok hown (hts (.classLink RX3 18 RX4) (cw3_ok _ (List.mem_of_getElem? (i := 9) rfl))) (hts (.instantiable RX4 2) (cw3_ok _ (List.mem_of_getElem? (i := 10) rfl))) (hts (.initialized RX4) (cw3_ok _ (List.mem_of_getElem? (i := 11) rfl))) hK hP hD hS hA rfl df4 (Nat.le_of_ble_eq_true rfl) (Nat.le_of_ble_eq_true rfl) (show decode cX3_init 16 = .ok (.new 18, 3) from by decide +kernel) (fun q3 H hP hD hS => ?_)
  have hP : va_P D vwCl [(h0, .inr (3, [.ref q1, .null, .null, .int 0, .int 0, .int 0, .int 0, .int 0, .int 0, .int 0, .int 0, .int 0])), (q1, .inr (2, [.ref q2, .int 0])), (q2, iA cs 60), (q3, .inr (4, [.null, .null]))] H := hP
  have hD : va_D A [(h0, .inr (3, [.ref q1, .null, .null, .int 0, .int 0, .int 0, .int 0, .int 0, .int 0, .int 0, .int 0, .int 0])), (q1, .inr (2, [.ref q2, .int 0])), (q2, iA cs 60), (q3, .inr (4, [.null, .null]))] := hD
  refine W.widen (k := 3) (n := 64) (Nat.le_of_ble_eq_true rfl) (Nat.le_of_ble_eq_true rfl) ?_
  refine lv_dup hx hb (show decode cX3_init 19 = .ok (.dup, 1) from by decide +kernel) rfl ?_
  have hPc := hP.sub (ws' := [(q3, .inr (4, [.null, .null]))]) [3] rfl
  have hFc := va_free (wc := [(q3, .inr (4, [.null, .null]))]) hD hS hA [3] rfl
  refine va_callv (va_runIN (host := "PapersHeld") (As := []) (rest := [.ref q3, .ref h0]) ⟨hx, hb, hml, hown, hts⟩ (n4 l D cs q3 H.size) ⟨va_cnB (bytes := cX4_init) (maxL := 1) (ret := none) 0 hts (good_gwt (cw3_ok _ (List.mem_of_getElem? (i := 12) rfl))) rfl rfl rfl (hN _ (nw_ok _ (List.mem_of_getElem? (i := 5) rfl))) (hts (.initialized RX4) (cw3_ok _ (List.mem_of_getElem? (i := 11) rfl))) (by decide +kernel) ⟨(Nat.le_of_ble_eq_true rfl), (Nat.le_of_ble_eq_true rfl)⟩, rfl, hts (.instanceMethod yX4_init) (cw3_ok _ (List.mem_of_getElem? (i := 13) rfl))⟩ ⟨Pn_blind, fun U hU hW => ⟨rfl, by rw [hU], by rw [hU]; exact hPc, va_K.moved hW.alike hK, nwt_warm hW hN, aoI_moved hW.alike hO⟩⟩ rfl rfl hl.1 rfl (lv_room (Nat.le_of_ble_eq_true rfl)) (show decode cX3_init 20 = .ok (.invokespecial 20, 3) from by decide +kernel) ⟨(Nat.le_of_ble_eq_true rfl), (Nat.le_of_ble_eq_true rfl)⟩) hS (fun q _ h => hFc q h) hFc (fun u t H1 locs ht hvm hw hB hz1 hk1 hS => ?_)
  obtain ⟨q4, q5, q6, q7, q8, q9, q10, q11, q12, q13, q14, q15, q16, q17, q18, hP1, hD1⟩ := hB
  rw [ht] at hP1
  obtain ⟨hP, hD⟩ := va_join (wr := [(h0, .inr (3, [.ref q1, .null, .null, .int 0, .int 0, .int 0, .int 0, .int 0, .int 0, .int 0, .int 0, .int 0])), (q1, .inr (2, [.ref q2, .int 0])), (q2, iA cs 60)]) (w1 := [(q3, .inr (4, [.ref q4, .ref q18])), (q4, gA cs [q5, q6, q7, q8, q9, q10, q11, q12, q13, q14, q15, q16, q17]), (q5, iA cs 60), (q6, iA cs 60), (q7, iA cs 60), (q8, iA cs 60), (q9, iA cs 60), (q10, iA cs 60), (q11, iA cs 60), (q12, iA cs 60), (q13, iA cs 60), (q14, iA cs 60), (q15, iA cs 60), (q16, iA cs 60), (q17, iA cs 60), (q18, iA cs 13)]) hP hD [3] [0, 1, 2] rfl rfl (by decide) (by decide) hk1 hFc hP1 hD1
  clear hPc hFc hP1 hD1 hk1 hz1
  generalize H1 = H at hP hS ⊢
  have hP : va_P D vwCl [(h0, .inr (3, [.ref q1, .null, .null, .int 0, .int 0, .int 0, .int 0, .int 0, .int 0, .int 0, .int 0, .int 0])), (q1, .inr (2, [.ref q2, .int 0])), (q2, iA cs 60), (q3, .inr (4, [.ref q4, .ref q18])), (q4, gA cs [q5, q6, q7, q8, q9, q10, q11, q12, q13, q14, q15, q16, q17]), (q5, iA cs 60), (q6, iA cs 60), (q7, iA cs 60), (q8, iA cs 60), (q9, iA cs 60), (q10, iA cs 60), (q11, iA cs 60), (q12, iA cs 60), (q13, iA cs 60), (q14, iA cs 60), (q15, iA cs 60), (q16, iA cs 60), (q17, iA cs 60), (q18, iA cs 13)] H := hP
  have hD : va_D A [(h0, .inr (3, [.ref q1, .null, .null, .int 0, .int 0, .int 0, .int 0, .int 0, .int 0, .int 0, .int 0, .int 0])), (q1, .inr (2, [.ref q2, .int 0])), (q2, iA cs 60), (q3, .inr (4, [.ref q4, .ref q18])), (q4, gA cs [q5, q6, q7, q8, q9, q10, q11, q12, q13, q14, q15, q16, q17]), (q5, iA cs 60), (q6, iA cs 60), (q7, iA cs 60), (q8, iA cs 60), (q9, iA cs 60), (q10, iA cs 60), (q11, iA cs 60), (q12, iA cs 60), (q13, iA cs 60), (q14, iA cs 60), (q15, iA cs 60), (q16, iA cs 60), (q17, iA cs 60), (q18, iA cs 13)] := hD
  refine W.widen (k := 18) (n := 870) (Nat.le_of_ble_eq_true rfl) (Nat.le_of_ble_eq_true rfl) ?_
  refine W.eq (g2 := F0 m 23 ls [.ref q3, .ref h0]) rfl ?_
  refine va_putF (D := D) (ci := 3) (v := .ref q3) (ty := .object "PapersHeld$Texts") (C := RX3) (T := TX3) (N := 12) hx hb hts (cls_in 3 _ rfl).1 tyX3 tyX3_ok nmX3 hown hK hP hD hS 0 rfl rfl 1 (by decide) (hts (.fieldLink RX3 21 "PapersHeld$TextReader" "texts" "LPapersHeld$Texts;") (cw3_ok _ (List.mem_of_getElem? (i := 14) rfl))) (fun _ h9 => h9) rfl hin rfl (by decide +kernel) rfl rfl (Nat.le_of_ble_eq_true rfl) (show decode cX3_init 23 = .ok (.putfield 21, 3) from by decide +kernel) (fun H locs hP hD hS => ?_)
  have hP : va_P D vwCl [(h0, .inr (3, [.ref q1, .ref q3, .null, .int 0, .int 0, .int 0, .int 0, .int 0, .int 0, .int 0, .int 0, .int 0])), (q1, .inr (2, [.ref q2, .int 0])), (q2, iA cs 60), (q3, .inr (4, [.ref q4, .ref q18])), (q4, gA cs [q5, q6, q7, q8, q9, q10, q11, q12, q13, q14, q15, q16, q17]), (q5, iA cs 60), (q6, iA cs 60), (q7, iA cs 60), (q8, iA cs 60), (q9, iA cs 60), (q10, iA cs 60), (q11, iA cs 60), (q12, iA cs 60), (q13, iA cs 60), (q14, iA cs 60), (q15, iA cs 60), (q16, iA cs 60), (q17, iA cs 60), (q18, iA cs 13)] H := hP
  have hD : va_D A [(h0, .inr (3, [.ref q1, .ref q3, .null, .int 0, .int 0, .int 0, .int 0, .int 0, .int 0, .int 0, .int 0, .int 0])), (q1, .inr (2, [.ref q2, .int 0])), (q2, iA cs 60), (q3, .inr (4, [.ref q4, .ref q18])), (q4, gA cs [q5, q6, q7, q8, q9, q10, q11, q12, q13, q14, q15, q16, q17]), (q5, iA cs 60), (q6, iA cs 60), (q7, iA cs 60), (q8, iA cs 60), (q9, iA cs 60), (q10, iA cs 60), (q11, iA cs 60), (q12, iA cs 60), (q13, iA cs 60), (q14, iA cs 60), (q15, iA cs 60), (q16, iA cs 60), (q17, iA cs 60), (q18, iA cs 13)] := hD
  refine W.eq (g2 := F0 m 26 ls []) rfl ?_
  refine lv_aload_n hx hb (show decode cX3_init 26 = .ok (.aload_n 0, 1) from by decide +kernel) rfl (lv_at hl 0 rfl) ?_
  refine lv_bipush (v := 60) hx hb (show decode cX3_init 27 = .ok (.bipush 60, 2) from by decide +kernel) (by decide) ?_
  refine va_newI hx hb (hts (.arrayClass .int) (cw3_ok _ (List.mem_of_getElem? (i := 15) rfl))) hK hP hD hS hA (n := 60) (N' := 60) (by decide) (by decide) (by decide) (Nat.le_of_ble_eq_true rfl) (Nat.le_of_ble_eq_true rfl) (show decode cX3_init 29 = .ok (.newarray .int, 2) from by decide +kernel) (fun q19 H hP hD hS => ?_)
  have hP : va_P D vwCl [(h0, .inr (3, [.ref q1, .ref q3, .null, .int 0, .int 0, .int 0, .int 0, .int 0, .int 0, .int 0, .int 0, .int 0])), (q1, .inr (2, [.ref q2, .int 0])), (q2, iA cs 60), (q3, .inr (4, [.ref q4, .ref q18])), (q4, gA cs [q5, q6, q7, q8, q9, q10, q11, q12, q13, q14, q15, q16, q17]), (q5, iA cs 60), (q6, iA cs 60), (q7, iA cs 60), (q8, iA cs 60), (q9, iA cs 60), (q10, iA cs 60), (q11, iA cs 60), (q12, iA cs 60), (q13, iA cs 60), (q14, iA cs 60), (q15, iA cs 60), (q16, iA cs 60), (q17, iA cs 60), (q18, iA cs 13), (q19, iA cs 60)] H := hP
  have hD : va_D A [(h0, .inr (3, [.ref q1, .ref q3, .null, .int 0, .int 0, .int 0, .int 0, .int 0, .int 0, .int 0, .int 0, .int 0])), (q1, .inr (2, [.ref q2, .int 0])), (q2, iA cs 60), (q3, .inr (4, [.ref q4, .ref q18])), (q4, gA cs [q5, q6, q7, q8, q9, q10, q11, q12, q13, q14, q15, q16, q17]), (q5, iA cs 60), (q6, iA cs 60), (q7, iA cs 60), (q8, iA cs 60), (q9, iA cs 60), (q10, iA cs 60), (q11, iA cs 60), (q12, iA cs 60), (q13, iA cs 60), (q14, iA cs 60), (q15, iA cs 60), (q16, iA cs 60), (q17, iA cs 60), (q18, iA cs 13), (q19, iA cs 60)] := hD
  refine W.widen (k := 19) (n := 930) (Nat.le_of_ble_eq_true rfl) (Nat.le_of_ble_eq_true rfl) ?_
  refine va_putF (D := D) (ci := 3) (v := .ref q19) (ty := .array .int) (C := RX3) (T := TX3) (N := 12) hx hb hts (cls_in 3 _ rfl).1 tyX3 tyX3_ok nmX3 hown hK hP hD hS 0 rfl rfl 2 (by decide) (hts (.fieldLink RX3 25 "PapersHeld$TextReader" "waiting" "[I") (cw3_ok _ (List.mem_of_getElem? (i := 16) rfl))) (fun _ h9 => h9) rfl hin rfl (by decide +kernel) rfl rfl (Nat.le_of_ble_eq_true rfl) (show decode cX3_init 31 = .ok (.putfield 25, 3) from by decide +kernel) (fun H locs hP hD hS => ?_)
  have hP : va_P D vwCl [(h0, .inr (3, [.ref q1, .ref q3, .ref q19, .int 0, .int 0, .int 0, .int 0, .int 0, .int 0, .int 0, .int 0, .int 0])), (q1, .inr (2, [.ref q2, .int 0])), (q2, iA cs 60), (q3, .inr (4, [.ref q4, .ref q18])), (q4, gA cs [q5, q6, q7, q8, q9, q10, q11, q12, q13, q14, q15, q16, q17]), (q5, iA cs 60), (q6, iA cs 60), (q7, iA cs 60), (q8, iA cs 60), (q9, iA cs 60), (q10, iA cs 60), (q11, iA cs 60), (q12, iA cs 60), (q13, iA cs 60), (q14, iA cs 60), (q15, iA cs 60), (q16, iA cs 60), (q17, iA cs 60), (q18, iA cs 13), (q19, iA cs 60)] H := hP
  have hD : va_D A [(h0, .inr (3, [.ref q1, .ref q3, .ref q19, .int 0, .int 0, .int 0, .int 0, .int 0, .int 0, .int 0, .int 0, .int 0])), (q1, .inr (2, [.ref q2, .int 0])), (q2, iA cs 60), (q3, .inr (4, [.ref q4, .ref q18])), (q4, gA cs [q5, q6, q7, q8, q9, q10, q11, q12, q13, q14, q15, q16, q17]), (q5, iA cs 60), (q6, iA cs 60), (q7, iA cs 60), (q8, iA cs 60), (q9, iA cs 60), (q10, iA cs 60), (q11, iA cs 60), (q12, iA cs 60), (q13, iA cs 60), (q14, iA cs 60), (q15, iA cs 60), (q16, iA cs 60), (q17, iA cs 60), (q18, iA cs 13), (q19, iA cs 60)] := hD
  refine W.eq (g2 := F0 m 34 ls []) rfl ?_
  refine W.widen (k := 19) (n := 930) (Nat.le_of_ble_eq_true rfl) (Nat.le_of_ble_eq_true rfl) ?_
  exact W.vret hx hb hr (fun t ht hW => ⟨⟨(), rfl, trivial, q1, q2, q3, q4, q5, q6, q7, q8, q9, q10, q11, q12, q13, q14, q15, q16, q17, q18, q19, by rw [ht]; exact hP, hD⟩, hS.F ht⟩) hS.2.2 (show decode cX3_init 34 = .ok (.return_, 1) from by decide +kernel)
