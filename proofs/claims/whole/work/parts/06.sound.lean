section VS
variable {p : Program} {l : Launch} {e : Env} {R : Room} {s : State} {m : MethodId} {args : Array Value} {below : List Frame} {meth : Method} {c : Code} {cells slots : Nat} {Qs : State → Prop} {D : va_G} {cs : CIds} {A : Nat → Prop} {ad : Nat → Nat} {H0 : Heap} {oc nL Ln : Nat} {cc : ByteArray}
theorem Fr.set1 {μ : Mem} {L : Lc} {H H1 : Heap} {locs locs1 : List Loc} {ls : Array Slot} {k j : Nat} {x : Int32} {sh : Shp} {el : va_E} (h : Fr s D cs A ad H0 nL Ln μ L H locs ls) (hs : shp[k]? = some sh) (he : wce cs ad (mset μ k j x) k sh = el) (hP : va_P D vwCl ((wld cs ad μ).set k (ad k, el)) H1) (hD : va_D A ((wld cs ad μ).set k (ad k, el))) (hS : va_S A H0 H1 locs1) : Fr s D cs A ad H0 nL Ln (mset μ k j x) L H1 locs1 ls := by
  rw [wld_set hs (fun a ha => mset_ne a ha) he] at hP hD
  refine ⟨hP, hD, hS, h.2.2.2.1, fun hl => ?_⟩
  rw [mset_ne 63 (fun q => shp_lt hs q.symm)]
  exact h.2.2.2.2 hl
theorem jp_go {k : Nat → Prop} {P : Nat → Prop} {pc : Nat} {off : Int} (h : jp k pc off) (hk : ∀ q, k q → P q) : ∃ t : Nat, (pc : Int) + off = (t : Int) ∧ P t := ⟨((pc : Int) + off).toNat, by have := h.1; omega, hk _ h.2⟩
theorem vsw_go {k : Nat → Prop} {pc : Nat} {x : Int32} : ∀ (os : List Int) (lo : Int), vsw k pc x lo os → ∀ j : Nat, ∀ o, os[j]? = some o → x.toInt = lo + j → jp k pc o
  | [], _, _, j, o, h, _ => by simp at h
  | o :: os, lo, hv, 0, o', h, hx => by
    simp at h
    subst h
    exact hv.1 (by omega)
  | o :: os, lo, hv, j + 1, o', h, hx => vsw_go os (lo + 1) hv.2 j o' (by simpa using h) (by omega)
theorem vlk_go {k : Nat → Prop} {pc : Nat} {x : Int32} {d : Int} : ∀ (ps : List (Int × Int)), vlk k pc x d ps → jp k pc (Op.lookupswitch.offset ps d x.toInt)
  | [], h => by simpa [Op.lookupswitch.offset, vlk] using h
  | q :: r, h => by
    obtain ⟨a, o⟩ := q
    rw [Op.lookupswitch.offset_cons]
    by_cases e : x.toInt = a
    · rw [if_pos (by first | exact e | exact e.symm)]
      exact h.1 e
    · rw [if_neg (by first | exact e | exact fun z => e z.symm)]
      exact vlk_go r (h.2 e)
abbrev WkX (p : Program) (l : Launch) (e : Env) (R : Room) (s : State) (m : MethodId) (args : Array Value) (below : List Frame) (meth : Method) (c : Code) (cells slots : Nat) (Qs : State → Prop) (D : va_G) (cs : CIds) (A : Nat → Prop) (ad : Nat → Nat) (H0 : Heap) (nL Ln : Nat) : Mem → Nat → Lc → List Vl → Prop := fun μ pc L st => Wk p l e R s m args below meth c cells slots Qs D cs A ad H0 nL Ln μ pc L st
theorem lv_icm (hexec : p.tables.exec = Jvm.exec) (hb : c.code = cc) {H : Heap} {locs : List Loc} {pc : Nat} {ls : Array Slot} {rest : List Value} {x y : Int32} {off : Int} {tgt : Nat} {d : Jvm.ClassFile.Cond} (hdg : decode cc pc = .ok (.if_icmp d off, 3)) (ht : (pc : Int) + off = (tgt : Int))
    (kt : icm d x y → W p l e R s m args below meth c H locs cells slots Qs (F0 m tgt ls rest)) (kf : ¬ icm d x y → W p l e R s m args below meth c H locs cells slots Qs (F0 m (pc + 3) ls rest)) : W p l e R s m args below meth c H locs cells slots Qs (F0 m pc ls (.int y :: .int x :: rest)) := by
  cases d with
  | eq => exact lv_icmp_eq hexec hb hdg ht kt kf
  | ne => exact lv_icmp_ne hexec hb hdg ht kt (fun h => kf (fun n => n h))
  | lt => exact lv_icmp_lt hexec hb hdg ht kt kf
  | ge => exact lv_icmp_ge hexec hb hdg ht kt kf
  | gt => exact lv_icmp_gt hexec hb hdg ht kt kf
  | le => exact lv_icmp_le hexec hb hdg ht kt kf
theorem lv_ifc (hexec : p.tables.exec = Jvm.exec) (hb : c.code = cc) {H : Heap} {locs : List Loc} {pc : Nat} {ls : Array Slot} {rest : List Value} {x : Int32} {off : Int} {tgt : Nat} {d : Jvm.ClassFile.Cond} (hdg : decode cc pc = .ok (.ifCond d off, 3)) (ht : (pc : Int) + off = (tgt : Int))
    (kt : icm d x 0 → W p l e R s m args below meth c H locs cells slots Qs (F0 m tgt ls rest)) (kf : ¬ icm d x 0 → W p l e R s m args below meth c H locs cells slots Qs (F0 m (pc + 3) ls rest)) : W p l e R s m args below meth c H locs cells slots Qs (F0 m pc ls (.int x :: rest)) := by
  cases d with
  | eq => exact lv_if_eq hexec hb hdg ht kt kf
  | ne => exact lv_if_ne hexec hb hdg ht kt (fun h => kf (fun n => n h))
  | lt => exact lv_if_lt hexec hb hdg ht kt kf
  | ge => exact lv_if_ge hexec hb hdg ht kt kf
  | gt => exact lv_if_gt hexec hb hdg ht kt kf
  | le => exact lv_if_le hexec hb hdg ht kt kf
set_option maxHeartbeats 4000000 in
theorem vx_sound (hC : Cx oc nL cc p s m args c D cs) {ret : Option FieldType} {k K : Mem → Nat → Lc → List Vl → Prop} {Q : Option Vl → Mem → Prop}
    (hk : ∀ μ pc L st, k μ pc L st → Wk p l e R s m args below meth c cells slots Qs D cs A ad H0 nL Ln μ pc L st)
    (hK : ∀ μ pc L st, K μ pc L st → Wk p l e R s m args below meth c cells slots Qs D cs A ad H0 nL Ln μ pc L st)
    (hQi : ∀ x μ pc L, decode cc pc = .ok (.ireturn, 1) → (ret = some .int ∨ (ret = some .boolean ∧ (x = 0 ∨ x = 1))) → Q (some (.inl x)) μ → Wk p l e R s m args below meth c cells slots Qs D cs A ad H0 nL Ln μ pc L [.inl x])
    (hQv : ∀ μ pc L, decode cc pc = .ok (.return_, 1) → ret = none → Q none μ → Wk p l e R s m args below meth c cells slots Qs D cs A ad H0 nL Ln μ pc L [])
    {i : Instr} {len : Nat} {μ : Mem} {pc : Nat} {L : Lc} {st : List Vl} (hd : decode cc pc = .ok (i, len)) (h : vx oc ret Ln k K Q i len μ pc L st) : Wk p l e R s m args below meth c cells slots Qs D cs A ad H0 nL Ln μ pc L st := by
  obtain ⟨hx, hb, hml, hown, hts, hnw, hKn⟩ := id hC
  intro H locs ls hF
  have hF' := hF
  obtain ⟨hP, hD, hS, hl, hX⟩ := hF'
  cases i with
  | iconst n =>
    obtain ⟨rfl, h⟩ := h
    exact lv_iconst hx hb hd rfl (hk _ _ _ _ h H locs ls hF)
  | bipush n =>
    obtain ⟨rfl, h⟩ := h
    exact lv_bipush hx hb hd rfl (hk _ _ _ _ h H locs ls hF)
  | sipush n =>
    obtain ⟨rfl, h⟩ := h
    exact lv_sipush hx hb hd rfl (hk _ _ _ _ h H locs ls hF)
  | ldc idx =>
    obtain ⟨rfl, h⟩ := h
    split at h
    · rename_i v hv
      exact lv_ldc hx hb hown (hts _ (kcf_spec hv)) hd (hk _ _ _ _ h H locs ls hF)
    · exact h.elim
  | iload_n n =>
    obtain ⟨rfl, h⟩ := h
    split at h
    · rename_i x hg
      exact lv_iload_n hx hb hd rfl (hl.2.2.2 _ _ (getL_spec hg)) (hk _ _ _ _ h H locs ls hF)
    · exact h.elim
  | iload n =>
    obtain ⟨rfl, h⟩ := h
    split at h
    · rename_i x hg
      exact lv_iload hx hb hd (hl.2.2.2 _ _ (getL_spec hg)) (hk _ _ _ _ h H locs ls hF)
    · exact h.elim
  | aload_n n =>
    obtain ⟨rfl, h⟩ := h
    split at h
    · rename_i x hg
      exact lv_aload_n hx hb hd rfl (hl.2.2.2 _ _ (getL_spec hg)) (hk _ _ _ _ h H locs ls hF)
    · exact h.elim
  | aload n =>
    obtain ⟨rfl, h⟩ := h
    split at h
    · rename_i x hg
      exact lv_aload hx hb hd (hl.2.2.2 _ _ (getL_spec hg)) (hk _ _ _ _ h H locs ls hF)
    · exact h.elim
  | istore_n n =>
    obtain ⟨rfl, h⟩ := h
    split at h
    · rename_i x r
      split at h
      · rename_i L' hs
        obtain ⟨h1, rfl⟩ := setL_spec hs
        exact lv_istore_n hx hb hd rfl hl.has (by rw [← hl.2.2.1]; exact h1) rfl (fun ls' h' => hk _ _ _ _ h H locs ls' ⟨hP, hD, hS, hl.store rfl h', hX⟩)
      · exact h.elim
    · exact h.elim
  | istore n =>
    obtain ⟨rfl, h⟩ := h
    split at h
    · rename_i x r
      split at h
      · rename_i L' hs
        obtain ⟨h1, rfl⟩ := setL_spec hs
        exact lv_istore hx hb hd hl.has (by rw [← hl.2.2.1]; exact h1) rfl (fun ls' h' => hk _ _ _ _ h H locs ls' ⟨hP, hD, hS, hl.store rfl h', hX⟩)
      · exact h.elim
    · exact h.elim
  | iinc n d =>
    obtain ⟨rfl, h⟩ := h
    split at h
    · rename_i x hg
      split at h
      · rename_i L' hs
        obtain ⟨h1, rfl⟩ := setL_spec hs
        obtain ⟨k0, hk0⟩ := List.getElem?_of_mem (prs_mem (ad := ad) (q := (n, .int x)).mpr ⟨_, getL_spec hg, rfl⟩)
        exact lv_iinc hx hb hd hl.has hk0 rfl (by rw [← hl.2.2.1]; exact h1) rfl (fun ls' h' => hk _ _ _ _ h H locs ls' ⟨hP, hD, hS, hl.store rfl h', hX⟩)
      · exact h.elim
    · exact h.elim
  | iadd =>
    obtain ⟨rfl, h⟩ := h
    split at h
    · exact lv_iadd hx hb hd (hk _ _ _ _ h H locs ls hF)
    · exact h.elim
  | isub =>
    obtain ⟨rfl, h⟩ := h
    split at h
    · exact lv_isub hx hb hd (hk _ _ _ _ h H locs ls hF)
    · exact h.elim
  | imul =>
    obtain ⟨rfl, h⟩ := h
    split at h
    · exact lv_imul hx hb hd (hk _ _ _ _ h H locs ls hF)
    · exact h.elim
  | iand =>
    obtain ⟨rfl, h⟩ := h
    split at h
    · exact lv_iand hx hb hd (hk _ _ _ _ h H locs ls hF)
    · exact h.elim
  | ior =>
    obtain ⟨rfl, h⟩ := h
    split at h
    · exact lv_ior hx hb hd (hk _ _ _ _ h H locs ls hF)
    · exact h.elim
  | ixor =>
    obtain ⟨rfl, h⟩ := h
    split at h
    · exact lv_ixor hx hb hd (hk _ _ _ _ h H locs ls hF)
    · exact h.elim
  | ishl =>
    obtain ⟨rfl, h⟩ := h
    split at h
    · exact lv_ishl hx hb hd (hk _ _ _ _ h H locs ls hF)
    · exact h.elim
  | ishr =>
    obtain ⟨rfl, h⟩ := h
    split at h
    · exact lv_ishr hx hb hd (hk _ _ _ _ h H locs ls hF)
    · exact h.elim
  | iushr =>
    obtain ⟨rfl, h⟩ := h
    split at h
    · exact lv_iushr hx hb hd rfl (hk _ _ _ _ h H locs ls hF)
    · exact h.elim
  | dup =>
    obtain ⟨rfl, h⟩ := h
    split at h
    · exact lv_dup hx hb hd (cv_cat ad _) (hk _ _ _ _ h H locs ls hF)
    · exact h.elim
  | dup2 =>
    obtain ⟨rfl, h⟩ := h
    split at h
    · exact lv_dup2_11 hx hb hd (cv_cat ad _) (cv_cat ad _) (hk _ _ _ _ h H locs ls hF)
    · exact h.elim
  | goto off =>
    obtain ⟨rfl, h⟩ := h
    obtain ⟨t, h1, h2⟩ := jp_go h (fun q hq => hk _ _ _ _ hq H locs ls hF)
    exact lv_goto hx hb hd h1 h2
  | if_icmp d off =>
    obtain ⟨rfl, h0, h⟩ := h
    split at h
    · exact lv_icm (tgt := ((pc : Int) + off).toNat) hx hb hd (by omega) (fun hc => hk _ _ _ _ (h.1 hc) H locs ls hF) (fun hc => hk _ _ _ _ (h.2 hc) H locs ls hF)
    · exact h.elim
  | ifCond d off =>
    obtain ⟨rfl, h0, h⟩ := h
    split at h
    · exact lv_ifc (tgt := ((pc : Int) + off).toNat) hx hb hd (by omega) (fun hc => hk _ _ _ _ (h.1 hc) H locs ls hF) (fun hc => hk _ _ _ _ (h.2 hc) H locs ls hF)
    · exact h.elim
  | tableswitch d lo hi offs =>
    unfold vx at h
    dsimp only at h
    split at h
    · rename_i x r
      obtain ⟨h0, h1, h2⟩ := h
      by_cases hc : x.toInt < lo ∨ hi < x.toInt
      · obtain ⟨t, h3, h4⟩ := jp_go (h2 hc) (fun q hq => hk _ _ _ _ hq H locs ls hF)
        exact lv_tableOut hx hb hd hc h3 h4
      · have hj : (x.toInt - lo).toNat < offs.toList.length := by omega
        obtain ⟨o, ho⟩ : ∃ o, offs.toList[(x.toInt - lo).toNat]? = some o := ⟨_, List.getElem?_eq_getElem hj⟩
        obtain ⟨t, h3, h4⟩ := jp_go (vsw_go _ _ h1 _ _ ho (by omega)) (fun q hq => hk _ _ _ _ hq H locs ls hF)
        exact lv_tableIn hx hb hd (by omega) (by omega) (by simpa using ho) h3 h4
    · exact h.elim
  | lookupswitch d ps =>
    unfold vx at h
    dsimp only at h
    split at h
    · rename_i x r
      obtain ⟨t, h3, h4⟩ := jp_go (vlk_go _ h.2) (fun q hq => hk _ _ _ _ hq H locs ls hF)
      exact lv_lookup hx hb hd h.1 rfl h3 h4
    · exact h.elim
  | getfield idx =>
    obtain ⟨rfl, h⟩ := h
    split at h
    · rename_i a r
      split at h
      · rename_i ci j hr
        split at h
        · rename_i v hv
          obtain ⟨q, hq, hj, hlk⟩ := rsf_spec hr
          obtain ⟨sl, hs, o, ho, hvo⟩ := fvl_spec hv
          obtain ⟨hin, -⟩ := cls_in ci q hq
          refine va_get (D := D) (cl := vwCl) (tys := wty cs) (ws := wld cs ad μ) (Ts := gwt) hx hb hts hin hown hKn hP a (wld_at hs) hq j hj (hts _ hlk) (fun _ z => z) (v := cv ad v) ?_ hd (hk _ _ _ _ h H locs ls hF)
          show (wfs ad μ a sl)[j]? = _
          unfold wfs
          rw [List.getElem?_mapIdx, ho, hvo]
          cases o <;> rfl
        · exact h.elim
      · exact h.elim
    · exact h.elim
  | putfield idx =>
    obtain ⟨rfl, h⟩ := h
    split at h
    · rename_i x a r
      split at h
      · rename_i ci j hr
        split at h
        · rename_i x0 hv
          split at h
          · rename_i b hm
            obtain ⟨hz, h⟩ := h
            obtain ⟨q, hq, hj, hlk⟩ := rsf_spec hr
            obtain ⟨sl, hs, o, ho, hov⟩ := fvl_spec hv
            have ho' : sl[j]? = some none := by
              cases o with
              | none => exact ho
              | some t => cases hov
            obtain ⟨hin, ty0, hty, hnm⟩ := cls_in ci q hq
            obtain ⟨hfin, hpd⟩ := mff_spec hq hm
            have hnf : narrow (if b then FieldType.boolean else FieldType.int) (.int x) = .int x ∧ fits (if b then FieldType.boolean else FieldType.int) (.int x) = true := by
              cases b with
              | true => exact vp_nar_z x (hz rfl)
              | false => exact ⟨rfl, rfl⟩
            refine va_put (D := D) (cl := vwCl) (tys := wty cs) (ws := wld cs ad μ) (Ts := gwt) hx hb hts hin ty0 hty hnm hown hKn hP hD hS a (wld_at hs) hq j hj (hts _ hlk) (fun _ z => z) hfin hpd hnf.1 hnf.2 ?_ hd (fun H1 locs1 hP1 hD1 hS1 => hk _ _ _ _ h H1 locs1 ls (hF.set1 hs ?_ hP1 hD1 hS1))
            · show j < (wfs ad μ a sl).length
              unfold wfs
              rw [List.length_mapIdx]
              exact (List.getElem?_eq_some_iff.mp ho').1
            · show (Sum.inr _ : va_E) = _
              rw [wfs_set ho']
              rfl
          · exact h.elim
        · exact h.elim
      · exact h.elim
    · exact h.elim
  | iaload =>
    obtain ⟨rfl, h⟩ := h
    split at h
    · rename_i i a r
      obtain ⟨hi, h⟩ := h
      unfold inb at hi
      split at hi
      · rename_i ha
        subst ha
        have hL : 0 < Ln := by
          rcases Nat.eq_zero_or_pos Ln with h0 | h0
          · subst h0
            exact absurd (Or.inr (Nat.zero_le _)) hi
          · exact h0
        obtain ⟨x1, x2, x3⟩ := hX hL
        exact va_sld hx hb x1 x2 x3 hS hi hd (hk _ _ _ _ h H locs ls hF)
      · split at hi
        · rename_i n hn
          exact va_iald (D := D) (cl := vwCl) (tys := wty cs) (ws := wld cs ad μ) hx hb hKn hP a 0 (cA := cs.1) (wld_at (ial_spec hn)) rfl hi hd (hk _ _ _ _ h H locs ls hF)
        · exact hi.elim
    · exact h.elim
  | iastore =>
    obtain ⟨rfl, h⟩ := h
    split at h
    · rename_i x i a r
      obtain ⟨hi, h⟩ := h
      unfold ins at hi
      split at hi
      · rename_i n hn
        refine va_iast (D := D) (cl := vwCl) (tys := wty cs) (ws := wld cs ad μ) hx hb hKn hP hD hS a 0 (cA := cs.1) (wld_at (ial_spec hn)) rfl hi hd (fun H1 locs1 hP1 hD1 hS1 => hk _ _ _ _ h H1 locs1 ls (hF.set1 (ial_spec hn) ?_ hP1 hD1 hS1))
        show (Sum.inl _ : va_E) = _
        rw [mset_row]
        rfl
      · exact hi.elim
    · exact h.elim
  | baload =>
    obtain ⟨rfl, h⟩ := h
    split at h
    · rename_i i a r
      obtain ⟨hi, h⟩ := h
      unfold zin at hi
      split at hi
      · rename_i n hn
        exact va_zald (D := D) (cl := vwCl) (tys := wty cs) (ws := wld cs ad μ) hx hb hKn hP a 1 (cA := cs.2.1) (wld_at (zal_spec hn)) rfl hi hd (hk _ _ _ _ h H locs ls hF)
      · exact hi.elim
    · exact h.elim
  | bastore =>
    obtain ⟨rfl, h⟩ := h
    split at h
    · rename_i x i a r
      obtain ⟨hi, h⟩ := h
      unfold zin at hi
      split at hi
      · rename_i n hn
        refine va_zast (D := D) (cl := vwCl) (tys := wty cs) (ws := wld cs ad μ) hx hb hKn hP hD hS a 1 (cA := cs.2.1) (wld_at (zal_spec hn)) rfl hi hd (fun H1 locs1 hP1 hD1 hS1 => hk _ _ _ _ h H1 locs1 ls (hF.set1 (zal_spec hn) ?_ hP1 hD1 hS1))
        show (Sum.inl _ : va_E) = _
        rw [mset_row]
        rfl
      · exact hi.elim
    · exact h.elim
  | aaload =>
    obtain ⟨rfl, h⟩ := h
    split at h
    · rename_i i a r
      obtain ⟨hi, h⟩ := h
      unfold rin at hi
      split at hi
      · rename_i ts hn
        have hlt : i.toNatClampNeg < ts.length := Nat.not_le.mp fun q => hi (Or.inr q)
        have hr : cv ad (.inr (rtg a i.toNatClampNeg)) = va_rf ((ts[i.toNatClampNeg]?).map ad) := by
          simp only [rtg, hn, List.getElem?_eq_getElem hlt, List.getD_eq_getElem?_getD]
          rfl
        have hh := hk _ _ _ _ h H locs ls hF
        rw [List.map_cons, hr] at hh
        have ha := hP a _ (wld_at (ral_spec hn))
        exact W.aald (v := va_rf ((ts[i.toNatClampNeg]?).map ad)) (ty := .array .int) hx hb ha ((hKn.2 2 _ rfl).1 ts.length (fun j => va_rf ((ts[j]?).map ad))) rfl (fun q => by cases q) (by show ¬ (i < 0 ∨ (arrV _ _ _).slots.size ≤ _); rw [arrV_size]; exact hi) (by show (arrV _ _ _).slots[_]? = _; rw [arrV_read _ _ hlt]) rfl rfl hd hh
      · exact hi.elim
    · exact h.elim
  | arraylength =>
    obtain ⟨rfl, hL, h⟩ := h
    split at h
    · rename_i a r
      obtain ⟨rfl, h⟩ := h
      obtain ⟨x1, x2, x3⟩ := hX hL
      exact va_slen hx hb x1 x2 x3 hS hd (hk _ _ _ _ h H locs ls hF)
    · exact h.elim
  | ireturn =>
    obtain ⟨rfl, h⟩ := h
    split at h
    · exact hQi _ _ _ _ hd h.1 h.2 H locs ls hF
    · exact h.elim
  | return_ =>
    obtain ⟨rfl, hr, h⟩ := h
    split at h
    · exact hQv _ _ _ hd hr h H locs ls hF
    · exact h.elim
  | invokevirtual idx => exact hK _ _ _ _ h H locs ls hF
  | invokestatic idx => exact hK _ _ _ _ h H locs ls hF
  | _ => exact False.elim h
end VS
