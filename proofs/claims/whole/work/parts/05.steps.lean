/-! one instruction, over the world's picture -/
def jp (k : Nat → Prop) (pc : Nat) (off : Int) : Prop := 0 ≤ (pc : Int) + off ∧ k ((pc : Int) + off).toNat
def vsw (k : Nat → Prop) (pc : Nat) (x : Int32) : Int → List Int → Prop
  | _, [] => True
  | lo, o :: os => (x.toInt = lo → jp k pc o) ∧ vsw k pc x (lo + 1) os
def vlk (k : Nat → Prop) (pc : Nat) (x : Int32) (dflt : Int) : List (Int × Int) → Prop
  | [] => jp k pc dflt
  | q :: r => (x.toInt = q.1 → jp k pc q.2) ∧ (¬ x.toInt = q.1 → vlk k pc x dflt r)
def inb (Ln k : Nat) (i : Int32) : Prop := if k = 63 then vp_in i Ln else (match ial k with | some n => vp_in i n | none => False)
def ins (k : Nat) (i : Int32) : Prop := match ial k with | some n => vp_in i n | none => False
def zin (k : Nat) (i : Int32) : Prop := match zal k with | some n => vp_in i n | none => False
def rin (k : Nat) (i : Int32) : Prop := match ral k with | some ts => vp_in i ts.length | none => False
def rtg (k j : Nat) : Nat := match ral k with | some ts => ts.getD j 0 | none => 0
def vx (oc : Nat) (ret : Option FieldType) (Ln : Nat) (k K : Mem → Nat → Lc → List Vl → Prop) (Q : Option Vl → Mem → Prop) (i : Instr) (len : Nat) (μ : Mem) (pc : Nat) (L : Lc) (st : List Vl) : Prop := match i with
  | .iconst n => len = 1 ∧ k μ (pc + 1) L (.inl (Int32.ofInt n) :: st)
  | .bipush n => len = 2 ∧ k μ (pc + 2) L (.inl (Int8.ofInt n).toInt32 :: st)
  | .sipush n => len = 3 ∧ k μ (pc + 3) L (.inl (Int16.ofInt n).toInt32 :: st)
  | .ldc idx => len = 2 ∧ (match kcf oc idx with | some v => k μ (pc + 2) L (.inl v :: st) | none => False)
  | .iload_n n => len = 1 ∧ (match getL L n with | some (.inl x) => k μ (pc + 1) L (.inl x :: st) | _ => False)
  | .iload n => len = 2 ∧ (match getL L n with | some (.inl x) => k μ (pc + 2) L (.inl x :: st) | _ => False)
  | .aload_n n => len = 1 ∧ (match getL L n with | some (.inr x) => k μ (pc + 1) L (.inr x :: st) | _ => False)
  | .aload n => len = 2 ∧ (match getL L n with | some (.inr x) => k μ (pc + 2) L (.inr x :: st) | _ => False)
  | .istore_n n => len = 1 ∧ (match st with | .inl x :: r => (match setL L n (.inl x) with | some L' => k μ (pc + 1) L' r | none => False) | _ => False)
  | .istore n => len = 2 ∧ (match st with | .inl x :: r => (match setL L n (.inl x) with | some L' => k μ (pc + 2) L' r | none => False) | _ => False)
  | .iinc n d => len = 3 ∧ (match getL L n with | some (.inl x) => (match setL L n (.inl (x + Int32.ofInt d)) with | some L' => k μ (pc + 3) L' st | none => False) | _ => False)
  | .iadd => len = 1 ∧ (match st with | .inl y :: .inl x :: r => k μ (pc + 1) L (.inl (x + y) :: r) | _ => False)
  | .isub => len = 1 ∧ (match st with | .inl y :: .inl x :: r => k μ (pc + 1) L (.inl (x - y) :: r) | _ => False)
  | .imul => len = 1 ∧ (match st with | .inl y :: .inl x :: r => k μ (pc + 1) L (.inl (x * y) :: r) | _ => False)
  | .iand => len = 1 ∧ (match st with | .inl y :: .inl x :: r => k μ (pc + 1) L (.inl (x &&& y) :: r) | _ => False)
  | .ior => len = 1 ∧ (match st with | .inl y :: .inl x :: r => k μ (pc + 1) L (.inl (x ||| y) :: r) | _ => False)
  | .ixor => len = 1 ∧ (match st with | .inl y :: .inl x :: r => k μ (pc + 1) L (.inl (x ^^^ y) :: r) | _ => False)
  | .ishl => len = 1 ∧ (match st with | .inl y :: .inl x :: r => k μ (pc + 1) L (.inl (x <<< (y &&& 31)) :: r) | _ => False)
  | .ishr => len = 1 ∧ (match st with | .inl y :: .inl x :: r => k μ (pc + 1) L (.inl (x >>> (y &&& 31)) :: r) | _ => False)
  | .iushr => len = 1 ∧ (match st with | .inl y :: .inl x :: r => k μ (pc + 1) L (.inl (ushr x y) :: r) | _ => False)
  | .dup => len = 1 ∧ (match st with | a :: r => k μ (pc + 1) L (a :: a :: r) | _ => False)
  | .dup2 => len = 1 ∧ (match st with | a :: b :: r => k μ (pc + 1) L (a :: b :: a :: b :: r) | _ => False)
  | .goto off => len = 3 ∧ jp (fun q => k μ q L st) pc off
  | .if_icmp d off => len = 3 ∧ 0 ≤ (pc : Int) + off ∧ (match st with | .inl y :: .inl x :: r => (icm d x y → k μ ((pc : Int) + off).toNat L r) ∧ (¬ icm d x y → k μ (pc + 3) L r) | _ => False)
  | .ifCond d off => len = 3 ∧ 0 ≤ (pc : Int) + off ∧ (match st with | .inl x :: r => (icm d x 0 → k μ ((pc : Int) + off).toNat L r) ∧ (¬ icm d x 0 → k μ (pc + 3) L r) | _ => False)
  | .tableswitch d lo hi offs => (match st with | .inl x :: r => hi - lo + 1 ≤ (offs.toList.length : Int) ∧ vsw (fun q => k μ q L r) pc x lo offs.toList ∧ (x.toInt < lo ∨ hi < x.toInt → jp (fun q => k μ q L r) pc d) | _ => False)
  | .lookupswitch d ps => (match st with | .inl x :: r => (ps.toList.zip (ps.toList.drop 1)).all (fun (a, next) => a.1 < next.1) = true ∧ vlk (fun q => k μ q L r) pc x d ps.toList | _ => False)
  | .getfield idx => len = 3 ∧ (match st with | .inr a :: r => (match rsf oc idx with | some (ci, j) => (match fvl μ a ci j with | some v => k μ (pc + 3) L (v :: r) | none => False) | none => False) | _ => False)
  | .putfield idx => len = 3 ∧ (match st with | .inl x :: .inr a :: r => (match rsf oc idx with | some (ci, j) => (match fvl μ a ci j with | some (.inl _) => (match mff ci j with | some b => (b = true → x = 0 ∨ x = 1) ∧ k (mset μ a j x) (pc + 3) L r | none => False) | _ => False) | none => False) | _ => False)
  | .iaload => len = 1 ∧ (match st with | .inl i :: .inr a :: r => inb Ln a i ∧ k μ (pc + 1) L (.inl (μ a i.toNatClampNeg) :: r) | _ => False)
  | .iastore => len = 1 ∧ (match st with | .inl x :: .inl i :: .inr a :: r => ins a i ∧ k (mset μ a i.toNatClampNeg x) (pc + 1) L r | _ => False)
  | .baload => len = 1 ∧ (match st with | .inl i :: .inr a :: r => zin a i ∧ k μ (pc + 1) L (.inl (μ a i.toNatClampNeg) :: r) | _ => False)
  | .bastore => len = 1 ∧ (match st with | .inl x :: .inl i :: .inr a :: r => zin a i ∧ k (mset μ a i.toNatClampNeg (vp_nar .boolean x)) (pc + 1) L r | _ => False)
  | .aaload => len = 1 ∧ (match st with | .inl i :: .inr a :: r => rin a i ∧ k μ (pc + 1) L (.inr (rtg a i.toNatClampNeg) :: r) | _ => False)
  | .arraylength => len = 1 ∧ 0 < Ln ∧ (match st with | .inr a :: r => a = 63 ∧ k μ (pc + 1) L (.inl (Int32.ofNat Ln) :: r) | _ => False)
  | .ireturn => len = 1 ∧ (match st with | [.inl x] => (ret = some .int ∨ (ret = some .boolean ∧ (x = 0 ∨ x = 1))) ∧ Q (some (.inl x)) μ | _ => False)
  | .return_ => len = 1 ∧ ret = none ∧ (match st with | [] => Q none μ | _ => False)
  | .invokevirtual _ => K μ pc L st
  | .invokestatic _ => K μ pc L st
  | _ => False
abbrev wty (cs : CIds) : List (ClassId × FieldType) := [(cs.1, .int), (cs.2.1, .boolean), (cs.2.2, .array .int)]
def Cx (oc nL : Nat) (cc : ByteArray) (p : Program) (s : State) (m : MethodId) (args : Array Value) (c : Code) (D : va_G) (cs : CIds) : Prop :=
  p.tables.exec = Jvm.exec ∧ c.code = cc ∧ c.maxLocals = nL ∧ s.vm.findClass (ownN oc) = some m.cls ∧ (∀ w ∈ gwt, w.before args s = true) ∧ (∀ w ∈ nwt, va_Nw w s) ∧ va_K D vwCl (wty cs) s
def Fr (s : State) (D : va_G) (cs : CIds) (A : Nat → Prop) (ad : Nat → Nat) (H0 : Heap) (nL Ln : Nat) (μ : Mem) (L : Lc) (H : Heap) (locs : List Loc) (ls : Array Slot) : Prop :=
  va_P D vwCl (wld cs ad μ) H ∧ va_D A (wld cs ad μ) ∧ va_S A H0 H locs ∧ lvr ls nL ad L ∧ (0 < Ln → va_X (ad 63) Ln (μ 63) s H0 ∧ ad 63 < H0.size ∧ ¬ A (ad 63))
def Wk (p : Program) (l : Launch) (e : Env) (R : Room) (s : State) (m : MethodId) (args : Array Value) (below : List Frame) (meth : Method) (c : Code) (cells slots : Nat) (Qs : State → Prop) (D : va_G) (cs : CIds) (A : Nat → Prop) (ad : Nat → Nat) (H0 : Heap) (nL Ln : Nat) (μ : Mem) (pc : Nat) (L : Lc) (st : List Vl) : Prop :=
  ∀ (H : Heap) (locs : List Loc) (ls : Array Slot), Fr s D cs A ad H0 nL Ln μ L H locs ls → W p l e R s m args below meth c H locs cells slots Qs (F0 m pc ls (st.map (cv ad)))
theorem cls_in : ∀ (ci : Nat) (q : vw_C), vwCl[ci]? = some q → (∀ w ∈ u_ws q.1 q.2.1 q.2.2, w ∈ gwt) ∧ ∃ ty0 : Nat → FieldType, (∀ k, k < q.2.2 → parseFieldDescriptor (q.2.1 k).2.2.1 = some (ty0 k)) ∧ (∀ a, a < q.2.2 → ∀ b, b < q.2.2 → a ≠ b → (q.2.1 a).2.1 ≠ (q.2.1 b).2.1) := by
  intro ci q h
  match ci, h with
  | 0, h => cases h; exact ⟨by decide +kernel, tyX0, tyX0_ok, nmX0⟩
  | 1, h => cases h; exact ⟨by decide +kernel, tyX1, tyX1_ok, nmX1⟩
  | 2, h => cases h; exact ⟨by decide +kernel, tyX2, tyX2_ok, nmX2⟩
  | 3, h => cases h; exact ⟨by decide +kernel, tyX3, tyX3_ok, nmX3⟩
  | 4, h => cases h; exact ⟨by decide +kernel, tyX4, tyX4_ok, nmX4⟩
  | 5, h => cases h; exact ⟨by decide +kernel, tyX5, tyX5_ok, nmX5⟩
  | 6, h => cases h; exact ⟨by decide +kernel, tyX6, tyX6_ok, nmX6⟩
  | 7, h => cases h; exact ⟨by decide +kernel, tyX7, tyX7_ok, nmX7⟩
  | 8, h => cases h; exact ⟨by decide +kernel, tyX8, tyX8_ok, nmX8⟩
  | n + 9, h => simp [vwCl] at h
def lnk (oc idx ci j : Nat) : Bool := match vwCl[ci]? with
  | some q => decide (j < q.2.2) && decide (Cond.fieldLink (ownN oc) idx (q.2.1 j).1 (q.2.1 j).2.1 (q.2.1 j).2.2.1 ∈ gwt)
  | none => false
theorem rsL_ok : rsL.all (fun e => lnk e.1 e.2.1 e.2.2.1 e.2.2.2) = true := by decide +kernel
theorem rsf_spec {oc idx ci j : Nat} (h : rsf oc idx = some (ci, j)) : ∃ q : vw_C, vwCl[ci]? = some q ∧ j < q.2.2 ∧ Cond.fieldLink (ownN oc) idx (q.2.1 j).1 (q.2.1 j).2.1 (q.2.1 j).2.2.1 ∈ gwt := by
  unfold rsf at h
  rw [Option.map_eq_some_iff] at h
  obtain ⟨e, h1, h2⟩ := h
  have h3 := List.find?_some h1
  have h4 := List.mem_of_find?_eq_some h1
  simp only [Bool.and_eq_true, beq_iff_eq] at h3
  have h5 := List.all_eq_true.mp rsL_ok e h4
  rw [h3.1, h3.2, h2] at h5
  unfold lnk at h5
  split at h5
  · rename_i q hq
    simp only [Bool.and_eq_true, decide_eq_true_eq] at h5
    exact ⟨q, hq, h5.1, h5.2⟩
  · cases h5
theorem kcL_ok : kcL.all (fun e => decide (Cond.constant (ownN e.1) e.2.1 e.2.2 ∈ gwt)) = true := by decide +kernel
theorem kcf_spec {oc idx : Nat} {v : Int32} (h : kcf oc idx = some v) : Cond.constant (ownN oc) idx v ∈ gwt := by
  unfold kcf at h
  rw [Option.map_eq_some_iff] at h
  obtain ⟨e, h1, h2⟩ := h
  have h3 := List.find?_some h1
  have h4 := List.mem_of_find?_eq_some h1
  simp only [Bool.and_eq_true, beq_iff_eq] at h3
  have h5 := List.all_eq_true.mp kcL_ok e h4
  rw [h3.1, h3.2, h2] at h5
  simpa using h5
def mfok (ci j : Nat) (b : Bool) : Bool := match vwCl[ci]? with
  | some q => decide ((q.2.1 j).2.2.2 = false) && decide (parseFieldDescriptor (q.2.1 j).2.2.1 = some (if b then .boolean else .int))
  | none => false
theorem mfL_ok : mfL.all (fun e => mfok e.1 e.2.1 e.2.2) = true := by decide +kernel
theorem mff_spec {ci j : Nat} {b : Bool} {q : vw_C} (hq : vwCl[ci]? = some q) (h : mff ci j = some b) : (q.2.1 j).2.2.2 = false ∧ parseFieldDescriptor (q.2.1 j).2.2.1 = some (if b then .boolean else .int) := by
  unfold mff at h
  rw [Option.map_eq_some_iff] at h
  obtain ⟨e, h1, h2⟩ := h
  have h3 := List.find?_some h1
  have h4 := List.mem_of_find?_eq_some h1
  simp only [Bool.and_eq_true, beq_iff_eq] at h3
  have h5 := List.all_eq_true.mp mfL_ok e h4
  rw [h3.1, h3.2, h2] at h5
  unfold mfok at h5
  rw [hq] at h5
  simpa using h5
theorem fvl_spec {μ : Mem} {a ci j : Nat} {v : Vl} (h : fvl μ a ci j = some v) : ∃ sl : List (Option Nat), shp[a]? = some (.inr (.inr (ci, sl))) ∧ ∃ o, sl[j]? = some o ∧ v = (match o with | some t => .inr t | none => .inl (μ a j)) := by
  unfold fvl at h
  split at h
  · rename_i c0 sl hs
    split at h
    · rename_i hc
      subst hc
      refine ⟨sl, hs, ?_⟩
      split at h
      · rename_i t ht
        cases h
        exact ⟨_, ht, rfl⟩
      · rename_i ht
        cases h
        exact ⟨_, ht, rfl⟩
      · cases h
    · cases h
  · cases h
theorem ial_spec {k n : Nat} (h : ial k = some n) : shp[k]? = some (.inl (n, false)) := by
  unfold ial at h
  split at h
  · rename_i hs
    cases h
    exact hs
  · cases h
theorem zal_spec {k n : Nat} (h : zal k = some n) : shp[k]? = some (.inl (n, true)) := by
  unfold zal at h
  split at h
  · rename_i hs
    cases h
    exact hs
  · cases h
theorem ral_spec {k : Nat} {ts : List Nat} (h : ral k = some ts) : shp[k]? = some (.inr (.inl ts)) := by
  unfold ral at h
  split at h
  · rename_i hs
    cases h
    exact hs
  · cases h
theorem shp_63 : shp[63]? = none := by decide +kernel
theorem shp_lt {k : Nat} {sh : Shp} (h : shp[k]? = some sh) : k ≠ 63 := fun e => by
  rw [e, shp_63] at h
  cases h
theorem vp_nar_z (x : Int32) (h : x = 0 ∨ x = 1) : narrow .boolean (.int x) = .int x ∧ fits .boolean (.int x) = true := by
  rcases h with rfl | rfl <;> decide +kernel
