/-! evaluation of runs: rules for simp, each at the head -/
section EV
variable {oc : Nat} {cc : ByteArray} {ret : Option FieldType} {Ln : Nat} {stops : Nat → Bool} {k K : Mem → Nat → Lc → List Vl → Prop} {Q : Option Vl → Mem → Prop} {n len : Nat} {μ : Mem} {pc : Nat} {L : Lc} {st r : List Vl} {x y : Int32} {v w : Vl} {a ci j idx : Nat} {i : Instr}
def vd (oc : Nat) (ret : Option FieldType) (Ln : Nat) (k K : Mem → Nat → Lc → List Vl → Prop) (Q : Option Vl → Mem → Prop) (z : Except DecodeError (Instr × Nat)) (μ : Mem) (pc : Nat) (L : Lc) (st : List Vl) : Prop := match z with
  | .ok (i, len) => vx oc ret Ln k K Q i len μ pc L st
  | .error _ => False
def vn (oc : Nat) (cc : ByteArray) (ret : Option FieldType) (Ln : Nat) (stops : Nat → Bool) (K : Mem → Nat → Lc → List Vl → Prop) (Q : Option Vl → Mem → Prop) (n : Nat) : Mem → Nat → Lc → List Vl → Prop := fun μ' pc' L' st' => if stops pc' = true then K μ' pc' L' st' else vc oc cc ret Ln stops K Q n μ' pc' L' st'
theorem vc_zero : vc oc cc ret Ln stops K Q 0 μ pc L st = K μ pc L st := rfl
theorem vc_succ : vc oc cc ret Ln stops K Q (n + 1) μ pc L st = vd oc ret Ln (vn oc cc ret Ln stops K Q n) K Q (decode cc pc) μ pc L st := rfl
theorem vn_app : vn oc cc ret Ln stops K Q n μ pc L st = if stops pc = true then K μ pc L st else vc oc cc ret Ln stops K Q n μ pc L st := rfl
theorem vd_ok : vd oc ret Ln k K Q (.ok (i, len)) μ pc L st = vx oc ret Ln k K Q i len μ pc L st := rfl
def vld (k : Mem → Nat → Lc → List Vl → Prop) (μ : Mem) (pc : Nat) (L : Lc) (st : List Vl) (o : Option Vl) : Prop := match o with | some (.inl x) => k μ pc L (.inl x :: st) | _ => False
def vldr (k : Mem → Nat → Lc → List Vl → Prop) (μ : Mem) (pc : Nat) (L : Lc) (st : List Vl) (o : Option Vl) : Prop := match o with | some (.inr x) => k μ pc L (.inr x :: st) | _ => False
def vst (k : Mem → Nat → Lc → List Vl → Prop) (μ : Mem) (pc : Nat) (st : List Vl) (o : Option Lc) : Prop := match o with | some L' => k μ pc L' st | none => False
def vic (k : Mem → Nat → Lc → List Vl → Prop) (μ : Mem) (pc : Nat) (L : Lc) (st : List Vl) (n : Nat) (d : Int) (o : Option Vl) : Prop := match o with | some (.inl x) => vst k μ pc st (setL L n (.inl (x + Int32.ofInt d))) | _ => False
def vgf (k : Mem → Nat → Lc → List Vl → Prop) (μ : Mem) (pc : Nat) (L : Lc) (st : List Vl) (o : Option Vl) : Prop := match o with | some v => k μ pc L (v :: st) | none => False
def vgo (k : Mem → Nat → Lc → List Vl → Prop) (μ : Mem) (pc : Nat) (L : Lc) (st : List Vl) (a : Nat) (o : Option (Nat × Nat)) : Prop := match o with | some (ci, j) => vgf k μ pc L st (fvl μ a ci j) | none => False
def vpf (k : Mem → Nat → Lc → List Vl → Prop) (μ : Mem) (pc : Nat) (L : Lc) (st : List Vl) (x : Int32) (a j : Nat) (o : Option Vl) (b : Option Bool) : Prop := match o with | some (.inl _) => (match b with | some b => (b = true → x = 0 ∨ x = 1) ∧ k (mset μ a j x) pc L st | none => False) | _ => False
def vpo (k : Mem → Nat → Lc → List Vl → Prop) (μ : Mem) (pc : Nat) (L : Lc) (st : List Vl) (x : Int32) (a : Nat) (o : Option (Nat × Nat)) : Prop := match o with | some (ci, j) => vpf k μ pc L st x a j (fvl μ a ci j) (mff ci j) | none => False
def vkc (k : Mem → Nat → Lc → List Vl → Prop) (μ : Mem) (pc : Nat) (L : Lc) (st : List Vl) (o : Option Int32) : Prop := match o with | some x => k μ pc L (.inl x :: st) | none => False
def vbr (k : Mem → Nat → Lc → List Vl → Prop) (μ : Mem) (L : Lc) (st : List Vl) (pc : Nat) (t : Int) (c : Prop) : Prop := 0 ≤ t ∧ (c → k μ t.toNat L st) ∧ (¬ c → k μ pc L st)
theorem vld_ok : vld k μ pc L st (some (.inl x)) = k μ pc L (.inl x :: st) := rfl
theorem vldr_ok : vldr k μ pc L st (some (.inr a)) = k μ pc L (.inr a :: st) := rfl
theorem vst_ok : vst k μ pc st (some L) = k μ pc L st := rfl
theorem vic_ok {n : Nat} {d : Int} : vic k μ pc L st n d (some (.inl x)) = vst k μ pc st (setL L n (.inl (x + Int32.ofInt d))) := rfl
theorem vgf_ok : vgf k μ pc L st (some v) = k μ pc L (v :: st) := rfl
theorem vgo_ok : vgo k μ pc L st a (some (ci, j)) = vgf k μ pc L st (fvl μ a ci j) := rfl
theorem vpf_f : vpf k μ pc L st x a j (some (.inl y)) (some false) = k (mset μ a j x) pc L st := by simp [vpf]
theorem vpf_t : vpf k μ pc L st x a j (some (.inl y)) (some true) = ((x = 0 ∨ x = 1) ∧ k (mset μ a j x) pc L st) := by simp [vpf]
theorem vpo_ok : vpo k μ pc L st x a (some (ci, j)) = vpf k μ pc L st x a j (fvl μ a ci j) (mff ci j) := rfl
theorem vkc_ok : vkc k μ pc L st (some x) = k μ pc L (.inl x :: st) := rfl
theorem vbr_eq {t : Int} {c : Prop} : vbr k μ L st pc t c = (0 ≤ t ∧ (c → k μ t.toNat L st) ∧ (¬ c → k μ pc L st)) := rfl
theorem vx_iconst {n : Int} : vx oc ret Ln k K Q (.iconst n) 1 μ pc L st = (k μ (pc + 1) L (.inl (Int32.ofInt n) :: st)) := by simp [vx]
theorem vx_bipush {n : Int} : vx oc ret Ln k K Q (.bipush n) 2 μ pc L st = (k μ (pc + 2) L (.inl (Int8.ofInt n).toInt32 :: st)) := by simp [vx]
theorem vx_sipush {n : Int} : vx oc ret Ln k K Q (.sipush n) 3 μ pc L st = (k μ (pc + 3) L (.inl (Int16.ofInt n).toInt32 :: st)) := by simp [vx]
theorem vx_ldc  : vx oc ret Ln k K Q (.ldc idx) 2 μ pc L st = (vkc k μ (pc + 2) L st (kcf oc idx)) := by simp [vx]; rfl
theorem vx_iload_n {n : Fin 4} : vx oc ret Ln k K Q (.iload_n n) 1 μ pc L st = (vld k μ (pc + 1) L st (getL L n)) := by simp [vx]; rfl
theorem vx_iload  : vx oc ret Ln k K Q (.iload n) 2 μ pc L st = (vld k μ (pc + 2) L st (getL L n)) := by simp [vx]; rfl
theorem vx_aload_n {n : Fin 4} : vx oc ret Ln k K Q (.aload_n n) 1 μ pc L st = (vldr k μ (pc + 1) L st (getL L n)) := by simp [vx]; rfl
theorem vx_aload  : vx oc ret Ln k K Q (.aload n) 2 μ pc L st = (vldr k μ (pc + 2) L st (getL L n)) := by simp [vx]; rfl
theorem vx_istore_n {n : Fin 4} : vx oc ret Ln k K Q (.istore_n n) 1 μ pc L (.inl x :: r) = (vst k μ (pc + 1) r (setL L n (.inl x))) := by simp [vx]; rfl
theorem vx_istore  : vx oc ret Ln k K Q (.istore n) 2 μ pc L (.inl x :: r) = (vst k μ (pc + 2) r (setL L n (.inl x))) := by simp [vx]; rfl
theorem vx_iinc {d : Int} : vx oc ret Ln k K Q (.iinc n d) 3 μ pc L st = (vic k μ (pc + 3) L st n d (getL L n)) := by simp [vx]; rfl
theorem vx_iadd  : vx oc ret Ln k K Q .iadd 1 μ pc L (.inl y :: .inl x :: r) = (k μ (pc + 1) L (.inl (x + y) :: r)) := by simp [vx]
theorem vx_isub  : vx oc ret Ln k K Q .isub 1 μ pc L (.inl y :: .inl x :: r) = (k μ (pc + 1) L (.inl (x - y) :: r)) := by simp [vx]
theorem vx_imul  : vx oc ret Ln k K Q .imul 1 μ pc L (.inl y :: .inl x :: r) = (k μ (pc + 1) L (.inl (x * y) :: r)) := by simp [vx]
theorem vx_iand  : vx oc ret Ln k K Q .iand 1 μ pc L (.inl y :: .inl x :: r) = (k μ (pc + 1) L (.inl (x &&& y) :: r)) := by simp [vx]
theorem vx_ior  : vx oc ret Ln k K Q .ior 1 μ pc L (.inl y :: .inl x :: r) = (k μ (pc + 1) L (.inl (x ||| y) :: r)) := by simp [vx]
theorem vx_ixor  : vx oc ret Ln k K Q .ixor 1 μ pc L (.inl y :: .inl x :: r) = (k μ (pc + 1) L (.inl (x ^^^ y) :: r)) := by simp [vx]
theorem vx_ishl  : vx oc ret Ln k K Q .ishl 1 μ pc L (.inl y :: .inl x :: r) = (k μ (pc + 1) L (.inl (x <<< (y &&& 31)) :: r)) := by simp [vx]
theorem vx_ishr  : vx oc ret Ln k K Q .ishr 1 μ pc L (.inl y :: .inl x :: r) = (k μ (pc + 1) L (.inl (x >>> (y &&& 31)) :: r)) := by simp [vx]
theorem vx_iushr  : vx oc ret Ln k K Q .iushr 1 μ pc L (.inl y :: .inl x :: r) = (k μ (pc + 1) L (.inl (ushr x y) :: r)) := by simp [vx]
theorem vx_dup  : vx oc ret Ln k K Q .dup 1 μ pc L (v :: r) = (k μ (pc + 1) L (v :: v :: r)) := by simp [vx]
theorem vx_dup2  : vx oc ret Ln k K Q .dup2 1 μ pc L (v :: w :: r) = (k μ (pc + 1) L (v :: w :: v :: w :: r)) := by simp [vx]
theorem vx_goto {d : Int} : vx oc ret Ln k K Q (.goto d) 3 μ pc L st = (0 ≤ (pc : Int) + d ∧ k μ ((pc : Int) + d).toNat L st) := by simp [vx, jp]
theorem vx_if_icmp {c : Jvm.ClassFile.Cond} {d : Int} : vx oc ret Ln k K Q (.if_icmp c d) 3 μ pc L (.inl y :: .inl x :: r) = (vbr k μ L r (pc + 3) ((pc : Int) + d) (icm c x y)) := by simp [vx, vbr]
theorem vx_ifCond {c : Jvm.ClassFile.Cond} {d : Int} : vx oc ret Ln k K Q (.ifCond c d) 3 μ pc L (.inl x :: r) = (vbr k μ L r (pc + 3) ((pc : Int) + d) (icm c x 0)) := by simp [vx, vbr]
theorem vx_getfield  : vx oc ret Ln k K Q (.getfield idx) 3 μ pc L (.inr a :: r) = (vgo k μ (pc + 3) L r a (rsf oc idx)) := by simp [vx]; rfl
theorem vx_putfield  : vx oc ret Ln k K Q (.putfield idx) 3 μ pc L (.inl x :: .inr a :: r) = (vpo k μ (pc + 3) L r x a (rsf oc idx)) := by simp [vx]; rfl
theorem vx_iaload  : vx oc ret Ln k K Q .iaload 1 μ pc L (.inl x :: .inr a :: r) = (inb Ln a x ∧ k μ (pc + 1) L (.inl (μ a x.toNatClampNeg) :: r)) := by simp [vx]
theorem vx_iastore  : vx oc ret Ln k K Q .iastore 1 μ pc L (.inl y :: .inl x :: .inr a :: r) = (ins a x ∧ k (mset μ a x.toNatClampNeg y) (pc + 1) L r) := by simp [vx]
theorem vx_baload  : vx oc ret Ln k K Q .baload 1 μ pc L (.inl x :: .inr a :: r) = (zin a x ∧ k μ (pc + 1) L (.inl (μ a x.toNatClampNeg) :: r)) := by simp [vx]
theorem vx_bastore  : vx oc ret Ln k K Q .bastore 1 μ pc L (.inl y :: .inl x :: .inr a :: r) = (zin a x ∧ k (mset μ a x.toNatClampNeg (vp_nar .boolean y)) (pc + 1) L r) := by simp [vx]
theorem vx_aaload  : vx oc ret Ln k K Q .aaload 1 μ pc L (.inl x :: .inr a :: r) = (rin a x ∧ k μ (pc + 1) L (.inr (rtg a x.toNatClampNeg) :: r)) := by simp [vx]
theorem vx_ireturn  : vx oc ret Ln k K Q .ireturn 1 μ pc L [.inl x] = ((ret = some .int ∨ (ret = some .boolean ∧ (x = 0 ∨ x = 1))) ∧ Q (some (.inl x)) μ) := by simp [vx]
theorem vx_return  : vx oc ret Ln k K Q .return_ 1 μ pc L [] = (ret = none ∧ Q none μ) := by simp [vx]
theorem vx_invokevirtual  : vx oc ret Ln k K Q (.invokevirtual idx) len μ pc L st = (K μ pc L st) := by simp [vx]
theorem vx_invokestatic  : vx oc ret Ln k K Q (.invokestatic idx) len μ pc L st = (K μ pc L st) := by simp [vx]
theorem vx_table {d lo hi : Int} {offs : Array Int} : vx oc ret Ln k K Q (.tableswitch d lo hi offs) len μ pc L (.inl x :: r) = (hi - lo + 1 ≤ (offs.toList.length : Int) ∧ vsw (fun q => k μ q L r) pc x lo offs.toList ∧ (x.toInt < lo ∨ hi < x.toInt → jp (fun q => k μ q L r) pc d)) := rfl
theorem vx_lookup {d : Int} {ps : Array (Int × Int)} : vx oc ret Ln k K Q (.lookupswitch d ps) len μ pc L (.inl x :: r) = ((ps.toList.zip (ps.toList.drop 1)).all (fun (a, next) => a.1 < next.1) = true ∧ vlk (fun q => k μ q L r) pc x d ps.toList) := rfl
end EV
theorem nat_int (n : Nat) : @Nat.cast Int _ (no_index (OfNat.ofNat n)) = OfNat.ofNat n := rfl
