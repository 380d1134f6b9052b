/-! the world: memory, its cells' shapes, what pool numbers mean -/
abbrev Mem : Type := Nat → Nat → Int32
abbrev Vl : Type := Int32 ⊕ Nat
abbrev Shp : Type := (Nat × Bool) ⊕ (List Nat) ⊕ (Nat × List (Option Nat))
abbrev Lc : Type := List (Option Vl)
def isNest : Cond → Bool
  | .methodLinkNest _ _ _ _ => true
  | _ => false
def gwt : List Cond := lw_tbl.filter goodWord
def nwt : List Cond := lw_tbl.filter isNest
def ownN (oc : Nat) : String := match oc with
  | 0 => RX0
  | 1 => RX1
  | 2 => RX2
  | 3 => RX3
  | 4 => RX4
  | 5 => RX5
  | 6 => RX6
  | 7 => RX7
  | 8 => RX8
  | _ => RL
def shp : List Shp := [.inr (.inr (7, [some 1, some 5, some 12, some 15, some 16, some 18, some 35, some 37, none, some 38, none, none, none, none])),
  .inr (.inr (5, [some 2, some 3, some 4, none])),
  .inl (40, false),
  .inl (40, false),
  .inl (40, false),
  .inr (.inr (6, [some 6, some 7, some 8, some 9, some 10, some 11, none])),
  .inl (120, false),
  .inl (120, false),
  .inl (120, false),
  .inl (120, false),
  .inl (120, false),
  .inl (120, false),
  .inr (.inr (0, [some 13, some 14, none])),
  .inl (12, false),
  .inl (12, false),
  .inr (.inr (3, [some 16, some 18, some 20, none, none, none, none, none, none, none, none, none])),
  .inr (.inr (2, [some 17, none])),
  .inl (60, false),
  .inr (.inr (4, [some 19, some 34])),
  .inr (.inl [21, 22, 23, 24, 25, 26, 27, 28, 29, 30, 31, 32, 33]),
  .inl (60, false),
  .inl (60, false),
  .inl (60, false),
  .inl (60, false),
  .inl (60, false),
  .inl (60, false),
  .inl (60, false),
  .inl (60, false),
  .inl (60, false),
  .inl (60, false),
  .inl (60, false),
  .inl (60, false),
  .inl (60, false),
  .inl (60, false),
  .inl (13, false),
  .inr (.inr (1, [some 36, none, none])),
  .inl (6000, false),
  .inl (6, false),
  .inl (10, false),
  .inr (.inr (8, [none, none, some 40, some 41, some 42, none, some 43, some 44, some 45, some 46, none, none, none, some 47, some 48, none, some 49, some 50, some 51, none, none, some 52, some 53, some 54, some 55, some 56, some 57, none, none, none, none, some 58, none, none, some 59, none, none, some 60, some 61, some 62])),
  .inl (40, false),
  .inl (40, false),
  .inl (40, false),
  .inl (120, false),
  .inl (120, false),
  .inl (120, false),
  .inl (120, false),
  .inl (20, false),
  .inl (20, false),
  .inl (10, false),
  .inl (1200, true),
  .inl (60, false),
  .inl (12, false),
  .inl (12, false),
  .inl (13, false),
  .inl (832, false),
  .inl (832, false),
  .inl (832, false),
  .inl (64, false),
  .inl (64, true),
  .inl (6000, false),
  .inl (6000, false),
  .inl (6000, false)]
/-- (own class, pool number, class, field) -/
def rsL : List (Nat × Nat × Nat × Nat) := [(5, 9, 5, 0), (7, 257, 5, 0), (5, 15, 5, 1), (7, 240, 5, 1), (5, 18, 5, 2), (7, 237, 5, 2), (5, 21, 5, 3), (7, 75, 5, 3), (6, 9, 6, 0), (7, 182, 6, 0), (6, 15, 6, 1), (7, 185, 6, 1), (6, 18, 6, 2), (7, 188, 6, 2), (6, 21, 6, 3), (7, 102, 6, 3), (6, 24, 6, 4), (7, 158, 6, 4), (6, 27, 6, 5), (6, 30, 6, 6), (7, 97, 6, 6), (0, 9, 0, 0), (7, 152, 0, 0), (0, 15, 0, 1), (7, 155, 0, 1), (0, 18, 0, 2), (7, 129, 0, 2), (2, 9, 2, 0), (2, 15, 2, 1), (7, 121, 2, 1), (4, 11, 4, 0), (4, 16, 4, 1), (3, 12, 3, 0), (7, 37, 3, 0), (3, 21, 3, 1), (7, 42, 3, 1), (3, 25, 3, 2), (3, 66, 3, 3), (3, 69, 3, 4), (3, 72, 3, 5), (3, 53, 3, 6), (3, 32, 3, 7), (3, 39, 3, 8), (3, 75, 3, 9), (7, 139, 3, 9), (3, 78, 3, 10), (7, 143, 3, 10), (3, 43, 3, 11), (7, 146, 3, 11), (1, 9, 1, 0), (1, 19, 1, 1), (7, 178, 1, 1), (1, 15, 1, 2), (7, 222, 1, 2), (7, 12, 7, 0), (7, 19, 7, 1), (7, 26, 7, 2), (7, 33, 7, 3), (7, 41, 7, 4), (7, 46, 7, 5), (7, 50, 7, 6), (7, 54, 7, 7), (7, 167, 7, 8), (7, 58, 7, 9), (7, 111, 7, 10), (7, 175, 7, 11), (7, 108, 7, 12), (7, 84, 7, 13), (8, 111, 8, 0), (8, 90, 8, 1), (8, 7, 8, 2), (8, 13, 8, 3), (8, 16, 8, 4), (8, 97, 8, 5), (8, 19, 8, 6), (8, 22, 8, 7), (8, 25, 8, 8), (8, 28, 8, 9), (8, 100, 8, 10), (8, 200, 8, 11), (8, 197, 8, 12), (8, 31, 8, 13), (8, 34, 8, 14), (8, 117, 8, 15), (8, 37, 8, 16), (8, 40, 8, 17), (8, 44, 8, 18), (8, 120, 8, 19), (8, 173, 8, 20), (8, 47, 8, 21), (8, 50, 8, 22), (8, 53, 8, 23), (8, 56, 8, 24), (8, 59, 8, 25), (8, 62, 8, 26), (8, 65, 8, 27), (8, 69, 8, 28), (8, 127, 8, 29), (8, 161, 8, 30), (8, 72, 8, 31), (8, 146, 8, 32), (8, 149, 8, 33), (8, 75, 8, 34), (8, 222, 8, 35), (8, 78, 8, 36), (8, 81, 8, 37), (8, 84, 8, 38), (8, 87, 8, 39)]
def kcL : List (Nat × Nat × Int32) := [(7, 79, 1073741824), (8, 107, 1073741823), (8, 137, 100000)]
def rsf (oc idx : Nat) : Option (Nat × Nat) := (rsL.find? (fun e => e.1 == oc && e.2.1 == idx)).map (fun e => e.2.2)
def kcf (oc idx : Nat) : Option Int32 := (kcL.find? (fun e => e.1 == oc && e.2.1 == idx)).map (fun e => e.2.2)
theorem rsf_0 : rsf 0 9 = some (0, 0) ∧ rsf 0 15 = some (0, 1) ∧ rsf 0 18 = some (0, 2) := ⟨by decide +kernel, by decide +kernel, by decide +kernel⟩
theorem rsf_1 : rsf 1 9 = some (1, 0) ∧ rsf 1 19 = some (1, 1) ∧ rsf 1 15 = some (1, 2) := ⟨by decide +kernel, by decide +kernel, by decide +kernel⟩
theorem rsf_2 : rsf 2 9 = some (2, 0) ∧ rsf 2 15 = some (2, 1) := ⟨by decide +kernel, by decide +kernel⟩
theorem rsf_3 : rsf 3 12 = some (3, 0) ∧ rsf 3 21 = some (3, 1) ∧ rsf 3 25 = some (3, 2) ∧ rsf 3 66 = some (3, 3) ∧ rsf 3 69 = some (3, 4) ∧ rsf 3 72 = some (3, 5) ∧ rsf 3 53 = some (3, 6) ∧ rsf 3 32 = some (3, 7) ∧ rsf 3 39 = some (3, 8) ∧ rsf 3 75 = some (3, 9) ∧ rsf 3 78 = some (3, 10) ∧ rsf 3 43 = some (3, 11) := ⟨by decide +kernel, by decide +kernel, by decide +kernel, by decide +kernel, by decide +kernel, by decide +kernel, by decide +kernel, by decide +kernel, by decide +kernel, by decide +kernel, by decide +kernel, by decide +kernel⟩
theorem rsf_4 : rsf 4 11 = some (4, 0) ∧ rsf 4 16 = some (4, 1) := ⟨by decide +kernel, by decide +kernel⟩
theorem rsf_5 : rsf 5 9 = some (5, 0) ∧ rsf 5 15 = some (5, 1) ∧ rsf 5 18 = some (5, 2) ∧ rsf 5 21 = some (5, 3) := ⟨by decide +kernel, by decide +kernel, by decide +kernel, by decide +kernel⟩
theorem rsf_6 : rsf 6 9 = some (6, 0) ∧ rsf 6 15 = some (6, 1) ∧ rsf 6 18 = some (6, 2) ∧ rsf 6 21 = some (6, 3) ∧ rsf 6 24 = some (6, 4) ∧ rsf 6 27 = some (6, 5) ∧ rsf 6 30 = some (6, 6) := ⟨by decide +kernel, by decide +kernel, by decide +kernel, by decide +kernel, by decide +kernel, by decide +kernel, by decide +kernel⟩
theorem rsf_7 : rsf 7 257 = some (5, 0) ∧ rsf 7 240 = some (5, 1) ∧ rsf 7 237 = some (5, 2) ∧ rsf 7 75 = some (5, 3) ∧ rsf 7 182 = some (6, 0) ∧ rsf 7 185 = some (6, 1) ∧ rsf 7 188 = some (6, 2) ∧ rsf 7 102 = some (6, 3) ∧ rsf 7 158 = some (6, 4) ∧ rsf 7 97 = some (6, 6) ∧ rsf 7 152 = some (0, 0) ∧ rsf 7 155 = some (0, 1) ∧ rsf 7 129 = some (0, 2) ∧ rsf 7 121 = some (2, 1) ∧ rsf 7 37 = some (3, 0) ∧ rsf 7 42 = some (3, 1) ∧ rsf 7 139 = some (3, 9) ∧ rsf 7 143 = some (3, 10) ∧ rsf 7 146 = some (3, 11) ∧ rsf 7 178 = some (1, 1) ∧ rsf 7 222 = some (1, 2) ∧ rsf 7 12 = some (7, 0) ∧ rsf 7 19 = some (7, 1) ∧ rsf 7 26 = some (7, 2) ∧ rsf 7 33 = some (7, 3) ∧ rsf 7 41 = some (7, 4) ∧ rsf 7 46 = some (7, 5) ∧ rsf 7 50 = some (7, 6) ∧ rsf 7 54 = some (7, 7) ∧ rsf 7 167 = some (7, 8) ∧ rsf 7 58 = some (7, 9) ∧ rsf 7 111 = some (7, 10) ∧ rsf 7 175 = some (7, 11) ∧ rsf 7 108 = some (7, 12) ∧ rsf 7 84 = some (7, 13) := ⟨by decide +kernel, by decide +kernel, by decide +kernel, by decide +kernel, by decide +kernel, by decide +kernel, by decide +kernel, by decide +kernel, by decide +kernel, by decide +kernel, by decide +kernel, by decide +kernel, by decide +kernel, by decide +kernel, by decide +kernel, by decide +kernel, by decide +kernel, by decide +kernel, by decide +kernel, by decide +kernel, by decide +kernel, by decide +kernel, by decide +kernel, by decide +kernel, by decide +kernel, by decide +kernel, by decide +kernel, by decide +kernel, by decide +kernel, by decide +kernel, by decide +kernel, by decide +kernel, by decide +kernel, by decide +kernel, by decide +kernel⟩
theorem rsf_8 : rsf 8 111 = some (8, 0) ∧ rsf 8 90 = some (8, 1) ∧ rsf 8 7 = some (8, 2) ∧ rsf 8 13 = some (8, 3) ∧ rsf 8 16 = some (8, 4) ∧ rsf 8 97 = some (8, 5) ∧ rsf 8 19 = some (8, 6) ∧ rsf 8 22 = some (8, 7) ∧ rsf 8 25 = some (8, 8) ∧ rsf 8 28 = some (8, 9) ∧ rsf 8 100 = some (8, 10) ∧ rsf 8 200 = some (8, 11) ∧ rsf 8 197 = some (8, 12) ∧ rsf 8 31 = some (8, 13) ∧ rsf 8 34 = some (8, 14) ∧ rsf 8 117 = some (8, 15) ∧ rsf 8 37 = some (8, 16) ∧ rsf 8 40 = some (8, 17) ∧ rsf 8 44 = some (8, 18) ∧ rsf 8 120 = some (8, 19) ∧ rsf 8 173 = some (8, 20) ∧ rsf 8 47 = some (8, 21) ∧ rsf 8 50 = some (8, 22) ∧ rsf 8 53 = some (8, 23) ∧ rsf 8 56 = some (8, 24) ∧ rsf 8 59 = some (8, 25) ∧ rsf 8 62 = some (8, 26) ∧ rsf 8 65 = some (8, 27) ∧ rsf 8 69 = some (8, 28) ∧ rsf 8 127 = some (8, 29) ∧ rsf 8 161 = some (8, 30) ∧ rsf 8 72 = some (8, 31) ∧ rsf 8 146 = some (8, 32) ∧ rsf 8 149 = some (8, 33) ∧ rsf 8 75 = some (8, 34) ∧ rsf 8 222 = some (8, 35) ∧ rsf 8 78 = some (8, 36) ∧ rsf 8 81 = some (8, 37) ∧ rsf 8 84 = some (8, 38) ∧ rsf 8 87 = some (8, 39) := ⟨by decide +kernel, by decide +kernel, by decide +kernel, by decide +kernel, by decide +kernel, by decide +kernel, by decide +kernel, by decide +kernel, by decide +kernel, by decide +kernel, by decide +kernel, by decide +kernel, by decide +kernel, by decide +kernel, by decide +kernel, by decide +kernel, by decide +kernel, by decide +kernel, by decide +kernel, by decide +kernel, by decide +kernel, by decide +kernel, by decide +kernel, by decide +kernel, by decide +kernel, by decide +kernel, by decide +kernel, by decide +kernel, by decide +kernel, by decide +kernel, by decide +kernel, by decide +kernel, by decide +kernel, by decide +kernel, by decide +kernel, by decide +kernel, by decide +kernel, by decide +kernel, by decide +kernel, by decide +kernel⟩
theorem kcf_ok : kcf 7 79 = some 1073741824 ∧ kcf 8 107 = some 1073741823 ∧ kcf 8 137 = some 100000 := by decide +kernel
def mfL : List (Nat × Nat × Bool) := [(0, 2, false), (1, 1, false), (1, 2, false), (2, 1, false), (3, 3, false), (3, 4, false), (3, 5, false), (3, 6, true), (3, 7, true), (3, 8, false), (3, 9, true), (3, 10, false), (3, 11, false), (5, 3, false), (6, 6, false), (7, 8, false), (7, 10, false), (7, 11, false), (7, 12, false), (7, 13, false), (8, 0, false), (8, 1, false), (8, 5, false), (8, 10, false), (8, 11, false), (8, 12, false), (8, 15, false), (8, 19, false), (8, 20, false), (8, 27, false), (8, 28, false), (8, 29, false), (8, 30, false), (8, 32, false), (8, 33, false), (8, 35, false), (8, 36, false)]
def mff (ci j : Nat) : Option Bool := (mfL.find? (fun e => e.1 == ci && e.2.1 == j)).map (fun e => e.2.2)
theorem mff_ok : mff 0 2 = some false ∧ mff 1 1 = some false ∧ mff 1 2 = some false ∧ mff 2 1 = some false ∧ mff 3 3 = some false ∧ mff 3 4 = some false ∧ mff 3 5 = some false ∧ mff 3 6 = some true ∧ mff 3 7 = some true ∧ mff 3 8 = some false ∧ mff 3 9 = some true ∧ mff 3 10 = some false ∧ mff 3 11 = some false ∧ mff 5 3 = some false ∧ mff 6 6 = some false ∧ mff 7 8 = some false ∧ mff 7 10 = some false ∧ mff 7 11 = some false ∧ mff 7 12 = some false ∧ mff 7 13 = some false ∧ mff 8 0 = some false ∧ mff 8 1 = some false ∧ mff 8 5 = some false ∧ mff 8 10 = some false ∧ mff 8 11 = some false ∧ mff 8 12 = some false ∧ mff 8 15 = some false ∧ mff 8 19 = some false ∧ mff 8 20 = some false ∧ mff 8 27 = some false ∧ mff 8 28 = some false ∧ mff 8 29 = some false ∧ mff 8 30 = some false ∧ mff 8 32 = some false ∧ mff 8 33 = some false ∧ mff 8 35 = some false ∧ mff 8 36 = some false := ⟨by decide +kernel, by decide +kernel, by decide +kernel, by decide +kernel, by decide +kernel, by decide +kernel, by decide +kernel, by decide +kernel, by decide +kernel, by decide +kernel, by decide +kernel, by decide +kernel, by decide +kernel, by decide +kernel, by decide +kernel, by decide +kernel, by decide +kernel, by decide +kernel, by decide +kernel, by decide +kernel, by decide +kernel, by decide +kernel, by decide +kernel, by decide +kernel, by decide +kernel, by decide +kernel, by decide +kernel, by decide +kernel, by decide +kernel, by decide +kernel, by decide +kernel, by decide +kernel, by decide +kernel, by decide +kernel, by decide +kernel, by decide +kernel, by decide +kernel⟩
