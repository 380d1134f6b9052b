/-! each call on both: the class first, then the reference -/
theorem pre_r {μ μ1 : Mem} (h : RLL μ μ) (cf : CF μ μ1) : RLL μ μ1 := RLL_c h (fun _ _ => rfl) (fun a h1 _ _ => cf a h1)
theorem pair_end {μ μ1 μ2 : Mem} (cf : CF μ μ1) (gf : GF μ1 μ2) (r : RLL μ1 μ2) : RLL μ2 μ2 ∧ μ2 63 = μ 63 := ⟨RLL_c r (fun a ha => gf a (Or.inl ha)) (fun _ _ _ _ => rfl), by rw [gf 63 (Or.inr (by decide)), cf 63 (by decide)]⟩
theorem pair_e59 {μ μ1 μ2 : Mem} {ρ : Nat → Int32} (cf : CF μ μ1) (gf : GF μ1 μ2) (r : RLL μ1 μ2) : RLL (wr μ2 ρ) (wr μ2 ρ) ∧ wr μ2 ρ 63 = μ 63 := by
  refine ⟨RLL_c r (fun a ha => ?_) (fun a _ _ h => ?_), ?_⟩
  · rw [wr_app, if_neg (by omega)]
    exact gf a (Or.inl ha)
  · rw [wr_app, if_neg h]
  · rw [wr_app, if_neg (by decide), gf 63 (Or.inr (by decide)), cf 63 (by decide)]
theorem p_thing {μ : Mem} (h : RLL μ μ) (a b : Int32) : ∃ (R : Int32) (μ1 : Mem), Ct yX7_thing 3 cX7_thing (some .int) 1 [.inr 0, .inl a, .inl b] μ (Is (some (.inl R)) μ1) ∧ μ1 63 = μ 63 ∧ Ct yX8_thing 3 cX8_thing (some .int) 1 [.inr 39, .inl a, .inl b] μ1 (fun r μ2 => r = some (.inl R) ∧ RLL μ2 μ2 ∧ μ2 63 = μ 63) := by
  obtain ⟨h1, h2, h3, h4, h5, h6, h7, h8, h9, h10, h11, h12, h13, h14⟩ := id h
  obtain ⟨a1, a2, a3, a4, a5, a6, a7, a8, a9, a10, a11⟩ := id h1
  obtain ⟨b1, b2, b3, b4, b5, b6, b7, b8, b9, b10, b11⟩ := id h2
  obtain ⟨nt, nv, nr, nb, nh, et, ev, er, eb, eh⟩ := IA_12 h9
  have cf := cF_thing (μ := μ) (a := a) (b := b)
  have h1 := pre_r h cf
  have i9 := h1.2.2.2.2.2.2.2.2.1
  obtain ⟨ee, r⟩ := s_thing h1 a b
  refine ⟨_, _, k7_thing μ a b (by rw [a6]; exact h9.1.1) (by rw [a6]; exact h9.1.2), cf 63 (by decide), ?_⟩
  refine Ct.post (k8_thing (cg_thing μ a b) a b i9.1.1 i9.1.2) ?_
  rintro r2 μ2 ⟨rfl, rfl⟩
  exact ⟨by rw [ee], pair_end cf gF_thing r⟩
theorem p_version {μ : Mem} (h : RLL μ μ) (a b c : Int32) : ∃ (R : Int32) (μ1 : Mem), Ct yX7_version 5 cX7_version (some .int) 5 [.inr 0, .inl a, .inl b, .inl c] μ (Is (some (.inl R)) μ1) ∧ μ1 63 = μ 63 ∧ Ct yX8_version 4 cX8_version (some .int) 2 [.inr 39, .inl a, .inl b, .inl c] μ1 (fun r μ2 => r = some (.inl R) ∧ RLL μ2 μ2 ∧ μ2 63 = μ 63) := by
  obtain ⟨h1, h2, h3, h4, h5, h6, h7, h8, h9, h10, h11, h12, h13, h14⟩ := id h
  obtain ⟨a1, a2, a3, a4, a5, a6, a7, a8, a9, a10, a11⟩ := id h1
  obtain ⟨b1, b2, b3, b4, b5, b6, b7, b8, b9, b10, b11⟩ := id h2
  obtain ⟨nt, nv, nr, nb, nh, et, ev, er, eb, eh⟩ := IA_12 h9
  have cf := cF_version (μ := μ) (a := a) (b := b) (c := c)
  have h1 := pre_r h cf
  have i9 := h1.2.2.2.2.2.2.2.2.1
  obtain ⟨ee, r⟩ := s_version h1 a b c
  refine ⟨_, _, k7_version μ a b c (by rw [a6]; exact h9.1.1) (by rw [a6]; exact h9.1.2) (by rw [a7]; exact h9.2.1.1) (by rw [a7]; exact h9.2.1.2) (by rw [a8]; exact h9.2.2.2.2.2.1.1) (by rw [a8]; exact h9.2.2.2.2.2.1.2) (s_KOk h) (s_CTk h), cf 63 (by decide), ?_⟩
  refine Ct.post (k8_version (cg_version μ a b c) a b c i9.2.1.1 i9.2.1.2) ?_
  rintro r2 μ2 ⟨rfl, rfl⟩
  exact ⟨by rw [ee], pair_end cf gF_version r⟩
theorem p_gives {μ : Mem} (h : RLL μ μ) (a b : Int32) : ∃ (R : Int32) (μ1 : Mem), Ct yX7_gives 5 cX7_gives (some .int) 5 [.inr 0, .inl a, .inl b] μ (Is (some (.inl R)) μ1) ∧ μ1 63 = μ 63 ∧ Ct yX8_gives 5 cX8_gives (some .int) 1 [.inr 39, .inl a, .inl b] μ1 (fun r μ2 => r = some (.inl R) ∧ RLL μ2 μ2 ∧ μ2 63 = μ 63) := by
  obtain ⟨h1, h2, h3, h4, h5, h6, h7, h8, h9, h10, h11, h12, h13, h14⟩ := id h
  obtain ⟨a1, a2, a3, a4, a5, a6, a7, a8, a9, a10, a11⟩ := id h1
  obtain ⟨b1, b2, b3, b4, b5, b6, b7, b8, b9, b10, b11⟩ := id h2
  obtain ⟨nt, nv, nr, nb, nh, et, ev, er, eb, eh⟩ := IA_12 h9
  have cf := cF_gives (μ := μ) (a := a) (b := b)
  have h1 := pre_r h cf
  have i9 := h1.2.2.2.2.2.2.2.2.1
  obtain ⟨ee, r⟩ := s_gives h1 a b
  refine ⟨_, _, k7_gives μ a b (by rw [a6]; exact h9.1.1) (by rw [a6]; exact h9.1.2) (by rw [a7]; exact h9.2.1.1) (by rw [a7]; exact h9.2.1.2) (by rw [a8]; exact h9.2.2.2.2.2.1.1) (by rw [a8]; exact h9.2.2.2.2.2.1.2) (s_COk h) (s_CTk h), cf 63 (by decide), ?_⟩
  refine Ct.post (k8_gives (cg_gives μ a b) a b i9.1.1 i9.1.2) ?_
  rintro r2 μ2 ⟨rfl, rfl⟩
  exact ⟨by rw [ee], pair_end cf gF_gives r⟩
theorem p_copy {μ : Mem} (h : RLL μ μ) (a b : Int32) : ∃ (R : Int32) (μ1 : Mem), Ct yX7_copy 3 cX7_copy (some .boolean) 2 [.inr 0, .inl a, .inl b] μ (Is (some (.inl R)) μ1) ∧ μ1 63 = μ 63 ∧ Ct yX8_copy 3 cX8_copy (some .boolean) 2 [.inr 39, .inl a, .inl b] μ1 (fun r μ2 => r = some (.inl R) ∧ RLL μ2 μ2 ∧ μ2 63 = μ 63) := by
  obtain ⟨h1, h2, h3, h4, h5, h6, h7, h8, h9, h10, h11, h12, h13, h14⟩ := id h
  obtain ⟨a1, a2, a3, a4, a5, a6, a7, a8, a9, a10, a11⟩ := id h1
  obtain ⟨b1, b2, b3, b4, b5, b6, b7, b8, b9, b10, b11⟩ := id h2
  obtain ⟨nt, nv, nr, nb, nh, et, ev, er, eb, eh⟩ := IA_12 h9
  have cf := cF_copy (μ := μ) (a := a) (b := b)
  have h1 := pre_r h cf
  have i9 := h1.2.2.2.2.2.2.2.2.1
  obtain ⟨ee, r⟩ := s_copy h1 a b
  refine ⟨_, _, k7_copy μ a b (by rw [a7]; exact h9.2.1.1) (by rw [a7]; exact h9.2.1.2), cf 63 (by decide), ?_⟩
  refine Ct.post (k8_copy (cg_copy μ a b) a b i9.2.1.1 i9.2.1.2) ?_
  rintro r2 μ2 ⟨rfl, rfl⟩
  exact ⟨by rw [ee], pair_end cf gF_copy r⟩
theorem p_move {μ : Mem} (h : RLL μ μ) (a b c : Int32) : ∃ (R : Int32) (μ1 : Mem), Ct yX7_move 4 cX7_move (some .boolean) 2 [.inr 0, .inl a, .inl b, .inl c] μ (Is (some (.inl R)) μ1) ∧ μ1 63 = μ 63 ∧ Ct yX8_move 4 cX8_move (some .boolean) 2 [.inr 39, .inl a, .inl b, .inl c] μ1 (fun r μ2 => r = some (.inl R) ∧ RLL μ2 μ2 ∧ μ2 63 = μ 63) := by
  obtain ⟨h1, h2, h3, h4, h5, h6, h7, h8, h9, h10, h11, h12, h13, h14⟩ := id h
  obtain ⟨a1, a2, a3, a4, a5, a6, a7, a8, a9, a10, a11⟩ := id h1
  obtain ⟨b1, b2, b3, b4, b5, b6, b7, b8, b9, b10, b11⟩ := id h2
  obtain ⟨nt, nv, nr, nb, nh, et, ev, er, eb, eh⟩ := IA_12 h9
  have cf := cF_move (μ := μ) (a := a) (b := b) (c := c)
  have h1 := pre_r h cf
  have i9 := h1.2.2.2.2.2.2.2.2.1
  obtain ⟨ee, r⟩ := s_move h1 a b c
  refine ⟨_, _, k7_move μ a b c (by rw [a7]; exact h9.2.1.1) (by rw [a7]; exact h9.2.1.2), cf 63 (by decide), ?_⟩
  refine Ct.post (k8_move (cg_move μ a b c) a b c i9.2.1.1 i9.2.1.2) ?_
  rintro r2 μ2 ⟨rfl, rfl⟩
  exact ⟨by rw [ee], pair_end cf gF_move r⟩
theorem p_broken {μ : Mem} (h : RLL μ μ) (a b : Int32) : ∃ (R : Int32) (μ1 : Mem), Ct yX7_broken 3 cX7_broken (some .boolean) 1 [.inr 0, .inl a, .inl b] μ (Is (some (.inl R)) μ1) ∧ μ1 63 = μ 63 ∧ Ct yX8_broken 3 cX8_broken (some .boolean) 1 [.inr 39, .inl a, .inl b] μ1 (fun r μ2 => r = some (.inl R) ∧ RLL μ2 μ2 ∧ μ2 63 = μ 63) := by
  obtain ⟨h1, h2, h3, h4, h5, h6, h7, h8, h9, h10, h11, h12, h13, h14⟩ := id h
  obtain ⟨a1, a2, a3, a4, a5, a6, a7, a8, a9, a10, a11⟩ := id h1
  obtain ⟨b1, b2, b3, b4, b5, b6, b7, b8, b9, b10, b11⟩ := id h2
  obtain ⟨nt, nv, nr, nb, nh, et, ev, er, eb, eh⟩ := IA_12 h9
  have cf := cF_broken (μ := μ) (a := a) (b := b)
  have h1 := pre_r h cf
  have i9 := h1.2.2.2.2.2.2.2.2.1
  have r := s_broken h1 a b
  refine ⟨_, _, k7_broken μ a b , cf 63 (by decide), ?_⟩
  refine Ct.post (k8_broken (cg_broken μ a b) a b ) ?_
  rintro r2 μ2 ⟨rfl, rfl⟩
  exact ⟨rfl, pair_end cf gF_broken r⟩
theorem p_backup {μ : Mem} (h : RLL μ μ) (a : Int32) : ∃ (R : Int32) (μ1 : Mem), Ct yX7_backup 3 cX7_backup (some .int) 2 [.inr 0, .inl a] μ (Is (some (.inl R)) μ1) ∧ μ1 63 = μ 63 ∧ Ct yX8_backup 3 cX8_backup (some .int) 2 [.inr 39, .inl a] μ1 (fun r μ2 => r = some (.inl R) ∧ RLL μ2 μ2 ∧ μ2 63 = μ 63) := by
  obtain ⟨h1, h2, h3, h4, h5, h6, h7, h8, h9, h10, h11, h12, h13, h14⟩ := id h
  obtain ⟨a1, a2, a3, a4, a5, a6, a7, a8, a9, a10, a11⟩ := id h1
  obtain ⟨b1, b2, b3, b4, b5, b6, b7, b8, b9, b10, b11⟩ := id h2
  obtain ⟨nt, nv, nr, nb, nh, et, ev, er, eb, eh⟩ := IA_12 h9
  have cf := cF_backup (μ := μ) (a := a)
  have h1 := pre_r h cf
  have i9 := h1.2.2.2.2.2.2.2.2.1
  obtain ⟨ee, r⟩ := s_backup h1 a
  refine ⟨_, _, k7_backup μ a (by rw [a7]; exact h9.2.1.1) (by rw [a7]; exact h9.2.1.2) (by rw [a5]; exact h9.2.2.2.1.1) (by rw [a5]; exact h9.2.2.2.1.2), cf 63 (by decide), ?_⟩
  refine Ct.post (k8_backup (cg_backup μ a) a i9.2.1.1 i9.2.1.2 i9.2.2.2.1.1 i9.2.2.2.1.2) ?_
  rintro r2 μ2 ⟨rfl, rfl⟩
  exact ⟨by rw [ee], pair_end cf gF_backup r⟩
theorem p_restore {μ : Mem} (h : RLL μ μ) (a : Int32) : ∃ (R : Int32) (μ1 : Mem), Ct yX7_restore 2 cX7_restore (some .int) 2 [.inr 0, .inl a] μ (Is (some (.inl R)) μ1) ∧ μ1 63 = μ 63 ∧ Ct yX8_restore 4 cX8_restore (some .int) 2 [.inr 39, .inl a] μ1 (fun r μ2 => r = some (.inl R) ∧ RLL μ2 μ2 ∧ μ2 63 = μ 63) := by
  obtain ⟨h1, h2, h3, h4, h5, h6, h7, h8, h9, h10, h11, h12, h13, h14⟩ := id h
  obtain ⟨a1, a2, a3, a4, a5, a6, a7, a8, a9, a10, a11⟩ := id h1
  obtain ⟨b1, b2, b3, b4, b5, b6, b7, b8, b9, b10, b11⟩ := id h2
  obtain ⟨nt, nv, nr, nb, nh, et, ev, er, eb, eh⟩ := IA_12 h9
  have cf := cF_restore (μ := μ) (a := a)
  have h1 := pre_r h cf
  have i9 := h1.2.2.2.2.2.2.2.2.1
  obtain ⟨ee, r⟩ := s_restore h1 a
  refine ⟨_, _, k7_restore μ a (by rw [a7]; exact h9.2.1.1) (by rw [a7]; exact h9.2.1.2) (by rw [a5]; exact h9.2.2.2.1.1) (by rw [a5]; exact h9.2.2.2.1.2), cf 63 (by decide), ?_⟩
  refine Ct.post (k8_restore (cg_restore μ a) a i9.2.1.1 i9.2.1.2 i9.2.2.2.1.1 i9.2.2.2.1.2) ?_
  rintro r2 μ2 ⟨rfl, rfl⟩
  exact ⟨by rw [ee], pair_end cf gF_restore r⟩
theorem p_feed {μ : Mem} (h : RLL μ μ) (a b c d e : Int32) : ∃ (R : Int32) (μ1 : Mem), Ct yX7_feed 6 cX7_feed (some .int) 1 [.inr 0, .inl a, .inl b, .inl c, .inl d, .inl e] μ (Is (some (.inl R)) μ1) ∧ μ1 63 = μ 63 ∧ Ct yX8_feed 6 cX8_feed (some .int) 1 [.inr 39, .inl a, .inl b, .inl c, .inl d, .inl e] μ1 (fun r μ2 => r = some (.inl R) ∧ RLL μ2 μ2 ∧ μ2 63 = μ 63) := by
  obtain ⟨h1, h2, h3, h4, h5, h6, h7, h8, h9, h10, h11, h12, h13, h14⟩ := id h
  obtain ⟨a1, a2, a3, a4, a5, a6, a7, a8, a9, a10, a11⟩ := id h1
  obtain ⟨b1, b2, b3, b4, b5, b6, b7, b8, b9, b10, b11⟩ := id h2
  obtain ⟨nt, nv, nr, nb, nh, et, ev, er, eb, eh⟩ := IA_12 h9
  have cf := cF_feed (μ := μ) (a := a) (b := b) (c := c) (d := d) (e := e)
  have h1 := pre_r h cf
  have i9 := h1.2.2.2.2.2.2.2.2.1
  obtain ⟨ee, r⟩ := s_feed h1 a b c d e
  refine ⟨_, _, k7_feed μ a b c d e (by rw [a9]; exact h9.2.2.2.2.1.1) (by rw [a9]; exact h9.2.2.2.2.1.2), cf 63 (by decide), ?_⟩
  refine Ct.post (k8_feed (cg_feed μ a b c d e) a b c d e i9.2.2.2.2.1.1 i9.2.2.2.2.1.2) ?_
  rintro r2 μ2 ⟨rfl, rfl⟩
  exact ⟨by rw [ee], pair_end cf gF_feed r⟩
theorem p_end {μ : Mem} (h : RLL μ μ) (a : Int32) : ∃ (R : Int32) (μ1 : Mem), Ct yX7_end 2 cX7_end (some .int) 0 [.inr 0, .inl a] μ (Is (some (.inl R)) μ1) ∧ μ1 63 = μ 63 ∧ Ct yX8_end 2 cX8_end (some .int) 1 [.inr 39, .inl a] μ1 (fun r μ2 => r = some (.inl R) ∧ RLL μ2 μ2 ∧ μ2 63 = μ 63) := by
  obtain ⟨h1, h2, h3, h4, h5, h6, h7, h8, h9, h10, h11, h12, h13, h14⟩ := id h
  obtain ⟨a1, a2, a3, a4, a5, a6, a7, a8, a9, a10, a11⟩ := id h1
  obtain ⟨b1, b2, b3, b4, b5, b6, b7, b8, b9, b10, b11⟩ := id h2
  obtain ⟨nt, nv, nr, nb, nh, et, ev, er, eb, eh⟩ := IA_12 h9
  have cf := cF_end (μ := μ) (a := a)
  have h1 := pre_r h cf
  have i9 := h1.2.2.2.2.2.2.2.2.1
  obtain ⟨ee, r⟩ := s_end h1 a
  refine ⟨_, _, k7_end μ a , cf 63 (by decide), ?_⟩
  refine Ct.post (k8_end (cg_end μ a) a ) ?_
  rintro r2 μ2 ⟨rfl, rfl⟩
  exact ⟨by rw [ee], pair_end cf gF_end r⟩
theorem p_fault {μ : Mem} (h : RLL μ μ) (a : Int32) : ∃ (R : Int32) (μ1 : Mem), Ct yX7_fault 2 cX7_fault (some .int) 0 [.inr 0, .inl a] μ (Is (some (.inl R)) μ1) ∧ μ1 63 = μ 63 ∧ Ct yX8_fault 2 cX8_fault (some .int) 0 [.inr 39, .inl a] μ1 (fun r μ2 => r = some (.inl R) ∧ RLL μ2 μ2 ∧ μ2 63 = μ 63) := by
  obtain ⟨h1, h2, h3, h4, h5, h6, h7, h8, h9, h10, h11, h12, h13, h14⟩ := id h
  obtain ⟨a1, a2, a3, a4, a5, a6, a7, a8, a9, a10, a11⟩ := id h1
  obtain ⟨b1, b2, b3, b4, b5, b6, b7, b8, b9, b10, b11⟩ := id h2
  obtain ⟨nt, nv, nr, nb, nh, et, ev, er, eb, eh⟩ := IA_12 h9
  have h1 := h
  have i9 := h9
  have cf : CF μ μ := CF_r
  have gf : GF μ μ := GF_r
  refine ⟨_, _, k7_fault μ a , rfl, ?_⟩
  refine Ct.post (k8_fault μ a ) ?_
  rintro r2 μ2 ⟨rfl, rfl⟩
  exact ⟨by rw [s_fault h], pair_end cf gf h⟩
theorem p_ends {μ : Mem} (h : RLL μ μ) (a b : Int32) : ∃ (R : Int32) (μ1 : Mem), Ct yX7_ends 3 cX7_ends (some .boolean) 1 [.inr 0, .inl a, .inl b] μ (Is (some (.inl R)) μ1) ∧ μ1 63 = μ 63 ∧ Ct yX8_ends 3 cX8_ends (some .boolean) 2 [.inr 39, .inl a, .inl b] μ1 (fun r μ2 => r = some (.inl R) ∧ RLL μ2 μ2 ∧ μ2 63 = μ 63) := by
  obtain ⟨h1, h2, h3, h4, h5, h6, h7, h8, h9, h10, h11, h12, h13, h14⟩ := id h
  obtain ⟨a1, a2, a3, a4, a5, a6, a7, a8, a9, a10, a11⟩ := id h1
  obtain ⟨b1, b2, b3, b4, b5, b6, b7, b8, b9, b10, b11⟩ := id h2
  obtain ⟨nt, nv, nr, nb, nh, et, ev, er, eb, eh⟩ := IA_12 h9
  have cf := cF_ends (μ := μ) (a := a) (b := b)
  have h1 := pre_r h cf
  have i9 := h1.2.2.2.2.2.2.2.2.1
  obtain ⟨ee, r⟩ := s_ends h1 a b
  refine ⟨_, _, k7_ends μ a b (by rw [a8]; exact h9.2.2.2.2.2.1.1) (by rw [a8]; exact h9.2.2.2.2.2.1.2), cf 63 (by decide), ?_⟩
  refine Ct.post (k8_ends (cg_ends μ a b) a b i9.2.2.2.2.2.1.1 i9.2.2.2.2.2.1.2) ?_
  rintro r2 μ2 ⟨rfl, rfl⟩
  exact ⟨by rw [ee], pair_end cf gF_ends r⟩
theorem p_rule {μ : Mem} (h : RLL μ μ) (a b : Int32) : ∃ (R : Int32) (μ1 : Mem), Ct yX7_rule 3 cX7_rule (some .int) 1 [.inr 0, .inl a, .inl b] μ (Is (some (.inl R)) μ1) ∧ μ1 63 = μ 63 ∧ Ct yX8_rule 3 cX8_rule (some .int) 1 [.inr 39, .inl a, .inl b] μ1 (fun r μ2 => r = some (.inl R) ∧ RLL μ2 μ2 ∧ μ2 63 = μ 63) := by
  obtain ⟨h1, h2, h3, h4, h5, h6, h7, h8, h9, h10, h11, h12, h13, h14⟩ := id h
  obtain ⟨a1, a2, a3, a4, a5, a6, a7, a8, a9, a10, a11⟩ := id h1
  obtain ⟨b1, b2, b3, b4, b5, b6, b7, b8, b9, b10, b11⟩ := id h2
  obtain ⟨nt, nv, nr, nb, nh, et, ev, er, eb, eh⟩ := IA_12 h9
  have cf := cF_rule (μ := μ) (a := a) (b := b)
  have h1 := pre_r h cf
  have i9 := h1.2.2.2.2.2.2.2.2.1
  obtain ⟨ee, r⟩ := s_rule h1 a b
  refine ⟨_, _, k7_rule μ a b (by rw [a4]; exact h9.2.2.1.1) (by rw [a4]; exact h9.2.2.1.2), cf 63 (by decide), ?_⟩
  refine Ct.post (k8_rule (cg_rule μ a b) a b i9.2.2.1.1 i9.2.2.1.2) ?_
  rintro r2 μ2 ⟨rfl, rfl⟩
  exact ⟨by rw [ee], pair_end cf gF_rule r⟩
theorem p_forget {μ : Mem} (h : RLL μ μ) (a : Int32) : ∃ (R : Int32) (μ1 : Mem), Ct yX7_forget 2 cX7_forget (some .boolean) 1 [.inr 0, .inl a] μ (Is (some (.inl R)) μ1) ∧ μ1 63 = μ 63 ∧ Ct yX8_forget 2 cX8_forget (some .boolean) 1 [.inr 39, .inl a] μ1 (fun r μ2 => r = some (.inl R) ∧ RLL μ2 μ2 ∧ μ2 63 = μ 63) := by
  obtain ⟨h1, h2, h3, h4, h5, h6, h7, h8, h9, h10, h11, h12, h13, h14⟩ := id h
  obtain ⟨a1, a2, a3, a4, a5, a6, a7, a8, a9, a10, a11⟩ := id h1
  obtain ⟨b1, b2, b3, b4, b5, b6, b7, b8, b9, b10, b11⟩ := id h2
  obtain ⟨nt, nv, nr, nb, nh, et, ev, er, eb, eh⟩ := IA_12 h9
  have cf := cF_forget (μ := μ) (a := a)
  have h1 := pre_r h cf
  have i9 := h1.2.2.2.2.2.2.2.2.1
  obtain ⟨ee, r⟩ := s_forget h1 a
  refine ⟨_, _, k7_forget μ a , cf 63 (by decide), ?_⟩
  refine Ct.post (k8_forget (cg_forget μ a) a ) ?_
  rintro r2 μ2 ⟨rfl, rfl⟩
  exact ⟨by rw [ee], pair_end cf gF_forget r⟩
theorem p_days {μ : Mem} (h : RLL μ μ) (a : Int32) : ∃ (R : Int32) (μ1 : Mem), Ct yX7_days 4 cX7_days (some .int) 4 [.inr 0, .inl a] μ (Is (some (.inl R)) μ1) ∧ μ1 63 = μ 63 ∧ Ct yX8_days 4 cX8_days (some .int) 6 [.inr 39, .inl a] μ1 (fun r μ2 => r = some (.inl R) ∧ RLL μ2 μ2 ∧ μ2 63 = μ 63) := by
  obtain ⟨h1, h2, h3, h4, h5, h6, h7, h8, h9, h10, h11, h12, h13, h14⟩ := id h
  obtain ⟨a1, a2, a3, a4, a5, a6, a7, a8, a9, a10, a11⟩ := id h1
  obtain ⟨b1, b2, b3, b4, b5, b6, b7, b8, b9, b10, b11⟩ := id h2
  obtain ⟨nt, nv, nr, nb, nh, et, ev, er, eb, eh⟩ := IA_12 h9
  have cf := cF_days (μ := μ) (a := a)
  have h1 := pre_r h cf
  have i9 := h1.2.2.2.2.2.2.2.2.1
  obtain ⟨ee, r⟩ := s_days h1 a
  refine ⟨_, _, k7_days μ a (by rw [a7]; exact h9.2.1.1) (by rw [a7]; exact h9.2.1.2) (by rw [a8]; exact h9.2.2.2.2.2.1.1) (by rw [a8]; exact h9.2.2.2.2.2.1.2) (s_COk h) (by rw [a1]; exact h9.2.2.2.2.2.2.1.1) (by rw [a1]; exact h9.2.2.2.2.2.2.1.2) (by rw [a10]; exact h9.2.2.2.2.2.2.2.1) (by rw [a10, a1]; exact h9.2.2.2.2.2.2.2.2), cf 63 (by decide), ?_⟩
  have q := k8_days (cg_days μ a) (cg_days μ a 59) a i9.2.1.1 i9.2.1.2 (s_VsOk h1) i9.2.2.2.2.2.1.1 i9.2.2.2.2.2.1.2 (s_TsOk h1) i9.2.2.1.1 i9.2.2.1.2 i9.2.2.2.2.2.2.1.1 i9.2.2.2.2.2.2.1.2 i9.2.2.2.2.2.2.2.1 i9.2.2.2.2.2.2.2.2
  rw [wr_self] at q
  refine Ct.post q ?_
  rintro r2 μ2 ⟨rfl, ρ, rfl⟩
  exact ⟨by rw [ee], pair_e59 cf gF_days r⟩
theorem p_versionOf {μ : Mem} (h : RLL μ μ) (a b : Int32) : ∃ (R : Int32) (μ1 : Mem), Ct yX7_versionOf 3 cX7_versionOf (some .int) 4 [.inr 0, .inl a, .inl b] μ (Is (some (.inl R)) μ1) ∧ μ1 63 = μ 63 ∧ Ct yX8_versionOf 3 cX8_versionOf (some .int) 5 [.inr 39, .inl a, .inl b] μ1 (fun r μ2 => r = some (.inl R) ∧ RLL μ2 μ2 ∧ μ2 63 = μ 63) := by
  obtain ⟨h1, h2, h3, h4, h5, h6, h7, h8, h9, h10, h11, h12, h13, h14⟩ := id h
  obtain ⟨a1, a2, a3, a4, a5, a6, a7, a8, a9, a10, a11⟩ := id h1
  obtain ⟨b1, b2, b3, b4, b5, b6, b7, b8, b9, b10, b11⟩ := id h2
  obtain ⟨nt, nv, nr, nb, nh, et, ev, er, eb, eh⟩ := IA_12 h9
  have h1 := h
  have i9 := h9
  have cf : CF μ μ := CF_r
  have gf : GF μ μ := GF_r
  refine ⟨_, _, k7_versionOf μ a b (by rw [a7]; exact h9.2.1.1) (by rw [a7]; exact h9.2.1.2) (by rw [a8]; exact h9.2.2.2.2.2.1.1) (by rw [a8]; exact h9.2.2.2.2.2.1.2) (s_COk h), rfl, ?_⟩
  have q := k8_versionOf μ (μ 59) a b i9.2.1.1 i9.2.1.2 (s_VsOk h1) i9.2.2.2.2.2.1.1 i9.2.2.2.2.2.1.2 (s_TsOk h1) i9.2.2.1.1 i9.2.2.1.2 (s_T9 h1) i9.2.2.2.2.2.2.1.1 i9.2.2.2.2.2.2.1.2
  rw [wr_self] at q
  refine Ct.post q ?_
  rintro r2 μ2 ⟨rfl, ρ, rfl⟩
  exact ⟨by rw [s_vof h], pair_e59 cf gf h⟩
theorem p_would {μ : Mem} (h : RLL μ μ) (a b : Int32) : ∃ (R : Int32) (μ1 : Mem), Ct yX7_would 6 cX7_would (some .int) 4 [.inr 0, .inl a, .inl b] μ (Is (some (.inl R)) μ1) ∧ μ1 63 = μ 63 ∧ Ct yX8_would 6 cX8_would (some .int) 5 [.inr 39, .inl a, .inl b] μ1 (fun r μ2 => r = some (.inl R) ∧ RLL μ2 μ2 ∧ μ2 63 = μ 63) := by
  obtain ⟨h1, h2, h3, h4, h5, h6, h7, h8, h9, h10, h11, h12, h13, h14⟩ := id h
  obtain ⟨a1, a2, a3, a4, a5, a6, a7, a8, a9, a10, a11⟩ := id h1
  obtain ⟨b1, b2, b3, b4, b5, b6, b7, b8, b9, b10, b11⟩ := id h2
  obtain ⟨nt, nv, nr, nb, nh, et, ev, er, eb, eh⟩ := IA_12 h9
  have h1 := h
  have i9 := h9
  have cf : CF μ μ := CF_r
  have gf : GF μ μ := GF_r
  refine ⟨_, _, k7_would μ a b (by rw [a7]; exact h9.2.1.1) (by rw [a7]; exact h9.2.1.2) (by rw [a8]; exact h9.2.2.2.2.2.1.1) (by rw [a8]; exact h9.2.2.2.2.2.1.2) (s_COk h), rfl, ?_⟩
  have q := k8_would μ (μ 59) a b i9.2.1.1 i9.2.1.2 (s_VsOk h1) i9.2.2.2.2.2.1.1 i9.2.2.2.2.2.1.2 (s_TsOk h1) i9.2.2.1.1 i9.2.2.1.2 (s_T9 h1) i9.2.2.2.2.2.2.1.1 i9.2.2.2.2.2.2.1.2
  rw [wr_self] at q
  refine Ct.post q ?_
  rintro r2 μ2 ⟨rfl, ρ, rfl⟩
  exact ⟨by rw [s_would h], pair_e59 cf gf h⟩
theorem p_fits {μ : Mem} (h : RLL μ μ) (a : Int32) : ∃ (R : Int32) (μ1 : Mem), Ct yX7_fits 4 cX7_fits (some .int) 2 [.inr 0, .inl a] μ (Is (some (.inl R)) μ1) ∧ μ1 63 = μ 63 ∧ Ct yX8_fits 4 cX8_fits (some .int) 3 [.inr 39, .inl a] μ1 (fun r μ2 => r = some (.inl R) ∧ RLL μ2 μ2 ∧ μ2 63 = μ 63) := by
  obtain ⟨h1, h2, h3, h4, h5, h6, h7, h8, h9, h10, h11, h12, h13, h14⟩ := id h
  obtain ⟨a1, a2, a3, a4, a5, a6, a7, a8, a9, a10, a11⟩ := id h1
  obtain ⟨b1, b2, b3, b4, b5, b6, b7, b8, b9, b10, b11⟩ := id h2
  obtain ⟨nt, nv, nr, nb, nh, et, ev, er, eb, eh⟩ := IA_12 h9
  have h1 := h
  have i9 := h9
  have cf : CF μ μ := CF_r
  have gf : GF μ μ := GF_r
  refine ⟨_, _, k7_fits μ a (by rw [a7]; exact h9.2.1.1) (by rw [a7]; exact h9.2.1.2), rfl, ?_⟩
  have q := k8_fits μ (μ 59) a i9.2.1.1 i9.2.1.2 (s_VsOk h1) i9.2.2.2.2.2.1.1 i9.2.2.2.2.2.1.2 (s_TsOk h1)
  rw [wr_self] at q
  refine Ct.post q ?_
  rintro r2 μ2 ⟨rfl, ρ, rfl⟩
  exact ⟨by rw [s_fits h], pair_e59 cf gf h⟩
theorem p_fit {μ : Mem} (h : RLL μ μ) (a b : Int32) : ∃ (R : Int32) (μ1 : Mem), Ct yX7_fit 5 cX7_fit (some .int) 2 [.inr 0, .inl a, .inl b] μ (Is (some (.inl R)) μ1) ∧ μ1 63 = μ 63 ∧ Ct yX8_fit 5 cX8_fit (some .int) 3 [.inr 39, .inl a, .inl b] μ1 (fun r μ2 => r = some (.inl R) ∧ RLL μ2 μ2 ∧ μ2 63 = μ 63) := by
  obtain ⟨h1, h2, h3, h4, h5, h6, h7, h8, h9, h10, h11, h12, h13, h14⟩ := id h
  obtain ⟨a1, a2, a3, a4, a5, a6, a7, a8, a9, a10, a11⟩ := id h1
  obtain ⟨b1, b2, b3, b4, b5, b6, b7, b8, b9, b10, b11⟩ := id h2
  obtain ⟨nt, nv, nr, nb, nh, et, ev, er, eb, eh⟩ := IA_12 h9
  have h1 := h
  have i9 := h9
  have cf : CF μ μ := CF_r
  have gf : GF μ μ := GF_r
  refine ⟨_, _, k7_fit μ a b (by rw [a7]; exact h9.2.1.1) (by rw [a7]; exact h9.2.1.2), rfl, ?_⟩
  have q := k8_fit μ (μ 59) a b i9.2.1.1 i9.2.1.2 (s_VsOk h1) i9.2.2.2.2.2.1.1 i9.2.2.2.2.2.1.2 (s_TsOk h1)
  rw [wr_self] at q
  refine Ct.post q ?_
  rintro r2 μ2 ⟨rfl, ρ, rfl⟩
  exact ⟨by rw [s_fit h], pair_e59 cf gf h⟩
theorem p_record {μ : Mem} (h : RLL μ μ) (a b : Int32) : ∃ (R : Int32) (μ1 : Mem), Ct yX7_record 3 cX7_record (some .int) 2 [.inr 0, .inl a, .inl b] μ (Is (some (.inl R)) μ1) ∧ μ1 63 = μ 63 ∧ Ct yX8_record 3 cX8_record (some .int) 1 [.inr 39, .inl a, .inl b] μ1 (fun r μ2 => r = some (.inl R) ∧ RLL μ2 μ2 ∧ μ2 63 = μ 63) := by
  obtain ⟨h1, h2, h3, h4, h5, h6, h7, h8, h9, h10, h11, h12, h13, h14⟩ := id h
  obtain ⟨a1, a2, a3, a4, a5, a6, a7, a8, a9, a10, a11⟩ := id h1
  obtain ⟨b1, b2, b3, b4, b5, b6, b7, b8, b9, b10, b11⟩ := id h2
  obtain ⟨nt, nv, nr, nb, nh, et, ev, er, eb, eh⟩ := IA_12 h9
  have h1 := h
  have i9 := h9
  have cf : CF μ μ := CF_r
  have gf : GF μ μ := GF_r
  refine ⟨_, _, k7_record μ a b , rfl, ?_⟩
  refine Ct.post (k8_record μ a b (by simpa [Int32.le_iff_toInt_le] using i9.2.2.2.2.2.2.2.1)) ?_
  rintro r2 μ2 ⟨rfl, rfl⟩
  exact ⟨by rw [s_record h], pair_end cf gf h⟩
theorem p_chain {μ : Mem} (h : RLL μ μ) : ∃ (R : Int32) (μ1 : Mem), Ct yX7_chain 1 cX7_chain (some .int) 0 [.inr 0] μ (Is (some (.inl R)) μ1) ∧ μ1 63 = μ 63 ∧ Ct yX8_chain 1 cX8_chain (some .int) 0 [.inr 39] μ1 (fun r μ2 => r = some (.inl R) ∧ RLL μ2 μ2 ∧ μ2 63 = μ 63) := by
  obtain ⟨h1, h2, h3, h4, h5, h6, h7, h8, h9, h10, h11, h12, h13, h14⟩ := id h
  obtain ⟨a1, a2, a3, a4, a5, a6, a7, a8, a9, a10, a11⟩ := id h1
  obtain ⟨b1, b2, b3, b4, b5, b6, b7, b8, b9, b10, b11⟩ := id h2
  obtain ⟨nt, nv, nr, nb, nh, et, ev, er, eb, eh⟩ := IA_12 h9
  have h1 := h
  have i9 := h9
  have cf : CF μ μ := CF_r
  have gf : GF μ μ := GF_r
  refine ⟨_, _, k7_chain μ  , rfl, ?_⟩
  refine Ct.post (k8_chain μ  ) ?_
  rintro r2 μ2 ⟨rfl, rfl⟩
  exact ⟨by rw [a11], pair_end cf gf h⟩
theorem p_about {μ : Mem} (h : RLL μ μ) (a : Int32) : ∃ (R : Int32) (μ1 : Mem), Ct yX7_about 2 cX7_about (some .int) 4 [.inr 0, .inl a] μ (Is (some (.inl R)) μ1) ∧ μ1 63 = μ 63 ∧ Ct yX8_about 4 cX8_about (some .int) 5 [.inr 39, .inl a] μ1 (fun r μ2 => r = some (.inl R) ∧ RLL μ2 μ2 ∧ μ2 63 = μ 63) := by
  obtain ⟨h1, h2, h3, h4, h5, h6, h7, h8, h9, h10, h11, h12, h13, h14⟩ := id h
  obtain ⟨a1, a2, a3, a4, a5, a6, a7, a8, a9, a10, a11⟩ := id h1
  obtain ⟨b1, b2, b3, b4, b5, b6, b7, b8, b9, b10, b11⟩ := id h2
  obtain ⟨nt, nv, nr, nb, nh, et, ev, er, eb, eh⟩ := IA_12 h9
  have h1 := h
  have i9 := h9
  have cf : CF μ μ := CF_r
  have gf : GF μ μ := GF_r
  refine ⟨_, _, k7_about μ a (by rw [a6]; exact h9.1.2) (by rw [a7]; exact h9.2.1.1) (by rw [a7]; exact h9.2.1.2) (by rw [a8]; exact h9.2.2.2.2.2.1.1) (by rw [a8]; exact h9.2.2.2.2.2.1.2) (s_COk h), rfl, ?_⟩
  have q := k8_about μ (μ 59) a i9.1.1 i9.1.2 i9.2.1.1 i9.2.1.2 (s_VsOk h1) i9.2.2.2.2.2.1.1 i9.2.2.2.2.2.1.2 (s_TsOk h1) i9.2.2.1.1 i9.2.2.1.2
  rw [wr_self] at q
  refine Ct.post q ?_
  rintro r2 μ2 ⟨rfl, ρ, rfl⟩
  exact ⟨by rw [s_about h], pair_e59 cf gf h⟩
theorem p_hold {μ : Mem} (h : RLL μ μ) (a : Int32) : ∃ (R : Int32) (μ1 : Mem), Ct yX7_hold 3 cX7_hold (some .int) 6 [.inr 0, .inl a] μ (Is (some (.inl R)) μ1) ∧ μ1 63 = μ 63 ∧ Ct yX8_hold 2 cX8_hold (some .int) 7 [.inr 39, .inl a] μ1 (fun r μ2 => r = some (.inl R) ∧ RLL μ2 μ2 ∧ μ2 63 = μ 63) := by
  obtain ⟨h1, h2, h3, h4, h5, h6, h7, h8, h9, h10, h11, h12, h13, h14⟩ := id h
  obtain ⟨a1, a2, a3, a4, a5, a6, a7, a8, a9, a10, a11⟩ := id h1
  obtain ⟨b1, b2, b3, b4, b5, b6, b7, b8, b9, b10, b11⟩ := id h2
  obtain ⟨nt, nv, nr, nb, nh, et, ev, er, eb, eh⟩ := IA_12 h9
  obtain ⟨rr, re, rt, gr⟩ := s_read h
  have cf := cF_hold (μ := μ) (a := a) (by rw [cH_eq rr, nH, irM_39 (by decide)]; have : (μ 39 20).toNatClampNeg ≤ 12 := nh; omega)
  have h1 := pre_r h cf
  have i9 := h1.2.2.2.2.2.2.2.2.1
  obtain ⟨ee, r⟩ := s_hold h1 a
  obtain ⟨rr1, re1, rt1, -⟩ := s_read h1
  refine ⟨_, _, k7_hold μ a GR GR_go gr ctt_Kt (by rw [a7]; exact h9.2.1.1) (by rw [a7]; exact h9.2.1.2) (by rw [a8]; exact h9.2.2.2.2.2.1.1) (by rw [a8]; exact h9.2.2.2.2.2.1.2) (s_COk h) (fun z => TR_CTk (rt (re.symm.trans z))), cf 63 (by decide), ?_⟩
  refine Ct.post (k8_hold2 (cg_hold μ a) a i9.2.2.2.2.1.1 i9.2.2.2.2.1.2 i9.2.2.2.2.2.1.1 i9.2.2.2.2.2.1.2 (irM_39 (by decide)) (fun z => by obtain ⟨L, -, t2, t3, -⟩ := rt1 z; exact ⟨L, t2, t3⟩)) ?_
  rintro r2 μ2 ⟨rfl, rfl⟩
  exact ⟨by rw [ee], pair_end cf gF_hold r⟩
theorem p_change {μ : Mem} (h : RLL μ μ) (a : Int32) : ∃ (R : Int32) (μ1 : Mem), Ct yX7_change 2 cX7_change (some .boolean) 6 [.inr 0, .inl a] μ (Is (some (.inl R)) μ1) ∧ μ1 63 = μ 63 ∧ Ct yX8_change 2 cX8_change (some .boolean) 7 [.inr 39, .inl a] μ1 (fun r μ2 => r = some (.inl R) ∧ RLL μ2 μ2 ∧ μ2 63 = μ 63) := by
  obtain ⟨h1, h2, h3, h4, h5, h6, h7, h8, h9, h10, h11, h12, h13, h14⟩ := id h
  obtain ⟨a1, a2, a3, a4, a5, a6, a7, a8, a9, a10, a11⟩ := id h1
  obtain ⟨b1, b2, b3, b4, b5, b6, b7, b8, b9, b10, b11⟩ := id h2
  obtain ⟨nt, nv, nr, nb, nh, et, ev, er, eb, eh⟩ := IA_12 h9
  obtain ⟨rr, re, rt, gr⟩ := s_read h
  have cf := cF_change (μ := μ) (a := a) (fun ok => by obtain ⟨H, hH, -, hc⟩ := h_lt h9 (by rw [← a8]; exact ok.1); rw [hc]; omega)
  have h1 := pre_r h cf
  have i9 := h1.2.2.2.2.2.2.2.2.1
  obtain ⟨ee, r⟩ := s_change h1 a
  obtain ⟨rr1, re1, rt1, -⟩ := s_read h1
  refine ⟨_, _, k7_change μ a GR GR_go gr ctt_Kt (by rw [a7]; exact h9.2.1.1) (by rw [a7]; exact h9.2.1.2) (by rw [a8]; exact h9.2.2.2.2.2.1.1) (by rw [a8]; exact h9.2.2.2.2.2.1.2) (s_COk h) (fun z => TR_CTk (rt (re.symm.trans z))), cf 63 (by decide), ?_⟩
  refine Ct.post (k8_change2 (cg_change μ a) a i9.2.2.2.2.1.1 i9.2.2.2.2.1.2 i9.2.2.2.2.2.1.1 i9.2.2.2.2.2.1.2 (fun z => by obtain ⟨L, -, t2, t3, -⟩ := rt1 z; exact ⟨L, t2, t3⟩)) ?_
  rintro r2 μ2 ⟨rfl, rfl⟩
  exact ⟨by rw [ee], pair_end cf gF_change r⟩
theorem p_touch {μ : Mem} (h : RLL μ μ) (a b : Int32) : ∃ (R : Int32) (μ1 : Mem), Ct yX7_touch 8 cX7_touch (some .int) 6 [.inr 0, .inl a, .inl b] μ (Is (some (.inl R)) μ1) ∧ μ1 63 = μ 63 ∧ Ct yX8_touch 5 cX8_touch (some .int) 7 [.inr 39, .inl a, .inl b] μ1 (fun r μ2 => r = some (.inl R) ∧ RLL μ2 μ2 ∧ μ2 63 = μ 63) := by
  obtain ⟨h1, h2, h3, h4, h5, h6, h7, h8, h9, h10, h11, h12, h13, h14⟩ := id h
  obtain ⟨a1, a2, a3, a4, a5, a6, a7, a8, a9, a10, a11⟩ := id h1
  obtain ⟨b1, b2, b3, b4, b5, b6, b7, b8, b9, b10, b11⟩ := id h2
  obtain ⟨nt, nv, nr, nb, nh, et, ev, er, eb, eh⟩ := IA_12 h9
  obtain ⟨rr, re, rt, gr⟩ := s_read h
  have cf := cF_touch (μ := μ) (a := a) (b := b)
  have h1 := pre_r h cf
  have i9 := h1.2.2.2.2.2.2.2.2.1
  obtain ⟨ee, r⟩ := s_touch h1 a b
  obtain ⟨rr1, re1, rt1, -⟩ := s_read h1
  refine ⟨_, _, k7_touch μ a b GR GR_go gr ctt_Kt (by rw [a7]; exact h9.2.1.1) (by rw [a7]; exact h9.2.1.2) (by rw [a8]; exact h9.2.2.2.2.2.1.1) (by rw [a8]; exact h9.2.2.2.2.2.1.2) (s_COk h) (fun z => TR_CTk (rt (re.symm.trans z))), cf 63 (by decide), ?_⟩
  refine Ct.post (k8_touch (cg_touch μ a b) a b i9.2.2.2.2.1.1 i9.2.2.2.2.1.2 i9.2.1.1 i9.2.1.2 i9.2.2.2.2.2.1.1 i9.2.2.2.2.2.1.2 (irM_39 (by decide)) (irM_39 (by decide)) (s_VsOk rr1) (s_TsOk rr1) (fun z => TR_TOk (rt1 z))) ?_
  rintro r2 μ2 ⟨rfl, ρ, rfl⟩
  exact ⟨by rw [ee], pair_e59 cf gF_touch r⟩
