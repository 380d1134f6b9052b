/-! what the calls leave alone -/
def CF (μ μ' : Mem) : Prop := ∀ a, 39 ≤ a → μ' a = μ a
theorem CF_r {μ : Mem} : CF μ μ := fun _ _ => rfl
theorem CF_t {μ μ' μ'' : Mem} (h : CF μ μ') (g : CF μ' μ'') : CF μ μ'' := fun a ha => by rw [g a ha, h a ha]
theorem CF_m {μ : Mem} {k j : Nat} {x : Int32} (hk : k < 39) : CF μ (mset μ k j x) := fun a ha => mset_ne a (by omega)
theorem CF_if {p : Prop} [Decidable p] {μ a b : Mem} (h1 : p → CF μ a) (h2 : ¬ p → CF μ b) : CF μ (if p then a else b) := by
  split
  · exact h1 (by assumption)
  · exact h2 (by assumption)
theorem CF_Cr {μ μ' : Mem} (h : Cr μ μ') : CF μ μ' := fun a ha => h a (by omega)
def GF (ν ν' : Mem) : Prop := ∀ a, (a < 39 ∨ 63 ≤ a) → ν' a = ν a
theorem GF_r {ν : Mem} : GF ν ν := fun _ _ => rfl
theorem GF_t {μ μ' μ'' : Mem} (h : GF μ μ') (g : GF μ' μ'') : GF μ μ'' := fun a ha => by rw [g a ha, h a ha]
theorem GF_m {μ : Mem} {k j : Nat} {x : Int32} (hk : 39 ≤ k ∧ k < 63) : GF μ (mset μ k j x) := fun a ha => mset_ne a (by omega)
theorem GF_if {p : Prop} [Decidable p] {μ a b : Mem} (h1 : p → GF μ a) (h2 : ¬ p → GF μ b) : GF μ (if p then a else b) := by
  split
  · exact h1 (by assumption)
  · exact h2 (by assumption)
theorem GF_wr {μ μ' : Mem} {ρ : Nat → Int32} (h : GF μ μ') : GF μ (wr μ' ρ) := fun a ha => by rw [wr_app, if_neg (by omega), h a ha]
theorem cF_thing {μ : Mem} {a b : Int32} : CF μ (cg_thing μ a b) := CF_if (fun _ => CF_t (CF_t (CF_t (CF_m (by decide)) (CF_m (by decide))) (CF_m (by decide))) (CF_m (by decide))) (fun _ => CF_r)
theorem gF_thing {μ : Mem} {a b : Int32} : GF μ (gf_thing μ a b) := GF_if (fun _ => GF_t (GF_t (GF_t (GF_m (by decide)) (GF_m (by decide))) (GF_m (by decide))) (GF_m (by decide))) (fun _ => GF_r)
theorem cF_version {μ : Mem} {a b c : Int32} : CF μ (cg_version μ a b c) := CF_if (fun _ => CF_t (CF_t (CF_t (CF_t (CF_t (CF_m (by decide)) (CF_m (by decide))) (CF_m (by decide))) (CF_m (by decide))) (CF_m (by decide))) (CF_Cr (cfs_r _))) (fun _ => CF_r)
theorem gF_version {μ : Mem} {a b c : Int32} : GF μ (gf_version μ a b c) := GF_if (fun _ => GF_t (GF_t (GF_t (GF_t (GF_m (by decide)) (GF_m (by decide))) (GF_m (by decide))) (GF_m (by decide))) (GF_m (by decide))) (fun _ => GF_r)
theorem cF_gives {μ : Mem} {a b : Int32} : CF μ (cg_gives μ a b) := CF_if (fun _ => CF_t (fun r hr => cgv_row (by omega) (by omega) _) (CF_Cr (cgg_r _))) (fun _ => CF_r)
theorem gF_gives {μ : Mem} {a b : Int32} : GF μ (gf_gives μ a b) := GF_if (fun _ => fun r hr => gvm_row (by omega) (by omega) _) (fun _ => GF_r)
theorem cF_copy {μ : Mem} {a b : Int32} : CF μ (cg_copy μ a b) := CF_if (fun _ => CF_m (by decide)) (fun _ => CF_r)
theorem gF_copy {μ : Mem} {a b : Int32} : GF μ (gf_copy μ a b) := GF_if (fun _ => GF_m (by decide)) (fun _ => GF_r)
theorem cF_move {μ : Mem} {a b c : Int32} : CF μ (cg_move μ a b c) := CF_if (fun _ => CF_m (by decide)) (fun _ => CF_r)
theorem gF_move {μ : Mem} {a b c : Int32} : GF μ (gf_move μ a b c) := GF_if (fun _ => GF_m (by decide)) (fun _ => GF_r)
theorem cF_broken {μ : Mem} {a b : Int32} : CF μ (cg_broken μ a b) := CF_if (fun _ => CF_m (by decide)) (fun _ => CF_r)
theorem gF_broken {μ : Mem} {a b : Int32} : GF μ (gf_broken μ a b) := GF_if (fun _ => GF_m (by decide)) (fun _ => GF_r)
theorem cF_backup {μ : Mem} {a : Int32} : CF μ (cg_backup μ a) := CF_if (fun _ => CF_t (CF_t (CF_m (by decide)) (CF_m (by decide))) (fun r hr => ckp_row (by omega) _)) (fun _ => CF_r)
theorem gF_backup {μ : Mem} {a : Int32} : GF μ (gf_backup μ a) := GF_if (fun _ => GF_t (fun r hr => bkm_row (by omega) (by omega) _) (GF_m (by decide))) (fun _ => GF_r)
theorem cF_restore {μ : Mem} {a : Int32} : CF μ (cg_restore μ a) := CF_if (fun _ => fun r hr => cbb_row (by omega) _) (fun _ => CF_r)
theorem gF_restore {μ : Mem} {a : Int32} : GF μ (gf_restore μ a) := GF_if (fun _ => fun r hr => rsm_row (by omega) _) (fun _ => GF_r)
theorem cF_pb {μ : Mem} {x : Int32} : CF μ (cpb μ x) := CF_t (CF_m (by decide)) (CF_m (by decide))
theorem cF_f4 {μ : Mem} {x : Int32} : CF μ (cf4 μ x) := CF_t (CF_t (CF_t cF_pb cF_pb) cF_pb) cF_pb
theorem cF_feed {μ : Mem} {a b c d e : Int32} : CF μ (cg_feed μ a b c d e) := CF_if (fun _ => CF_t (CF_t (CF_t (CF_t cF_f4 cF_f4) cF_f4) cF_f4) cF_f4) (fun _ => CF_r)
theorem gF_pb {μ : Mem} {x : Int32} : GF μ (pb μ x) := GF_t (GF_m (by decide)) (GF_m (by decide))
theorem gF_f4 {μ : Mem} {x : Int32} : GF μ (f4 μ x) := GF_t (GF_t (GF_t gF_pb gF_pb) gF_pb) gF_pb
theorem gF_feed {μ : Mem} {a b c d e : Int32} : GF μ (gf_feed μ a b c d e) := GF_if (fun _ => GF_t (GF_t (GF_t (GF_t gF_f4 gF_f4) gF_f4) gF_f4) gF_f4) (fun _ => GF_r)
theorem cF_end {μ : Mem} {a : Int32} : CF μ (cg_end μ a) := CF_if (fun _ => CF_m (by decide)) (fun _ => CF_r)
theorem gF_end {μ : Mem} {a : Int32} : GF μ (gf_end μ a) := GF_if (fun _ => GF_m (by decide)) (fun _ => GF_r)
theorem cF_ends {μ : Mem} {a b : Int32} : CF μ (cg_ends μ a b) := CF_if (fun _ => CF_m (by decide)) (fun _ => CF_r)
theorem gF_ends {μ : Mem} {a b : Int32} : GF μ (gf_ends μ a b) := GF_if (fun _ => GF_m (by decide)) (fun _ => GF_r)
theorem cF_rule {μ : Mem} {a b : Int32} : CF μ (cg_rule μ a b) := CF_if (fun _ => CF_t (CF_m (by decide)) (CF_m (by decide))) (fun _ => CF_r)
theorem gF_rule {μ : Mem} {a b : Int32} : GF μ (gf_rule μ a b) := GF_if (fun _ => GF_t (GF_t (GF_m (by decide)) (GF_m (by decide))) (GF_m (by decide))) (fun _ => GF_r)
theorem cF_forget {μ : Mem} {a : Int32} : CF μ (cg_forget μ a) := CF_if (fun _ => CF_m (by decide)) (fun _ => CF_r)
theorem gF_forget {μ : Mem} {a : Int32} : GF μ (gf_forget μ a) := GF_if (fun _ => GF_m (by decide)) (fun _ => GF_r)
theorem cF_days {μ : Mem} {a : Int32} : CF μ (cg_days μ a) := CF_if (fun _ => fun r hr => cdays_ne (by omega) (by omega) (by omega) (by omega) _) (fun _ => CF_r)
theorem gF_daym {μ : Mem} : ∀ k, GF μ (daym μ k)
  | 0 => GF_r
  | k + 1 => by
    unfold daym
    exact GF_t (GF_t (gF_daym k) (fun r hr => (edm_ag _).1 r (by omega) (by omega) (by omega) (by omega) (by omega))) (GF_m (by decide))
theorem gF_days {μ : Mem} {a : Int32} : GF μ (gf_days μ a) := GF_if (fun _ => gF_daym _) (fun _ => GF_r)
theorem cF_ctt {μ : Mem} : CF μ (ctt μ) := fun r hr => ctt_Kt r (by omega) (by omega) (by omega) (by omega) (by omega)
theorem gF_irM {μ : Mem} : GF μ (irM μ) := fun r hr => irM_ne (by omega)
theorem gF_kpm {μ : Mem} {H n : Nat} : GF μ (kpm μ H n) := fun r hr => kpm_row (by omega) (by omega) (by omega) (by omega) n
theorem cF_touch {μ : Mem} {a b : Int32} : CF μ (cg_touch μ a b) := CF_if (fun _ => cF_ctt) (fun _ => CF_r)
theorem gF_touch {μ : Mem} {a b : Int32} : GF μ (gf_touch μ a b) := GF_if (fun _ => gF_irM) (fun _ => GF_r)
theorem cF_ctk {μ : Mem} {H : Nat} (hH : H < 13) : CF μ (ctk μ H) := fun r hr => ctk_o (by omega) (by omega)
theorem cF_hold {μ : Mem} {a : Int32} (hH : cH (ctt μ) < 13) : CF μ (cg_hold μ a) := CF_if (fun _ => CF_if (fun _ => CF_t cF_ctt (CF_t (CF_t (CF_t (CF_t (CF_m (by decide)) (CF_m (by decide))) (CF_m (by decide))) (cF_ctk hH)) (CF_Cr (cfv_r _)))) (fun _ => cF_ctt)) (fun _ => CF_r)
theorem gF_hold {μ : Mem} {a : Int32} : GF μ (gf_hold μ a) := GF_if (fun _ => GF_if (fun _ => GF_t gF_irM (GF_t (GF_t (GF_t gF_kpm (GF_m (by decide))) (GF_m (by decide))) (GF_m (by decide)))) (fun _ => gF_irM)) (fun _ => GF_r)
theorem cF_change {μ : Mem} {a : Int32} (hH : oc_change μ a → a.toNatClampNeg < 13) : CF μ (cg_change μ a) := CF_if (fun ok => CF_if (fun _ => CF_t cF_ctt (CF_t (cF_ctk (hH ok)) (CF_Cr (cfv_r _)))) (fun _ => cF_ctt)) (fun _ => CF_r)
theorem gF_change {μ : Mem} {a : Int32} : GF μ (gf_change μ a) := GF_if (fun _ => GF_if (fun _ => GF_t gF_irM gF_kpm) (fun _ => gF_irM)) (fun _ => GF_r)
