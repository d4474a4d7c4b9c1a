/-! frontiers, spread, loops, rings: what the answers are -/
/-- w is in the frontier of v -/
def sp_Fr (n : Nat) (L : Nat → Int64) (r v w : Nat) : Prop := ∃ u, dm_D (gf_E n L) r v u ∧ gf_E n L u w ∧ (w = v ∨ ¬ dm_D (gf_E n L) r v w)
noncomputable def sp_fr (n : Nat) (L : Nat → Int64) (r v : Nat) : Int64 := gf_set (fun w => sp_Fr n L r v w) 64
theorem sp_fr_t (n : Nat) (L : Nat → Int64) (r v w : Nat) : bs_t (sp_fr n L r v) w = true ↔ sp_Fr n L r v w := by
  unfold sp_fr
  rw [gf_set_t _ (by decide)]
  constructor
  · intro h; exact h.2
  · intro h
    obtain ⟨u, h1, h2, h3⟩ := h
    exact ⟨bs_lt h2.2, u, h1, h2, h3⟩
theorem sp_fr_v {n : Nat} {L : Nat → Int64} {r v : Nat} (h : ¬ gf_R (gf_E n L) r v) : sp_fr n L r v = 0 := by
  rw [bs_eq0]
  intro i
  cases e : bs_t (sp_fr n L r v) i with
  | false => rfl
  | true =>
    obtain ⟨u, h1, -⟩ := (sp_fr_t n L r v i).mp e
    exact absurd h1.1 h
/-- the spread of S -/
def sp_Sp (n : Nat) (L : Nat → Int64) (r : Nat) (S : Int64) (w : Nat) : Prop := ∀ X : Nat → Prop, (∀ v w, (bs_t S v = true ∨ X v) → sp_Fr n L r v w → X w) → X w
noncomputable def sp_sp (n : Nat) (L : Nat → Int64) (r : Nat) (S : Int64) : Int64 := gf_set (fun w => sp_Sp n L r S w) 64
theorem sp_Sp_in {n : Nat} {L : Nat → Int64} {r : Nat} {S : Int64} {v w : Nat} (h : bs_t S v = true ∨ sp_Sp n L r S v) (hf : sp_Fr n L r v w) : sp_Sp n L r S w := by
  intro X hX
  rcases h with h | h
  · exact hX v w (Or.inl h) hf
  · exact hX v w (Or.inr (h X hX)) hf
theorem sp_sp_eq {n : Nat} {L : Nat → Int64} {r : Nat} {S x : Int64} (h1 : ∀ i, bs_t x i = true → sp_Sp n L r S i) (h2 : ∀ v w, (bs_t S v = true ∨ bs_t x v = true) → sp_Fr n L r v w → bs_t x w = true) : x = sp_sp n L r S :=
  gf_set_eq (fun i _ => ⟨h1 i, fun h => h (fun y => bs_t x y = true) h2⟩)
/-- the link from u to v goes back -/
def sp_Bk (n : Nat) (L : Nat → Int64) (r u v : Nat) : Prop := gf_E n L u v ∧ dm_D (gf_E n L) r v u
/-- w is in the loop of v -/
def sp_Lp (n : Nat) (L : Nat → Int64) (r v w : Nat) : Prop := ∃ u, sp_Bk n L r u v ∧ (w = v ∨ (gf_R (gf_E n L) r w ∧ u ≠ v ∧ md_P n (gf_T n L) u v w))
noncomputable def sp_lp (n : Nat) (L : Nat → Int64) (r v : Nat) : Int64 := gf_set (fun w => sp_Lp n L r v w) 64
/-- the same, by reached vertices alone -/
theorem sp_Lp_in {n : Nat} (hn : n ≤ 64) {L : Nat → Int64} (hL : ∀ u v, gf_E n L u v → v < n) {r v w u : Nat} (hR : gf_R (gf_E n L) r w) (hwv : w ≠ v) (h : md_P n (gf_T n L) u v w) :
    gf_R (fun a b => gf_E n (gf_T n L) a b ∧ gf_R (gf_E n L) r b ∧ b ≠ v) u w := by
  have h2 := gf_rev h
  have := h2 (fun y => gf_R (gf_E n L) r y ∧ gf_R (fun a b => gf_E n (gf_T n L) a b ∧ gf_R (gf_E n L) r b ∧ b ≠ v) y w) ⟨hR, gf_rf w⟩ (fun y z hy e => by
    obtain ⟨e1, e2⟩ := e
    exact ⟨gf_st hy.1 ((gf_T_E hn hL y z).mp e1), gf_tr (gf_1 (E := fun a b => gf_E n (gf_T n L) a b ∧ gf_R (gf_E n L) r b ∧ b ≠ v) ⟨e1, hy.1, e2⟩) hy.2⟩)
  exact this.2
/-- no ring of links that do not go back -/
def sp_Red (n : Nat) (L : Nat → Int64) (r : Nat) : Prop := ∀ u w, gf_B n L r u w → ¬ gf_R (gf_B n L r) w u
theorem sp_red_lf {n : Nat} {L : Nat → Int64} {r : Nat} {lf : Nat → Int32} (h : ∀ u w, gf_B n L r u w → lf w < lf u) : sp_Red n L r := by
  intro u w hb hw
  have : ¬ lf w < lf u := hw (fun y => ¬ lf w < lf y) (Int32.lt_irrefl) (fun a b ha e q => ha (Int32.lt_trans q (h a b e)))
  exact this (h u w hb)
theorem sp_red_of {n : Nat} (hn : n ≤ 64) {L : Nat → Int64} (hL : ∀ u v, gf_E n L u v → v < n) {r : Nat} (hr : r < n) (bl : Nat → Int32) (h : sp_Red n L r) : ∀ u w, gf_B n L r u w → (df_F n L r bl).2.2.1 w < (df_F n L r bl).2.2.1 u := by
  intro u w hb
  have hm := (df_met hn hL hr bl u).mpr hb.2.1
  have hI := df_Iit hn hL hr bl (2 * n)
  have he := df_end hn hL hr bl
  unfold df_F at hm ⊢
  generalize df_it n L (df_0 r bl) (2 * n) = z at hI he hm
  obtain ⟨tr, en, lf, bl, a, g⟩ := z
  have he : tr = [] := he
  subst he
  obtain ⟨h1, h2, h3, h4, h5, h6, h7, h8, h9, h10, h11⟩ := hI
  have hm : ¬ en u < 0 := hm
  show lf w < lf u
  rcases (h3 u hm).2 with q | q
  · cases q
  · rcases (h11 u q w hb.1).2 with z | z
    · exact z.2
    · exact absurd z (h u w hb)
