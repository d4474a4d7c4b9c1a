theorem sp_hi_lt {x : Nat} (h : sp_hi x < 0) (hx : x ≤ 64) : x = 64 := by
  apply Classical.byContradiction
  intro q
  rw [show sp_hi x = nI x from if_neg q] at h
  exact nI_pos (by omega) h
theorem sp_hi_nlt {x : Nat} (h : ¬ sp_hi x < 0) : x ≠ 64 := fun e => h (by rw [e]; decide)
theorem gg_hL {n : Nat} (hn : n ≤ 64) {L : Nat → Int64} (hL : ∀ u v, gf_E n L u v → v < n) (cv : Bool) : ∀ u v, gf_E n (gg_L cv n L) u v → v < n := by
  cases cv
  · exact hL
  · exact gf_T_L hn
theorem gg_hr {n r x : Nat} (hr : r < n) (hx : x < n) (cv : Bool) : gg_r cv r x < n := by
  cases cv
  · exact hr
  · exact hx
theorem md_dep_k {P : Nat → Prop} {dep : Bool} {w : Nat} (h : dep = true ↔ ∃ y, y < w ∧ P y) (hd : dep = false) (hp : ¬ P w) : false = true ↔ ∃ y, y < w + 1 ∧ P y := by
  constructor
  · intro q; cases q
  · rintro ⟨y, h1, h2⟩
    by_cases e : y = w
    · subst e; exact absurd h2 hp
    · have := h.mpr ⟨y, by omega, h2⟩
      rw [hd] at this; exact this
theorem md_dep_o {P : Nat → Prop} {dep : Bool} {w : Nat} (h : dep = true ↔ ∃ y, y < w ∧ P y) (hd : dep = true) : true = true ↔ ∃ y, y < w + 1 ∧ P y := ⟨fun _ => by obtain ⟨y, h1, h2⟩ := h.mp hd; exact ⟨y, by omega, h2⟩, fun _ => rfl⟩
theorem md_dep_n {P : Nat → Prop} {w : Nat} (hp : P w) : true = true ↔ ∃ y, y < w + 1 ∧ P y := ⟨fun _ => ⟨w, by omega, hp⟩, fun _ => rfl⟩
theorem md_ctl_y {Q : Nat → Prop} {set : Int64} {v : Nat} (hv : v < 64) (h : ∀ i, bs_t set i = true ↔ (i < v ∧ Q i)) (hq : Q v) : ∀ i, bs_t (set ||| bs_b v) i = true ↔ (i < v + 1 ∧ Q i) := fun i => by
  rw [bs_or, Bool.or_eq_true, h i, bs_bit hv, decide_eq_true_eq]
  constructor
  · rintro (q | q)
    · exact ⟨by omega, q.2⟩
    · subst q; exact ⟨by omega, hq⟩
  · rintro ⟨q1, q2⟩
    by_cases e : v = i
    · exact Or.inr e
    · exact Or.inl ⟨by omega, q2⟩
theorem md_ctl_n {Q : Nat → Prop} {set : Int64} {v : Nat} (h : ∀ i, bs_t set i = true ↔ (i < v ∧ Q i)) (hq : ¬ Q v) : ∀ i, bs_t set i = true ↔ (i < v + 1 ∧ Q i) := fun i => by
  rw [h i]
  constructor
  · intro q; exact ⟨by omega, q.2⟩
  · rintro ⟨q1, q2⟩
    by_cases e : v = i
    · subst e; exact absurd q2 hq
    · exact ⟨by omega, q2⟩
theorem md_ctl_e {n : Nat} (hn : n ≤ 64) {L : Nat → Int64} (hL : ∀ u v, gf_E n L u v → v < n) {x k v : Nat} (hx : x < n) {set : Int64} (h : ∀ i, bs_t set i = true ↔ (i < v ∧ gf_R (gf_E n (gf_T n L)) x k ∧ sp_Ct n L x k i)) (he : n ≤ v ∨ ¬ gf_R (gf_E n (gf_T n L)) x k) : set = sp_ct n L x k := gf_set_eq (fun i _ => by
  rw [h i]
  constructor
  · rintro ⟨-, -, q⟩; exact q
  · intro q
    have hR := sp_Ct_end hn hL q
    rcases he with he | he
    · refine ⟨?_, hR, q⟩
      obtain ⟨⟨w, -, z⟩, -⟩ := q
      have := gf_lt (gf_T_L hn) hx z.1
      omega
    · exact absurd hR he)
