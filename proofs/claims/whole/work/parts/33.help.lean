/-! small rows for the reference's walks -/
theorem vn_lo {v : Int32} (h : v < 0) (n : Nat) (hn : n ≤ 48) : ¬ ∃ k, k < n ∧ v = nI k := fun ⟨k, h1, h2⟩ => by rw [h2] at h; exact nI_pos (by omega) h
theorem vn_hi {v : Int32} {n : Nat} (h : nI n ≤ v) (hn : n ≤ 48) : ¬ ∃ k, k < n ∧ v = nI k := fun ⟨k, h1, h2⟩ => by rw [h2, nI_leI (by omega) (by omega)] at h; omega
theorem vn_in {v : Int32} {n : Nat} (h1 : ¬ v < 0) (h2 : ¬ nI n ≤ v) (hn : n ≤ 48) : ∃ k, k < n ∧ v = nI k := by
  rcases pk_ix v (n := n) (by omega) with q | q | q
  · exact absurd q h1
  · exact absurd q h2
  · exact q
theorem vn_m1 {a : Nat} (h : a < 2147483648) : ¬ nI a = -1 := fun q => by
  have := congrArg Int32.toInt q
  rw [nI_toInt h] at this
  have h1 : (-1 : Int32).toInt = -1 := by decide
  rw [h1] at this
  omega
/-- whether u dominates v, as the reference reads it off its sets -/
def md_dm (all : Int64) (wo : Nat → Int64) (u v : Nat) : Bool := bs_t all u && (bs_t all v && (decide (u = v) || !bs_t (wo u) v))
theorem md_dm_f1 {all : Int64} {wo : Nat → Int64} {u v : Nat} (h : bs_t all u = false) : md_dm all wo u v = false := by unfold md_dm; rw [h]; rfl
theorem md_dm_f2 {all : Int64} {wo : Nat → Int64} {u v : Nat} (h : bs_t all v = false) : md_dm all wo u v = false := by unfold md_dm; rw [h]; cases bs_t all u <;> rfl
theorem md_dm_f3 {all : Int64} {wo : Nat → Int64} {u v : Nat} (h : ¬ u = v) (h2 : bs_t (wo u) v = true) : md_dm all wo u v = false := by unfold md_dm; rw [h2]; cases bs_t all u <;> cases bs_t all v <;> simp [h]
theorem md_dm_t1 {all : Int64} {wo : Nat → Int64} {u v : Nat} (h1 : bs_t all u = true) (h2 : bs_t all v = true) (h : u = v) : md_dm all wo u v = true := by unfold md_dm; rw [h1, h2]; simp [h]
theorem md_dm_t2 {all : Int64} {wo : Nat → Int64} {u v : Nat} (h1 : bs_t all u = true) (h2 : bs_t all v = true) (h : bs_t (wo u) v = false) : md_dm all wo u v = true := by unfold md_dm; rw [h1, h2, h]; simp
theorem md_dm_eq {n : Nat} (hn : n ≤ 64) {G : Nat → Int64} {r : Nat} (hr : r < n) {all : Int64} {wo : Nat → Int64} (h1 : ∀ v, bs_t all v = true ↔ gf_R (gf_E n G) r v) (h2 : ∀ u, u < n → wo u = sp_cm n G r u) {u v : Nat} (hu : u < n) : md_dm all wo u v = gf_d (dm_D (gf_E n G) r u v) := by
  rw [Bool.eq_iff_iff, gf_di]
  unfold md_dm
  rw [Bool.and_eq_true, Bool.and_eq_true, Bool.or_eq_true, decide_eq_true_eq, Bool.not_eq_true', ← Bool.not_eq_true, h1, h1, h2 u hu, sp_cm_t (by omega)]
  constructor
  · rintro ⟨q1, q2, q3⟩
    exact ⟨q1, q2, q3.imp id (fun z w => z w)⟩
  · rintro ⟨q1, q2, q3⟩
    exact ⟨q1, q2, q3.imp id (fun z w => z w)⟩
def md_gb (li : Nat → Int64) (rc : Int64) (wi : Nat → Int64) (u v : Nat) : Bool := bs_t (li u) v && md_dm rc wi v u
theorem md_gb_f {li : Nat → Int64} {rc : Int64} {wi : Nat → Int64} {u v : Nat} (h : bs_t (li u) v = false) : md_gb li rc wi u v = false := by unfold md_gb; rw [h]; rfl
theorem md_gb_2 {li : Nat → Int64} {rc : Int64} {wi : Nat → Int64} {u v : Nat} {b : Bool} (h : bs_t (li u) v = true) (h2 : md_dm rc wi v u = b) : md_gb li rc wi u v = b := by unfold md_gb; rw [h, h2]; rfl
theorem sp_cm_congr {n : Nat} {G M : Nat → Int64} (h : ∀ v, v < n → G v = M v) (a b : Nat) : sp_cm n G a b = sp_cm n M a b := by
  unfold sp_cm
  congr 1
  funext i
  refine propext ⟨fun q => ⟨q.1, gf_mono (fun x y z => ⟨(gf_E_congr h x y).mp z.1, z.2⟩) q.2⟩, fun q => ⟨q.1, gf_mono (fun x y z => ⟨(gf_E_congr h x y).mpr z.1, z.2⟩) q.2⟩⟩
theorem sp_cm_self (n : Nat) (G : Nat → Int64) (a : Nat) : (0 : Int64) = sp_cm n G a a := gf_set_eq (fun i _ => by
  rw [bs_0]
  constructor
  · intro h; cases h
  · intro h; exact absurd rfl h.1)
theorem sp_cm_end {n : Nat} {G : Nat → Int64} {a b : Nat} {x old : Int64} (hab : a ≠ b) (h : md_I n G a b x old) (he : x = old) : x = sp_cm n G a b := gf_set_eq (fun i _ => by
  rw [← he] at h
  rw [md_Ie h i]
  exact ⟨fun q => ⟨hab, q⟩, fun q => q.2⟩)
/-- the reference's frontier: the vertices below u gone through; of u's links, those below w -/
def md_Y (n : Nat) (L : Nat → Int64) (r v : Nat) (set : Int64) (u w : Nat) : Prop := ∀ i, bs_t set i = true ↔ ∃ x, (x < u ∨ (x = u ∧ i < w)) ∧ dm_D (gf_E n L) r v x ∧ gf_E n L x i ∧ (i = v ∨ ¬ dm_D (gf_E n L) r v i)
theorem md_Y0 (n : Nat) (L : Nat → Int64) (r v : Nat) : md_Y n L r v 0 0 0 := fun i => by
  rw [bs_0]
  constructor
  · intro h; cases h
  · rintro ⟨x, h | h, -⟩ <;> omega
theorem md_Yn {n : Nat} {L : Nat → Int64} (hL : ∀ u v, gf_E n L u v → v < n) {r v u w : Nat} {set : Int64} (h : md_Y n L r v set u w) (hw : n ≤ w ∨ ¬ dm_D (gf_E n L) r v u) : md_Y n L r v set (u + 1) 0 := fun i => by
  rw [h i]
  constructor
  · rintro ⟨x, q1, q2⟩; exact ⟨x, Or.inl (by omega), q2⟩
  · rintro ⟨x, q1, q2, q3, q4⟩
    by_cases e : x = u
    · subst e
      rcases hw with hw | hw
      · exact ⟨x, Or.inr ⟨rfl, by have := hL x i q3; omega⟩, q2, q3, q4⟩
      · exact absurd q2 hw
    · exact ⟨x, Or.inl (by omega), q2, q3, q4⟩
theorem md_Yk {n : Nat} {L : Nat → Int64} {r v u w : Nat} {set : Int64} (h : md_Y n L r v set u w) (hk : ¬ (gf_E n L u w ∧ (w = v ∨ ¬ dm_D (gf_E n L) r v w))) : md_Y n L r v set u (w + 1) := fun i => by
  rw [h i]
  constructor
  · rintro ⟨x, q1, q2⟩; exact ⟨x, by omega, q2⟩
  · rintro ⟨x, q1, q2, q3, q4⟩
    refine ⟨x, ?_, q2, q3, q4⟩
    rcases q1 with q1 | ⟨q1, q5⟩
    · exact Or.inl q1
    · by_cases e : i = w
      · subst e; subst q1; exact absurd ⟨q3, q4⟩ hk
      · exact Or.inr ⟨q1, by omega⟩
theorem md_Ya {n : Nat} {L : Nat → Int64} {r v u w : Nat} {set : Int64} (hw : w < 64) (h : md_Y n L r v set u w) (hd : dm_D (gf_E n L) r v u) (hk : gf_E n L u w) (hk2 : w = v ∨ ¬ dm_D (gf_E n L) r v w) : md_Y n L r v (set ||| bs_b w) u (w + 1) := fun i => by
  rw [bs_or, Bool.or_eq_true, h i, bs_bit hw, decide_eq_true_eq]
  constructor
  · rintro (⟨x, q1, q2⟩ | q)
    · exact ⟨x, by omega, q2⟩
    · subst q; exact ⟨u, Or.inr ⟨rfl, by omega⟩, hd, hk, hk2⟩
  · rintro ⟨x, q1, q2, q3, q4⟩
    by_cases e : w = i
    · exact Or.inr e
    · exact Or.inl ⟨x, by omega, q2, q3, q4⟩
theorem md_Ye {n : Nat} {L : Nat → Int64} {r v : Nat} {set : Int64} (h : md_Y n L r v set n 0) : set = sp_fr n L r v := gf_set_eq (fun i _ => by
  rw [h i]
  constructor
  · rintro ⟨x, -, q2, q3, q4⟩; exact ⟨x, q2, q3, q4⟩
  · rintro ⟨x, q2, q3, q4⟩; exact ⟨x, Or.inl q3.1, q2, q3, q4⟩)
theorem md_F_none (n : Nat) (G : Nat → Int64) (x : Int64) : md_or G x x n = md_F n G 64 x := by
  unfold md_F md_mk
  rw [if_neg (by decide)]
