/-! the reference's sets: what is come to from one vertex, round by round -/
def fr_n {σ : Type} (f : Nat → σ → σ) (s : σ) : Nat → σ
  | 0 => s
  | k + 1 => f k (fr_n f s k)
theorem fr_s {σ : Type} (f : Nat → σ → σ) (s : σ) (k : Nat) : fr_n f s (k + 1) = f k (fr_n f s k) := rfl
/-- the rows of all that x has, beside s -/
def md_or (G : Nat → Int64) (x s : Int64) (k : Nat) : Int64 := fr_n (fun v s => if bs_t x v = true then s ||| G v else s) s k
theorem md_or_t (G : Nat → Int64) (x s : Int64) (k i : Nat) : bs_t (md_or G x s k) i = true ↔ bs_t s i = true ∨ ∃ v, v < k ∧ bs_t x v = true ∧ bs_t (G v) i = true := by
  induction k with
  | zero =>
    constructor
    · intro h; exact Or.inl h
    · rintro (h | ⟨v, h, -⟩)
      · exact h
      · omega
  | succ k ih =>
    show bs_t (if bs_t x k = true then md_or G x s k ||| G k else md_or G x s k) i = true ↔ _
    split
    · next h =>
      rw [bs_or, Bool.or_eq_true, ih]
      constructor
      · rintro ((q | ⟨v, q1, q2⟩) | q)
        · exact Or.inl q
        · exact Or.inr ⟨v, by omega, q2⟩
        · exact Or.inr ⟨k, by omega, h, q⟩
      · rintro (q | ⟨v, q1, q2, q3⟩)
        · exact Or.inl (Or.inl q)
        · by_cases e : v = k
          · subst e; exact Or.inr q3
          · exact Or.inl (Or.inr ⟨v, by omega, q2, q3⟩)
    · next h =>
      rw [ih]
      constructor
      · rintro (q | ⟨v, q1, q2⟩)
        · exact Or.inl q
        · exact Or.inr ⟨v, by omega, q2⟩
      · rintro (q | ⟨v, q1, q2, q3⟩)
        · exact Or.inl q
        · by_cases e : v = k
          · subst e; exact absurd q2 h
          · exact Or.inr ⟨v, by omega, q2, q3⟩
/-- one round; but: the vertex that is left out, 64 for none -/
def md_mk (but : Nat) (s : Int64) : Int64 := if but < 64 then s &&& (bs_b but ^^^ (-1)) else s
theorem md_mk_t (but : Nat) (s : Int64) (i : Nat) : bs_t (md_mk but s) i = true ↔ bs_t s i = true ∧ i ≠ but := by
  unfold md_mk
  split
  · next h =>
    rw [bs_and, Bool.and_eq_true]
    constructor
    · intro q
      have hi := bs_lt q.1
      refine ⟨q.1, fun e => ?_⟩
      have q2 := q.2
      rw [bs_not _ hi, bs_bit h, e] at q2
      simp at q2
    · intro q
      have hi := bs_lt q.1
      refine ⟨q.1, ?_⟩
      rw [bs_not _ hi, bs_bit h]
      have : ¬ but = i := fun e => q.2 e.symm
      simp [this]
  · next h =>
    constructor
    · intro q
      have hi := bs_lt q
      exact ⟨q, by omega⟩
    · intro q; exact q.1
def md_F (n : Nat) (G : Nat → Int64) (but : Nat) (x : Int64) : Int64 := md_mk but (md_or G x x n)
theorem md_F_t (n : Nat) (G : Nat → Int64) (but : Nat) (x : Int64) (i : Nat) : bs_t (md_F n G but x) i = true ↔ (bs_t x i = true ∨ ∃ v, v < n ∧ bs_t x v = true ∧ bs_t (G v) i = true) ∧ i ≠ but := by
  unfold md_F
  rw [md_mk_t, md_or_t]
/-- what is come to from a, without 'but' -/
def md_P (n : Nat) (G : Nat → Int64) (a but i : Nat) : Prop := gf_R (fun u v => gf_E n G u v ∧ v ≠ but) a i
/-- what holds at the head of the rounds -/
def md_I (n : Nat) (G : Nat → Int64) (a but : Nat) (x old : Int64) : Prop :=
  ((old = 0 ∧ x = bs_b a) ∨ x = md_F n G but old) ∧ bs_t x a = true ∧ (∀ i, bs_t x i = true → md_P n G a but i) ∧ (∀ i, bs_t old i = true → bs_t x i = true) ∧ ∀ i, bs_t x i = true → i ≠ but
theorem md_I0 {n : Nat} {G : Nat → Int64} {a but : Nat} (ha : a < 64) (hb : a ≠ but) : md_I n G a but (bs_b a) 0 := by
  have key : ∀ i, bs_t (bs_b a) i = true → i = a := fun i h => by rw [bs_bit ha] at h; exact (of_decide_eq_true h).symm
  exact ⟨Or.inl ⟨rfl, rfl⟩, bs_bits ha, fun i h => by rw [key i h]; exact gf_rf a, fun i h => (by rw [bs_0] at h; cases h), fun i h => by rw [key i h]; exact hb⟩
theorem md_Is {n : Nat} {G : Nat → Int64} {a but : Nat} {x old : Int64} (h : md_I n G a but x old) : md_I n G a but (md_F n G but x) x := by
  obtain ⟨-, h2, h3, -, h5⟩ := h
  refine ⟨Or.inr rfl, ?_, fun i hi => ?_, fun i hi => ?_, fun i hi => ?_⟩
  · rw [md_F_t]; exact ⟨Or.inl h2, h5 a h2⟩
  · rw [md_F_t] at hi
    rcases hi.1 with q | ⟨v, q1, q2, q3⟩
    · exact h3 i q
    · exact gf_st (h3 v q2) ⟨⟨q1, q3⟩, hi.2⟩
  · rw [md_F_t]; exact ⟨Or.inl hi, h5 i hi⟩
  · rw [md_F_t] at hi; exact hi.2
theorem md_Im {n : Nat} {G : Nat → Int64} {a but : Nat} {x old : Int64} (h : md_I n G a but x old) (hne : ¬ x = old) : 64 - bs_c x < 64 - bs_c old := by
  have hs := h.2.2.2.1
  have : ∃ i, i < 64 ∧ bs_t old i = false ∧ bs_t x i = true := by
    apply Classical.byContradiction
    intro hn
    apply hne
    apply bs_ext
    intro i hi
    cases e : bs_t old i with
    | true => exact hs i e
    | false =>
      cases e2 : bs_t x i with
      | false => rfl
      | true => exact absurd ⟨i, hi, e, e2⟩ hn
  obtain ⟨i, hi, h1, h2⟩ := this
  have := ct_lt (p := bs_t old) (q := bs_t x) (n := 64) (fun j _ => hs j) hi h1 h2
  have h3 := bs_c_le x
  unfold bs_c at *
  omega
theorem md_Ie {n : Nat} {G : Nat → Int64} {a but : Nat} {x : Int64} (h : md_I n G a but x x) : ∀ i, bs_t x i = true ↔ md_P n G a but i := by
  obtain ⟨h1, h2, h3, h4, h5⟩ := h
  intro i
  refine ⟨h3 i, fun hp => ?_⟩
  have hF : x = md_F n G but x := by
    rcases h1 with ⟨q, -⟩ | q
    · rw [q, bs_0] at h2; cases h2
    · exact q
  exact hp (fun y => bs_t x y = true) h2 (fun u v hu e => by
    rw [hF, md_F_t]
    exact ⟨Or.inr ⟨u, e.1.1, hu, e.1.2⟩, e.2⟩)
theorem md_P_none {n : Nat} {G : Nat → Int64} {a i : Nat} : md_P n G a 64 i ↔ gf_R (gf_E n G) a i :=
  ⟨fun h => gf_mono (fun _ _ e => e.1) h, fun h => gf_mono (fun u v e => ⟨e, by have := bs_lt e.2; omega⟩) h⟩
theorem md_P_dm {n : Nat} {G : Nat → Int64} {a but i : Nat} (h : a ≠ but) : md_P n G a but i ↔ dm_A (gf_E n G) a but i := ⟨fun q => ⟨h, q⟩, fun q => q.2⟩
/-! the links turned round -/
noncomputable def gf_T (n : Nat) (L : Nat → Int64) (v : Nat) : Int64 := gf_set (fun u => u < n ∧ bs_t (L u) v = true) 64
theorem gf_T_t {n : Nat} (hn : n ≤ 64) (L : Nat → Int64) (v u : Nat) : bs_t (gf_T n L v) u = true ↔ u < n ∧ bs_t (L u) v = true := by
  unfold gf_T
  rw [gf_set_t _ (by decide)]
  constructor
  · intro h; exact h.2
  · intro h; exact ⟨by omega, h⟩
theorem gf_T_E {n : Nat} (hn : n ≤ 64) {L : Nat → Int64} (hL : ∀ u v, gf_E n L u v → v < n) (u v : Nat) : gf_E n (gf_T n L) v u ↔ gf_E n L u v := by
  unfold gf_E
  rw [gf_T_t hn]
  constructor
  · intro h; exact h.2
  · intro h; exact ⟨hL u v h, h⟩
theorem gf_T_L {n : Nat} (hn : n ≤ 64) {L : Nat → Int64} : ∀ u v, gf_E n (gf_T n L) u v → v < n := fun u v h => ((gf_T_t hn L u v).mp h.2).1
