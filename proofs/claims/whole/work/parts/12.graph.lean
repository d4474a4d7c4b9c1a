/-! ways: the least set that has a and is closed under E -/
def gf_R (E : Nat → Nat → Prop) (a b : Nat) : Prop := ∀ S : Nat → Prop, S a → (∀ u v, S u → E u v → S v) → S b
theorem gf_rf {E : Nat → Nat → Prop} (a : Nat) : gf_R E a a := fun _ h _ => h
theorem gf_st {E : Nat → Nat → Prop} {a b c : Nat} (h : gf_R E a b) (e : E b c) : gf_R E a c := fun S s0 sc => sc _ _ (h S s0 sc) e
theorem gf_tr {E : Nat → Nat → Prop} {a b c : Nat} (h : gf_R E a b) (g : gf_R E b c) : gf_R E a c := g (fun x => gf_R E a x) h (fun _ _ hu e => gf_st hu e)
theorem gf_1 {E : Nat → Nat → Prop} {a b : Nat} (e : E a b) : gf_R E a b := gf_st (gf_rf a) e
theorem gf_mono {E F : Nat → Nat → Prop} (h : ∀ u v, E u v → F u v) {a b : Nat} (g : gf_R E a b) : gf_R F a b := g (fun x => gf_R F a x) (gf_rf a) (fun u v hu e => gf_st hu (h u v e))
theorem gf_rev {E : Nat → Nat → Prop} {a b : Nat} (g : gf_R E a b) : gf_R (fun u v => E v u) b a := g (fun x => gf_R (fun u v => E v u) x a) (gf_rf a) (fun u v hu e => gf_tr (gf_1 (E := fun u v => E v u) e) hu)
theorem gf_hd {E : Nat → Nat → Prop} {a b : Nat} (g : gf_R E a b) : a = b ∨ ∃ c, E a c ∧ gf_R E c b := by
  refine g (fun x => a = x ∨ ∃ c, E a c ∧ gf_R E c x) (Or.inl rfl) (fun u v hu e => ?_)
  rcases hu with rfl | ⟨c, h1, h2⟩
  · exact Or.inr ⟨v, e, gf_rf v⟩
  · exact Or.inr ⟨c, h1, gf_st h2 e⟩
theorem gf_tl {E : Nat → Nat → Prop} {a b : Nat} (g : gf_R E a b) : a = b ∨ ∃ c, gf_R E a c ∧ E c b := by
  refine g (fun x => a = x ∨ ∃ c, gf_R E a c ∧ E c x) (Or.inl rfl) (fun u v hu e => ?_)
  rcases hu with rfl | ⟨c, h1, h2⟩
  · exact Or.inr ⟨a, gf_rf a, e⟩
  · exact Or.inr ⟨u, gf_st h1 h2, e⟩
noncomputable def gf_d (P : Prop) : Bool := @decide P (Classical.propDecidable P)
theorem gf_di {P : Prop} : gf_d P = true ↔ P := by unfold gf_d; simp
theorem gf_df {P : Prop} : gf_d P = false ↔ ¬ P := by unfold gf_d; simp
/-- ways of at most k links -/
def gf_K (E : Nat → Nat → Prop) : Nat → Nat → Nat → Prop
  | 0, a, b => a = b
  | k + 1, a, b => gf_K E k a b ∨ ∃ c, gf_K E k a c ∧ E c b
theorem gf_K_mono {E : Nat → Nat → Prop} {a b : Nat} {j : Nat} (h : gf_K E j a b) : ∀ d, gf_K E (j + d) a b
  | 0 => h
  | d + 1 => Or.inl (gf_K_mono h d)
theorem gf_K_self {E : Nat → Nat → Prop} (a : Nat) (k : Nat) : gf_K E k a a := by
  have h : gf_K E 0 a a := rfl
  have h2 := gf_K_mono h k
  rw [Nat.zero_add] at h2
  exact h2
theorem gf_K_lt {E : Nat → Nat → Prop} {n a : Nat} (ha : a < n) (hE : ∀ u v, E u v → v < n) (k : Nat) : ∀ b, gf_K E k a b → b < n := by
  induction k with
  | zero => intro b h; have h : a = b := h; omega
  | succ k ih =>
    intro b h
    rcases h with h | ⟨c, -, h⟩
    · exact ih b h
    · exact hE _ _ h
theorem gf_short {E : Nat → Nat → Prop} {n a b : Nat} (ha : a < n) (hE : ∀ u v, E u v → v < n) (h : gf_R E a b) : gf_K E n a b := by
  have key : ∀ k, (∀ x, gf_K E (k + 1) a x → gf_K E k a x) ∨ k + 1 ≤ ct_n (fun i => gf_d (gf_K E k a i)) n := by
    intro k
    induction k with
    | zero => exact Or.inr (ct_pos ha (gf_di.mpr (gf_K_self a 0)))
    | succ k ih =>
      by_cases hc : ∀ x, gf_K E (k + 1) a x → gf_K E k a x
      · left
        intro x hx
        rcases hx with hx | ⟨c, h1, h2⟩
        · exact hx
        · exact Or.inr ⟨c, hc c h1, h2⟩
      · right
        rcases ih with h1 | h1
        · exact absurd h1 hc
        · obtain ⟨x, hx⟩ := Classical.not_forall.mp hc
          obtain ⟨hx1, hx2⟩ := Classical.not_imp.mp hx
          have hxn := gf_K_lt ha hE (k + 1) x hx1
          have := ct_lt (p := fun i => gf_d (gf_K E k a i)) (q := fun i => gf_d (gf_K E (k + 1) a i)) (n := n) (fun i _ hi => gf_di.mpr (Or.inl (gf_di.mp hi))) hxn (gf_df.mpr hx2) (gf_di.mpr hx1)
          omega
  rcases key n with hc | hc
  · exact h (fun x => gf_K E n a x) (gf_K_self a n) (fun u v hu e => hc v (Or.inr ⟨u, hu, e⟩))
  · have := ct_le (fun i => gf_d (gf_K E n a i)) n
    omega
/-! dominators -/
/-- v is reached from r without x -/
def dm_A (E : Nat → Nat → Prop) (r x v : Nat) : Prop := r ≠ x ∧ gf_R (fun a b => E a b ∧ b ≠ x) r v
def dm_D (E : Nat → Nat → Prop) (r u v : Nat) : Prop := gf_R E r u ∧ gf_R E r v ∧ (u = v ∨ ¬ dm_A E r u v)
theorem dm_A_ne {E : Nat → Nat → Prop} {r x v : Nat} (h : dm_A E r x v) : v ≠ x := h.2 (fun y => y ≠ x) h.1 (fun _ _ _ e => e.2)
theorem dm_A_R {E : Nat → Nat → Prop} {r x v : Nat} (h : dm_A E r x v) : gf_R E r v := gf_mono (fun _ _ e => e.1) h.2
theorem dm_A_st {E : Nat → Nat → Prop} {r x u v : Nat} (h : dm_A E r x u) (e : E u v) (hv : v ≠ x) : dm_A E r x v := ⟨h.1, gf_st h.2 ⟨e, hv⟩⟩
theorem dm_rf {E : Nat → Nat → Prop} {r v : Nat} (h : gf_R E r v) : dm_D E r v v := ⟨h, h, Or.inl rfl⟩
theorem dm_root {E : Nat → Nat → Prop} {r v : Nat} (h : gf_R E r v) : dm_D E r r v := ⟨gf_rf r, h, Or.inr (fun q => q.1 rfl)⟩
theorem dm_of {E : Nat → Nat → Prop} {r u v : Nat} (hu : gf_R E r u) (hv : gf_R E r v) (h : ¬ dm_D E r u v) : u ≠ v ∧ dm_A E r u v := by
  constructor
  · intro e; exact h ⟨hu, hv, Or.inl e⟩
  · apply Classical.byContradiction
    intro q
    exact h ⟨hu, hv, Or.inr q⟩
theorem dm_link {E : Nat → Nat → Prop} {r x u w : Nat} (h : dm_D E r x w) (hu : gf_R E r u) (e : E u w) : x = w ∨ dm_D E r x u := by
  by_cases hx : x = w
  · exact Or.inl hx
  · right
    apply Classical.byContradiction
    intro q
    obtain ⟨-, q2⟩ := dm_of h.1 hu q
    rcases h.2.2 with h1 | h1
    · exact hx h1
    · exact h1 (dm_A_st q2 e (fun z => hx z.symm))
theorem dm_tr {E : Nat → Nat → Prop} {r a b c : Nat} (h1 : dm_D E r a b) (h2 : dm_D E r b c) : dm_D E r a c := by
  refine ⟨h1.1, h2.2.1, ?_⟩
  by_cases hac : a = c
  · exact Or.inl hac
  right
  intro q
  rcases h1.2.2 with e | n1
  · subst e
    rcases h2.2.2 with e | n2
    · exact hac e
    · exact n2 q
  rcases h2.2.2 with e | n2
  · subst e; exact n1 q
  have key : dm_A E r a c ∧ (dm_A E r b c ∨ dm_A E r a b) := by
    refine ⟨q, ?_⟩
    have := q.2 (fun y => dm_A E r a y ∧ (dm_A E r b y ∨ dm_A E r a b)) ⟨⟨q.1, gf_rf r⟩, ?_⟩ ?_
    · exact this.2
    · by_cases hrb : r = b
      · right; rw [← hrb]; exact ⟨q.1, gf_rf r⟩
      · left; exact ⟨hrb, gf_rf r⟩
    · intro u v hu e
      have hv : dm_A E r a v := dm_A_st hu.1 e.1 e.2
      refine ⟨hv, ?_⟩
      rcases hu.2 with h | h
      · by_cases hvb : v = b
        · right; rw [← hvb]; exact hv
        · left; exact dm_A_st h e.1 hvb
      · exact Or.inr h
  rcases key.2 with h | h
  · exact n2 h
  · exact n1 h
theorem dm_as {E : Nat → Nat → Prop} {r a b : Nat} (h1 : dm_D E r a b) (h2 : dm_D E r b a) : a = b := by
  apply Classical.byContradiction
  intro hab
  have n1 : ¬ dm_A E r a b := h1.2.2.resolve_left hab
  have n2 : ¬ dm_A E r b a := h2.2.2.resolve_left (fun e => hab e.symm)
  have ra : r ≠ a := fun e => n2 (by rw [← e]; exact ⟨fun z => hab (e.symm.trans z), gf_rf r⟩)
  have rb : r ≠ b := fun e => n1 (by rw [← e]; exact ⟨fun z => hab (z.symm.trans e), gf_rf r⟩)
  have := h1.2.1 (fun y => dm_A E r a y ∧ dm_A E r b y) ⟨⟨ra, gf_rf r⟩, ⟨rb, gf_rf r⟩⟩ (fun u v hu e => by
    have va : v ≠ a := fun z => n2 (by rw [← z]; exact dm_A_st hu.2 e (fun w => hab (z.symm.trans w)))
    have vb : v ≠ b := fun z => n1 (by rw [← z]; exact dm_A_st hu.1 e va)
    exact ⟨dm_A_st hu.1 e va, dm_A_st hu.2 e vb⟩)
  exact n1 this.1
theorem dm_chain {E : Nat → Nat → Prop} {r a b v : Nat} (h1 : dm_D E r a v) (h2 : dm_D E r b v) : dm_D E r a b ∨ dm_D E r b a := by
  apply Classical.byContradiction
  intro hn
  obtain ⟨hn1, hn2⟩ := not_or.mp hn
  obtain ⟨hab, A1⟩ := dm_of h1.1 h2.1 hn1
  obtain ⟨-, A2⟩ := dm_of h2.1 h1.1 hn2
  have va : a ≠ v := fun e => hn2 (by rw [e]; exact h2)
  have vb : b ≠ v := fun e => hn1 (by rw [e]; exact h1)
  have n1 := h1.2.2.resolve_left va
  have n2 := h2.2.2.resolve_left vb
  have := h1.2.1 (fun y => gf_R (fun p q => E p q ∧ q ≠ b) a y ∨ gf_R (fun p q => E p q ∧ q ≠ a) b y ∨ dm_A E r a y) (by
    by_cases ha : r = a
    · left; rw [ha]; exact gf_rf a
    · exact Or.inr (Or.inr ⟨ha, gf_rf r⟩)) (fun u w hu e => by
    by_cases wa : w = a
    · left; rw [wa]; exact gf_rf a
    by_cases wb : w = b
    · right; left; rw [wb]; exact gf_rf b
    rcases hu with h | h | h
    · exact Or.inl (gf_st h ⟨e, wb⟩)
    · exact Or.inr (Or.inl (gf_st h ⟨e, wa⟩))
    · exact Or.inr (Or.inr (dm_A_st h e wa)))
  rcases this with h | h | h
  · exact n2 ⟨A2.1, gf_tr A2.2 h⟩
  · exact n1 ⟨A1.1, gf_tr A1.2 h⟩
  · exact n1 h
/-- the dominator: of all others that dominate v, the one that all of these dominate -/
theorem dm_ex {E : Nat → Nat → Prop} {r v : Nat} (k : Nat) : (∀ u, u < k → u ≠ v → ¬ dm_D E r u v) ∨ ∃ d, d < k ∧ d ≠ v ∧ dm_D E r d v ∧ ∀ u, u < k → u ≠ v → dm_D E r u v → dm_D E r u d := by
  induction k with
  | zero => left; intro u hu; omega
  | succ k ih =>
    by_cases hk : k ≠ v ∧ dm_D E r k v
    · right
      rcases ih with h | ⟨d, h1, h2, h3, h4⟩
      · refine ⟨k, by omega, hk.1, hk.2, fun u hu hv hd => ?_⟩
        by_cases e : u = k
        · rw [e]; exact dm_rf hk.2.1
        · exact absurd hd (h u (by omega) hv)
      · rcases dm_chain h3 hk.2 with c | c
        · refine ⟨k, by omega, hk.1, hk.2, fun u hu hv hd => ?_⟩
          by_cases e : u = k
          · rw [e]; exact dm_rf hk.2.1
          · exact dm_tr (h4 u (by omega) hv hd) c
        · refine ⟨d, by omega, h2, h3, fun u hu hv hd => ?_⟩
          by_cases e : u = k
          · rw [e]; exact c
          · exact h4 u (by omega) hv hd
    · rcases ih with h | ⟨d, h1, h2, h3, h4⟩
      · left
        intro u hu hv hd
        by_cases e : u = k
        · exact hk ⟨by rw [← e]; exact hv, by rw [← e]; exact hd⟩
        · exact h u (by omega) hv hd
      · right
        refine ⟨d, by omega, h2, h3, fun u hu hv hd => ?_⟩
        by_cases e : u = k
        · exact absurd ⟨by rw [← e]; exact hv, by rw [← e]; exact hd⟩ hk
        · exact h4 u (by omega) hv hd
/-- what is kept above each, where nothing more can be taken away, is what dominates it -/
theorem dm_fix {E : Nat → Nat → Prop} {r : Nat} {B : Nat → Nat → Prop} (h0 : ∀ x, B r x → x = r) (hs : ∀ u w x, gf_R E r u → E u w → B w x → B u x ∨ x = w) (hm : ∀ v x, B v x → gf_R E r x) {v x : Nat} (hv : gf_R E r v) (hx : B v x) : dm_D E r x v := by
  refine ⟨hm v x hx, hv, ?_⟩
  by_cases e : x = v
  · exact Or.inl e
  right
  intro q
  have := q.2 (fun y => gf_R E r y ∧ ¬ B y x) ⟨gf_rf r, fun z => q.1 (h0 x z).symm⟩ (fun u w hu e2 => ⟨gf_st hu.1 e2.1, fun z => by
    rcases hs u w x hu.1 e2.1 z with h | h
    · exact hu.2 h
    · exact e2.2 h.symm⟩)
  exact this.2 hx
