/-! small rows that the walks take -/
theorem ct_s1 {p : Nat → Bool} {n : Nat} (h : p n = true) : ct_n p n + 1 = ct_n p (n + 1) := by
  show _ = ct_n p n + (p n).toNat
  rw [h]; rfl
theorem ct_s0 {p : Nat → Bool} {n : Nat} (h : p n = false) : ct_n p n + 0 = ct_n p (n + 1) := by
  show _ = ct_n p n + (p n).toNat
  rw [h]; rfl
theorem sp_hd_set {B : Nat → Int64} {ok : Nat → Bool} {h : Nat} (h1 : ok h = true) (h2 : sp_hd B ok h = 64 ∨ bs_c (B h) < bs_c (B (sp_hd B ok h))) : sp_hd B ok (h + 1) = h := by
  have e : (ok h && (decide (sp_hd B ok h = 64) || decide (bs_c (B h) < bs_c (B (sp_hd B ok h))))) = true := by
    rw [h1, Bool.true_and, Bool.or_eq_true, decide_eq_true_eq, decide_eq_true_eq]; exact h2
  show (if _ then h else _) = h
  rw [if_pos e]
theorem sp_hd_keep {B : Nat → Int64} {ok : Nat → Bool} {h : Nat} (hn : ¬ (ok h = true ∧ (sp_hd B ok h = 64 ∨ bs_c (B h) < bs_c (B (sp_hd B ok h))))) : sp_hd B ok (h + 1) = sp_hd B ok h := by
  have e : ¬ (ok h && (decide (sp_hd B ok h = 64) || decide (bs_c (B h) < bs_c (B (sp_hd B ok h))))) = true := by
    rw [Bool.and_eq_true, Bool.or_eq_true, decide_eq_true_eq, decide_eq_true_eq]; exact hn
  show (if _ then h else _) = _
  rw [if_neg e]
theorem sp_hi_nat {x : Nat} (h : x < 64) : sp_hi x = nI x := if_neg (by omega)
theorem sp_hi_64 {x : Nat} (h : sp_hi x = -1) (hx : x ≤ 64) : x = 64 := by
  apply Classical.byContradiction
  intro q
  have e : sp_hi x = nI x := if_neg q
  rw [e] at h
  have := congrArg Int32.toInt h
  rw [nI_toInt (by omega)] at this
  have h1 : (-1 : Int32).toInt = -1 := by decide
  rw [h1] at this
  omega
theorem sp_hi_ne {x : Nat} (h : ¬ sp_hi x = -1) : x ≠ 64 := fun e => h (by rw [e]; rfl)
theorem gf_E_congr {n : Nat} {L M : Nat → Int64} (h : ∀ v, v < n → L v = M v) (u v : Nat) : gf_E n L u v ↔ gf_E n M u v := by
  unfold gf_E
  constructor
  · rintro ⟨h1, h2⟩; exact ⟨h1, by rw [← h u h1]; exact h2⟩
  · rintro ⟨h1, h2⟩; exact ⟨h1, by rw [h u h1]; exact h2⟩
/-- the walk along a row: which of its bits below w have been looked at -/
def cl_K (n : Nat) (row : Int64) (ab : Nat → Int64) (v : Nat) (back : Int64) (w step : Nat) : Prop :=
  step ≤ w ∧ w ≤ 64 ∧ (w < 64 → bs_t row w = true) ∧ ∀ i, bs_t back i = true ↔ (i < w ∧ bs_t row i = true ∧ i < n ∧ bs_t (ab i) v = true)
theorem cl_K0 (n : Nat) (row : Int64) (ab : Nat → Int64) (v : Nat) : cl_K n row ab v 0 (bs_fo row 0) 0 := by
  refine ⟨Nat.zero_le _, bs_fo_le _ _, fun h => (bs_fo_in h).2, fun i => ?_⟩
  rw [bs_0]
  constructor
  · intro h; cases h
  · rintro ⟨h1, h2, -⟩
    rw [bs_fo_no (Nat.zero_le i) h1] at h2
    cases h2
theorem cl_Ks {n : Nat} {row : Int64} {ab : Nat → Int64} {v : Nat} {back back2 : Int64} {w step : Nat} (h : cl_K n row ab v back w step) (hw : w < n) (hn : n ≤ 64) (h2 : ∀ i, bs_t back2 i = true ↔ (bs_t back i = true ∨ (i = w ∧ bs_t (ab w) v = true))) : cl_K n row ab v back2 (bs_fo row (w + 1)) (step + 1) := by
  obtain ⟨q1, q2, q3, q4⟩ := h
  have hge : w + 1 ≤ bs_fo row (w + 1) := bs_fo_ge (by omega)
  refine ⟨by omega, bs_fo_le _ _, fun h => (bs_fo_in h).2, fun i => ?_⟩
  rw [h2, q4]
  constructor
  · rintro (⟨z1, z2⟩ | ⟨z1, z2⟩)
    · exact ⟨by omega, z2⟩
    · subst z1; exact ⟨by omega, q3 (by omega), hw, z2⟩
  · rintro ⟨z1, z2, z3, z4⟩
    rcases Nat.lt_trichotomy i w with e | e | e
    · exact Or.inl ⟨e, z2, z3, z4⟩
    · subst e; exact Or.inr ⟨rfl, z4⟩
    · rw [bs_fo_no (by omega) z1] at z2; cases z2
theorem cl_Ke {n : Nat} (hn : n ≤ 64) {L : Nat → Int64} (hL : ∀ u v, gf_E n L u v → v < n) {r v : Nat} (hv : v < n) {ab : Nat → Int64} (hab : cl_ok n L r ab) {back : Int64} {w step : Nat} (h : cl_K n (gf_T n L v) ab v back w step) (hw : n ≤ w) : ∀ u, bs_t back u = true ↔ sp_Bk n L r u v := by
  intro u
  rw [h.2.2.2]
  constructor
  · rintro ⟨-, z2, z3, z4⟩
    exact ⟨⟨z3, ((gf_T_t hn L v u).mp z2).2⟩, (hab u v z3).mp z4⟩
  · rintro ⟨z1, z2⟩
    exact ⟨by have := z1.1; omega, (gf_T_t hn L v u).mpr ⟨z1.1, z1.2⟩, z1.1, (hab u v z1.1).mpr z2⟩
theorem cl_or {x : Int64} {w : Nat} (hw : w < 64) {P : Prop} (hP : P) (i : Nat) : bs_t (x ||| bs_b w) i = true ↔ (bs_t x i = true ∨ (i = w ∧ P)) := by
  rw [bs_or, Bool.or_eq_true, bs_bit hw, decide_eq_true_eq]
  exact ⟨fun q => q.imp id (fun z => ⟨z.symm, hP⟩), fun q => q.imp id (fun z => z.1.symm)⟩
theorem cl_no {x : Int64} {w : Nat} {P : Prop} (hP : ¬ P) (i : Nat) : bs_t x i = true ↔ (bs_t x i = true ∨ (i = w ∧ P)) := ⟨Or.inl, fun q => q.elim id (fun z => absurd z.2 hP)⟩
abbrev fl_ws (cJ cI : ClassId) (g1 : Nat) (gs : Nat → Int64) : va_W := [(g1, .inl (cJ, 48, .inr (.inl gs)))]
abbrev bo_ws (cJ cI : ClassId) (h1 n1 a1 e1 l1 b1 t1 g1 : Nat) (nx ab : Nat → Int64) (en lf bl tr : Nat → Int32) (sz rt : Int32) (mt : Int64) (sl : Int32) (gs : Nat → Int64) : va_W := sd_ws cJ cI h1 n1 a1 e1 l1 b1 t1 nx ab en lf bl tr sz rt mt sl ++ fl_ws cJ cI g1 gs
abbrev ns_ws (cJ cI : ClassId) (h2 c2 : Nat) (bo : Nat → Int64) (ns : Int32) : va_W := [(h2, .inr (0, [.ref c2, .int ns])), (c2, .inl (cJ, 48, .inr (.inl bo)))]
