/-! loops: the class's flooding, the reference's sets -/
/-- what holds at the head of the class's flooding -/
def cl_V (n : Nat) (G : Nat → Int64) (start within found opn : Int64) (step : Nat) : Prop :=
  (∀ i, bs_t found i = true → bs_t within i = true ∧ ∃ u, bs_t start u = true ∧ bs_t within u = true ∧ gf_R (fun a b => gf_E n G a b ∧ bs_t within b = true) u i) ∧
  (∀ i, bs_t start i = true → bs_t within i = true → bs_t found i = true) ∧
  (∀ v, bs_t found v = true → bs_t opn v = true ∨ ∀ w, bs_t (G v) w = true → bs_t within w = true → bs_t found w = true) ∧
  (∀ v, bs_t opn v = true → bs_t found v = true) ∧ ct_n (fun i => bs_t found i && !bs_t opn i) n = step
theorem cl_V0 (n : Nat) (G : Nat → Int64) (start within : Int64) : cl_V n G start within (start &&& within) (start &&& within) 0 := by
  refine ⟨fun i h => ?_, fun i h1 h2 => by rw [bs_and, h1, h2]; rfl, fun v h => Or.inl h, fun v h => h, ct_zero (fun i _ => by cases bs_t (start &&& within) i <;> rfl)⟩
  rw [bs_and, Bool.and_eq_true] at h
  exact ⟨h.2, i, h.1, h.2, gf_rf i⟩
theorem cl_Vs {n : Nat} {G : Nat → Int64} {start within found opn : Int64} {step u : Nat} (hw : ∀ i, bs_t within i = true → i < n) (h : cl_V n G start within found opn step) (hu : bs_t opn u = true) :
    cl_V n G start within (found ||| ((G u &&& within) &&& (found ^^^ (-1)))) ((opn &&& (bs_b u ^^^ (-1))) ||| ((G u &&& within) &&& (found ^^^ (-1)))) (step + 1) := by
  obtain ⟨h1, h2, h3, h4, h5⟩ := h
  have hu64 := bs_lt hu
  have huf := h4 u hu
  have hun := hw u (h1 u huf).1
  have hF : ∀ i, bs_t ((G u &&& within) &&& (found ^^^ (-1))) i = true ↔ (bs_t (G u) i = true ∧ bs_t within i = true ∧ bs_t found i = false) := fun i => by
    rcases Nat.lt_or_ge i 64 with g | g
    · rw [bs_and, bs_and, bs_not _ g]; simp [and_assoc]
    · rw [bs_big g, bs_big g]; simp
  generalize (G u &&& within) &&& (found ^^^ (-1)) = fresh at hF
  have hf : ∀ i, bs_t (found ||| fresh) i = true ↔ (bs_t found i = true ∨ bs_t fresh i = true) := fun i => by rw [bs_or, Bool.or_eq_true]
  have ho : ∀ i, bs_t ((opn &&& (bs_b u ^^^ (-1))) ||| fresh) i = true ↔ ((bs_t opn i = true ∧ i ≠ u) ∨ bs_t fresh i = true) := fun i => by
    rcases Nat.lt_or_ge i 64 with g | g
    · rw [bs_or, bs_and, bs_not _ g, bs_bit hu64]
      have : decide (u = i) = decide (i = u) := decide_eq_decide.mpr ⟨Eq.symm, Eq.symm⟩
      rw [this]
      simp
    · rw [bs_big g, bs_big g, bs_big g]; simp
  refine ⟨fun i hi => ?_, fun i q1 q2 => (hf i).mpr (Or.inl (h2 i q1 q2)), fun v hv => ?_, fun v hv => ?_, ?_⟩
  · rcases (hf i).mp hi with q | q
    · exact h1 i q
    · obtain ⟨q1, q2, -⟩ := (hF i).mp q
      obtain ⟨z1, a, z2, z3, z4⟩ := h1 u huf
      exact ⟨q2, a, z2, z3, gf_st z4 ⟨⟨hun, q1⟩, q2⟩⟩
  · rw [ho]
    rcases (hf v).mp hv with q | q
    · by_cases e : v = u
      · right
        intro w q1 q2
        rw [hf]
        rw [e] at q1
        cases ef : bs_t found w with
        | true => exact Or.inl rfl
        | false => exact Or.inr ((hF w).mpr ⟨q1, q2, ef⟩)
      · rcases h3 v q with z | z
        · exact Or.inl (Or.inl ⟨z, e⟩)
        · right
          intro w q1 q2
          exact (hf w).mpr (Or.inl (z w q1 q2))
    · exact Or.inl (Or.inr q)
  · rcases (ho v).mp hv with q | q
    · exact (hf v).mpr (Or.inl (h4 v q.1))
    · exact (hf v).mpr (Or.inr q)
  · rw [← h5]
    have e0 : ∀ i, bs_t fresh i = true → bs_t found i = false := fun i q => ((hF i).mp q).2.2
    have e1 : ∀ i, (bs_t (found ||| fresh) i && !bs_t ((opn &&& (bs_b u ^^^ (-1))) ||| fresh) i) = (bs_t found i && (!bs_t opn i || decide (i = u))) := by
      intro i
      rw [Bool.eq_iff_iff, Bool.and_eq_true, hf, Bool.not_eq_true', ← Bool.not_eq_true, ho, Bool.and_eq_true, Bool.or_eq_true, Bool.not_eq_true', decide_eq_true_eq]
      constructor
      · rintro ⟨q1, q2⟩
        have q3 : ¬ bs_t fresh i = true := fun z => q2 (Or.inr z)
        refine ⟨q1.resolve_right q3, ?_⟩
        by_cases e : i = u
        · exact Or.inr e
        · left
          cases eo : bs_t opn i with
          | false => rfl
          | true => exact absurd (Or.inl ⟨eo, e⟩) q2
      · rintro ⟨q1, q2⟩
        refine ⟨Or.inl q1, ?_⟩
        rintro (⟨z1, z2⟩ | z)
        · rcases q2 with q2 | q2
          · rw [q2] at z1; cases z1
          · exact z2 q2
        · rw [e0 i z] at q1; cases q1
    rw [ct_congr (fun i _ => e1 i)]
    refine ct_set hun ?_ ?_ (fun i _ hi => ?_)
    · rw [hu]; simp
    · rw [huf]; simp
    · simp [hi]
theorem cl_Ve {n : Nat} {G : Nat → Int64} {start within found opn : Int64} {step : Nat} (hw : ∀ i, bs_t within i = true → i < n) (h : cl_V n G start within found opn step) (he : opn = 0 ∨ n ≤ step) :
    ∀ i, bs_t found i = true ↔ ∃ u, bs_t start u = true ∧ bs_t within u = true ∧ gf_R (fun a b => gf_E n G a b ∧ bs_t within b = true) u i := by
  obtain ⟨h1, h2, h3, h4, h5⟩ := h
  have h0 : ∀ v, bs_t opn v = false := by
    intro v
    cases e : bs_t opn v with
    | false => rfl
    | true =>
      rcases he with q | q
      · rw [q, bs_0] at e; cases e
      · have hvn := hw v (h1 v (h4 v e)).1
        have := ct_lt (p := fun i => bs_t found i && !bs_t opn i) (q := fun _ => true) (n := n) (fun _ _ _ => rfl) hvn (by simp [e]) rfl
        have := ct_le (fun _ => true) n
        omega
  intro i
  refine ⟨fun q => (h1 i q).2, ?_⟩
  rintro ⟨u, q1, q2, q3⟩
  exact q3 (fun y => bs_t found y = true) (h2 u q1 q2) (fun a b ha e => by
    rcases h3 a ha with z | z
    · rw [h0 a] at z; cases z
    · exact z b e.1.2 e.2)
/-- the class's loop of v is the loop of v -/
theorem cl_body {n : Nat} (hn : n ≤ 64) {L : Nat → Int64} (hL : ∀ u v, gf_E n L u v → v < n) {r v : Nat} (hv : v < n) {back met found : Int64} (hmet : ∀ i, bs_t met i = true ↔ gf_R (gf_E n L) r i)
    (hb : ∀ u, bs_t back u = true ↔ sp_Bk n L r u v) (hf : ∀ i, bs_t found i = true ↔ ∃ u, bs_t back u = true ∧ bs_t (met &&& (bs_b v ^^^ (-1))) u = true ∧ gf_R (fun a b => gf_E n (gf_T n L) a b ∧ bs_t (met &&& (bs_b v ^^^ (-1))) b = true) u i) (h0 : ¬ back = 0) : bs_b v ||| found = sp_lp n L r v := by
  have hw : ∀ i, bs_t (met &&& (bs_b v ^^^ (-1))) i = true ↔ (gf_R (gf_E n L) r i ∧ i ≠ v) := fun i => by
    rw [← hmet]
    rcases Nat.lt_or_ge i 64 with g | g
    · rw [bs_and, bs_not _ g, bs_bit (by omega)]
      have : decide (v = i) = decide (i = v) := decide_eq_decide.mpr ⟨Eq.symm, Eq.symm⟩
      rw [this]
      simp
    · rw [bs_big g, bs_big g]; simp
  obtain ⟨u0, -, hu0⟩ := bs_ne0 h0
  refine gf_set_eq (fun w hw64 => ?_)
  rw [bs_or, bs_bit (by omega), Bool.or_eq_true, decide_eq_true_eq, hf]
  constructor
  · rintro (q | ⟨u, q1, q2, q3⟩)
    · exact ⟨u0, (hb u0).mp hu0, Or.inl q.symm⟩
    · obtain ⟨z1, z2⟩ := (hw u).mp q2
      refine ⟨u, (hb u).mp q1, Or.inr ⟨?_, z2, gf_mono (fun a b e => ⟨e.1, ((hw b).mp e.2).2⟩) q3⟩⟩
      exact q3 (fun y => gf_R (gf_E n L) r y) z1 (fun a b _ e => ((hw b).mp e.2).1)
  · rintro ⟨u, q1, q2⟩
    by_cases e : w = v
    · exact Or.inl e.symm
    · right
      obtain ⟨z1, z2, z3⟩ := q2.resolve_left e
      refine ⟨u, (hb u).mpr q1, (hw u).mpr ⟨q1.2.2.1, z2⟩, ?_⟩
      exact gf_mono (fun a b e => ⟨e.1, (hw b).mpr e.2⟩) (sp_Lp_in hn hL z1 e z3)
theorem cl_body0 {n : Nat} {L : Nat → Int64} {r v : Nat} {back : Int64} (hb : ∀ u, bs_t back u = true ↔ sp_Bk n L r u v) (h0 : back = 0) : (0 : Int64) = sp_lp n L r v :=
  gf_set_eq (fun w _ => by
    rw [bs_0]
    constructor
    · intro h; cases h
    · rintro ⟨u, q, -⟩
      have := (hb u).mpr q
      rw [h0, bs_0] at this
      cases this)
/-- what is come to from a without 'but' -/
noncomputable def sp_cm (n : Nat) (G : Nat → Int64) (a but : Nat) : Int64 := gf_set (fun i => a ≠ but ∧ md_P n G a but i) 64
theorem md_P_64 {n : Nat} {G : Nat → Int64} {a but i : Nat} (ha : a < 64) (h : md_P n G a but i) : i < 64 := h (fun y => y < 64) ha (fun _ _ _ e => bs_lt e.1.2)
theorem sp_cm_t {n : Nat} {G : Nat → Int64} {a but : Nat} (ha : a < 64) (i : Nat) : bs_t (sp_cm n G a but) i = true ↔ (a ≠ but ∧ md_P n G a but i) := by
  unfold sp_cm
  rw [gf_set_t _ (by decide)]
  exact ⟨fun h => h.2, fun h => ⟨md_P_64 ha h.2, h⟩⟩
/-- the reference's loop -/
noncomputable def md_lp (n : Nat) (L : Nat → Int64) (r v : Nat) (reached : Int64) (k : Nat) : Int64 := fr_n (fun u s => if gf_d (sp_Bk n L r u v) = true then s ||| (bs_b v ||| (sp_cm n (gf_T n L) u v &&& reached)) else s) 0 k
theorem md_lp_t {n : Nat} (hn : n ≤ 64) {L : Nat → Int64} {r v : Nat} (hv : v < 64) {reached : Int64} (hr : ∀ i, bs_t reached i = true ↔ gf_R (gf_E n L) r i) {k : Nat} (hk : k ≤ n) (w : Nat) : bs_t (md_lp n L r v reached k) w = true ↔ ∃ u, u < k ∧ sp_Bk n L r u v ∧ (w = v ∨ (gf_R (gf_E n L) r w ∧ u ≠ v ∧ md_P n (gf_T n L) u v w)) := by
  induction k with
  | zero =>
    show bs_t 0 w = true ↔ _
    rw [bs_0]
    constructor
    · intro h; cases h
    · rintro ⟨u, h, -⟩; omega
  | succ k ih =>
    have ih := ih (by omega)
    show bs_t (if gf_d (sp_Bk n L r k v) = true then md_lp n L r v reached k ||| (bs_b v ||| (sp_cm n (gf_T n L) k v &&& reached)) else md_lp n L r v reached k) w = true ↔ _
    split
    · next h =>
      have h := gf_di.mp h
      rw [bs_or, bs_or, bs_and, bs_bit hv, Bool.or_eq_true, Bool.or_eq_true, Bool.and_eq_true, ih, sp_cm_t (by omega), hr, decide_eq_true_eq]
      constructor
      · rintro (⟨u, q1, q2⟩ | q | ⟨q1, q2⟩)
        · exact ⟨u, by omega, q2⟩
        · exact ⟨k, by omega, h, Or.inl q.symm⟩
        · exact ⟨k, by omega, h, Or.inr ⟨q2, q1⟩⟩
      · rintro ⟨u, q1, q2, q3⟩
        by_cases e : u = k
        · subst e
          rcases q3 with q3 | q3
          · exact Or.inr (Or.inl q3.symm)
          · exact Or.inr (Or.inr ⟨q3.2, q3.1⟩)
        · exact Or.inl ⟨u, by omega, q2, q3⟩
    · next h =>
      rw [ih]
      constructor
      · rintro ⟨u, q1, q2⟩; exact ⟨u, by omega, q2⟩
      · rintro ⟨u, q1, q2, q3⟩
        by_cases e : u = k
        · subst e; exact absurd (gf_di.mpr q2) h
        · exact ⟨u, by omega, q2, q3⟩
theorem md_lp_eq {n : Nat} (hn : n ≤ 64) {L : Nat → Int64} {r v : Nat} (hv : v < 64) {reached : Int64} (hr : ∀ i, bs_t reached i = true ↔ gf_R (gf_E n L) r i) : md_lp n L r v reached n = sp_lp n L r v :=
  gf_set_eq (fun w _ => by
    rw [md_lp_t hn hv hr (Nat.le_refl n)]
    constructor
    · rintro ⟨u, -, q⟩; exact ⟨u, q⟩
    · rintro ⟨u, q1, q2⟩; exact ⟨u, q1.1.1, q1, q2⟩)
/-! rings: the reference takes away what no link leads to that does not go back -/
def sp_Cy (n : Nat) (L : Nat → Int64) (r x : Nat) : Prop := ∃ y, gf_B n L r x y ∧ gf_R (gf_B n L r) y x
theorem sp_Cy_pre {n : Nat} {L : Nat → Int64} {r x : Nat} (h : sp_Cy n L r x) : ∃ z, sp_Cy n L r z ∧ gf_B n L r z x := by
  obtain ⟨y, h1, h2⟩ := h
  rcases gf_tl h2 with e | ⟨c, q1, q2⟩
  · subst e; exact ⟨y, ⟨y, h1, h2⟩, h1⟩
  · exact ⟨c, ⟨x, q2, gf_tr (gf_1 h1) q1⟩, q2⟩
/-- within a round, the vertices below v gone through -/
def md_Q (n : Nat) (L : Nat → Int64) (r : Nat) (rest old : Int64) (v : Nat) : Prop :=
  (∀ i, bs_t rest i = true → bs_t old i = true) ∧ (∀ i, bs_t old i = true → gf_R (gf_E n L) r i) ∧ (∀ x, sp_Cy n L r x → bs_t rest x = true) ∧ (∀ x, x < v → bs_t rest x = true → ∃ u, bs_t old u = true ∧ gf_B n L r u x)
theorem md_Q0 {n : Nat} {L : Nat → Int64} {r : Nat} {rest : Int64} (h1 : ∀ i, bs_t rest i = true → gf_R (gf_E n L) r i) (h2 : ∀ x, sp_Cy n L r x → bs_t rest x = true) : md_Q n L r rest rest 0 := ⟨fun _ h => h, h1, h2, fun x hx => by omega⟩
theorem md_Qs {n : Nat} {L : Nat → Int64} {r : Nat} {rest old : Int64} {v : Nat} (h : md_Q n L r rest old v) (hv : v < 64) {led : Prop} (hled : led ↔ ∃ u, u < n ∧ bs_t rest u = true ∧ bs_t (L u) v = true ∧ ¬ sp_Bk n L r u v) : (led → md_Q n L r rest old (v + 1)) ∧ (¬ led → md_Q n L r (rest &&& (bs_b v ^^^ (-1))) old (v + 1)) := by
  obtain ⟨h1, h2, h3, h4⟩ := h
  have toB : ∀ u, bs_t rest u = true → u < n → bs_t (L u) v = true → ¬ sp_Bk n L r u v → gf_B n L r u v := fun u q1 q2 q3 q4 => ⟨⟨q2, q3⟩, h2 u (h1 u q1), fun z => q4 ⟨⟨q2, q3⟩, z⟩⟩
  constructor
  · intro hl
    refine ⟨h1, h2, h3, fun x hx hr => ?_⟩
    by_cases e : x = v
    · subst e
      obtain ⟨u, q1, q2, q3, q4⟩ := hled.mp hl
      exact ⟨u, h1 u q2, toB u q2 q1 q3 q4⟩
    · exact h4 x (by omega) hr
  · intro hl
    have hm : ∀ i, bs_t (rest &&& (bs_b v ^^^ (-1))) i = true ↔ (bs_t rest i = true ∧ i ≠ v) := fun i => by
      have := md_mk_t v rest i
      unfold md_mk at this
      rw [if_pos hv] at this
      exact this
    refine ⟨fun i hi => h1 i ((hm i).mp hi).1, h2, fun x hx => (hm x).mpr ⟨h3 x hx, fun e => ?_⟩, fun x hx hr => ?_⟩
    · subst e
      obtain ⟨z, z1, z2⟩ := sp_Cy_pre hx
      exact hl (hled.mpr ⟨z, z2.1.1, h3 z z1, z2.1.2, fun q => z2.2.2 q.2⟩)
    · obtain ⟨q1, q2⟩ := (hm x).mp hr
      exact h4 x (by omega) q1
def md_Qm (rest old : Int64) : Nat := 2 * bs_c rest + (if rest = old then 0 else 1)
theorem md_Qmm {rest old new : Int64} (hne : ¬ rest = old) (hs : ∀ i, bs_t new i = true → bs_t rest i = true) : md_Qm new rest < md_Qm rest old := by
  unfold md_Qm
  rw [if_neg hne]
  by_cases e : new = rest
  · rw [if_pos e, e]; omega
  · rw [if_neg e]
    have : ∃ i, i < 64 ∧ bs_t new i = false ∧ bs_t rest i = true := by
      apply Classical.byContradiction
      intro hn
      apply e
      apply bs_ext
      intro i hi
      cases e1 : bs_t new i with
      | true => exact (hs i e1).symm
      | false =>
        cases e2 : bs_t rest i with
        | false => rfl
        | true => exact absurd ⟨i, hi, e1, e2⟩ hn
    obtain ⟨i, hi, z1, z2⟩ := this
    have := ct_lt (p := bs_t new) (q := bs_t rest) (n := 64) (fun j _ => hs j) hi z1 z2
    unfold bs_c
    omega
/-- at the end -/
theorem md_Qe {n : Nat} (hn : n ≤ 64) {L : Nat → Int64} (hL : ∀ u v, gf_E n L u v → v < n) {r : Nat} (hr : r < n) {rest : Int64} (h : md_Q n L r rest rest n) : rest = 0 ↔ sp_Red n L r := by
  obtain ⟨h1, h2, h3, h4⟩ := h
  constructor
  · intro h0 u w hb hw
    have := h3 u ⟨w, hb, hw⟩
    rw [h0, bs_0] at this
    cases this
  · intro hred
    apply Classical.byContradiction
    intro h0
    obtain ⟨x0, -, hx0⟩ := bs_ne0 h0
    have hlf := sp_red_of hn hL hr (fun _ => 0) hred
    have key : ∀ x, gf_R (gf_E n L) r x → ∃ i, i < n ∧ (df_F n L r (fun _ => 0)).2.2.1 x = nI i := by
      intro x hx
      have hm := (df_met hn hL hr (fun _ => 0) x).mpr hx
      have hI := df_Iit hn hL hr (fun _ => 0) (2 * n)
      have he := df_end hn hL hr (fun _ => 0)
      unfold df_F at hm ⊢
      generalize df_it n L (df_0 r (fun _ => 0)) (2 * n) = z at hI he hm
      obtain ⟨tr, en, lf, bl, a, g⟩ := z
      have he : tr = [] := he
      subst he
      obtain ⟨-, -, q3, q4, -, q6, q7, -⟩ := hI
      rcases (q3 x hm).2 with q | q
      · cases q
      · obtain ⟨-, i, z1, z2, -⟩ := q4 x q
        have z3 := ct_le (fun v => !decide (en v < 0)) n
        have z4 : g + 0 = a := q7
        exact ⟨i, by omega, z2⟩
    have grow : ∀ k, ∃ x i, bs_t rest x = true ∧ (df_F n L r (fun _ => 0)).2.2.1 x = nI i ∧ i < n ∧ k ≤ i := by
      intro k
      induction k with
      | zero =>
        obtain ⟨i, q1, q2⟩ := key x0 (h2 x0 hx0)
        exact ⟨x0, i, hx0, q2, q1, Nat.zero_le _⟩
      | succ k ih =>
        obtain ⟨x, i, q1, q2, q3, q4⟩ := ih
        obtain ⟨u, z1, z2⟩ := h4 x (gf_lt hL hr (h2 x q1)) q1
        obtain ⟨j, w1, w2⟩ := key u (h2 u z1)
        have := hlf u x z2
        rw [q2, w2, nI_ltI (by omega) (by omega)] at this
        exact ⟨u, j, z1, w2, w1, by omega⟩
    obtain ⟨x, i, -, -, q3, q4⟩ := grow n
    omega
