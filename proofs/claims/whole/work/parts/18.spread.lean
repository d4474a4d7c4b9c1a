/-! the class's frontier and spread -/
def cl_be (ab : Nat → Int64) (v k : Nat) : Int64 := fr_n (fun u s => if bs_t (ab u) v = true then s ||| bs_b u else s) 0 k
def cl_ta (ab L : Nat → Int64) (v k : Nat) : Int64 := fr_n (fun u s => if bs_t (ab u) v = true then s ||| L u else s) 0 k
theorem cl_be_t (ab : Nat → Int64) (v : Nat) {k : Nat} (hk : k ≤ 64) (i : Nat) : bs_t (cl_be ab v k) i = true ↔ i < k ∧ bs_t (ab i) v = true := by
  induction k with
  | zero =>
    show bs_t 0 i = true ↔ _
    rw [bs_0]
    constructor
    · intro h; cases h
    · intro h; omega
  | succ k ih =>
    have ih := ih (by omega)
    show bs_t (if bs_t (ab k) v = true then cl_be ab v k ||| bs_b k else cl_be ab v k) i = true ↔ _
    split
    · next h =>
      rw [bs_or, bs_bit (by omega), Bool.or_eq_true, ih, decide_eq_true_eq]
      constructor
      · rintro (q | q)
        · exact ⟨by omega, q.2⟩
        · rw [← q]; exact ⟨by omega, h⟩
      · intro q
        by_cases e : k = i
        · exact Or.inr e
        · exact Or.inl ⟨by omega, q.2⟩
    · next h =>
      rw [ih]
      constructor
      · intro q; exact ⟨by omega, q.2⟩
      · intro q
        by_cases e : k = i
        · rw [← e] at q; exact absurd q.2 h
        · exact ⟨by omega, q.2⟩
theorem cl_ta_t (ab L : Nat → Int64) (v k i : Nat) : bs_t (cl_ta ab L v k) i = true ↔ ∃ u, u < k ∧ bs_t (ab u) v = true ∧ bs_t (L u) i = true := by
  induction k with
  | zero =>
    show bs_t 0 i = true ↔ _
    rw [bs_0]
    constructor
    · intro h; cases h
    · rintro ⟨u, h, -⟩; omega
  | succ k ih =>
    show bs_t (if bs_t (ab k) v = true then cl_ta ab L v k ||| L k else cl_ta ab L v k) i = true ↔ _
    split
    · next h =>
      rw [bs_or, Bool.or_eq_true, ih]
      constructor
      · rintro (⟨u, q1, q2⟩ | q)
        · exact ⟨u, by omega, q2⟩
        · exact ⟨k, by omega, h, q⟩
      · rintro ⟨u, q1, q2, q3⟩
        by_cases e : u = k
        · subst e; exact Or.inr q3
        · exact Or.inl ⟨u, by omega, q2, q3⟩
    · next h =>
      rw [ih]
      constructor
      · rintro ⟨u, q1, q2⟩; exact ⟨u, by omega, q2⟩
      · rintro ⟨u, q1, q2, q3⟩
        by_cases e : u = k
        · subst e; exact absurd q2 h
        · exact ⟨u, by omega, q2, q3⟩
/-- that 'above' is what dominates -/
def cl_ok (n : Nat) (L : Nat → Int64) (r : Nat) (ab : Nat → Int64) : Prop := ∀ v x, v < n → (bs_t (ab v) x = true ↔ dm_D (gf_E n L) r x v)
theorem gf_lt {n : Nat} {L : Nat → Int64} (hL : ∀ u v, gf_E n L u v → v < n) {r : Nat} (hr : r < n) {v : Nat} (h : gf_R (gf_E n L) r v) : v < n := h (fun y => y < n) hr (fun a b _ e => hL a b e)
theorem cl_rim {n : Nat} (hn : n ≤ 64) {L : Nat → Int64} (hL : ∀ u v, gf_E n L u v → v < n) {r : Nat} (hr : r < n) {ab : Nat → Int64} (h : cl_ok n L r ab) {v : Nat} (hv : v < 64) :
    cl_ta ab L v n &&& ((cl_be ab v n &&& (bs_b v ^^^ (-1))) ^^^ (-1)) = sp_fr n L r v := by
  apply bs_ext
  intro w hw
  rw [Bool.eq_iff_iff, bs_and, bs_not _ hw, bs_and, bs_not _ hw, bs_bit hv, sp_fr_t, Bool.and_eq_true, cl_ta_t]
  have e1 : (!(bs_t (cl_be ab v n) w && !decide (v = w))) = true ↔ (w = v ∨ ¬ (w < n ∧ bs_t (ab w) v = true)) := by
    rw [← cl_be_t ab v hn w]
    cases bs_t (cl_be ab v n) w
    · simp
    · simp; exact ⟨fun q => q.symm, fun q => q.symm⟩
  rw [e1]
  constructor
  · rintro ⟨⟨u, q1, q2, q3⟩, q4⟩
    refine ⟨u, (h u v q1).mp q2, ⟨q1, q3⟩, ?_⟩
    rcases q4 with q4 | q4
    · exact Or.inl q4
    · right
      intro z
      have hwn := hL u w ⟨q1, q3⟩
      exact q4 ⟨hwn, (h w v hwn).mpr z⟩
  · rintro ⟨u, q1, q2, q3⟩
    refine ⟨⟨u, q2.1, (h u v q2.1).mpr q1, q2.2⟩, ?_⟩
    rcases q3 with q3 | q3
    · exact Or.inl q3
    · right
      intro z
      exact q3 ((h w v z.1).mp z.2)
/-- what holds at the head of the class's spread: found, done, open -/
def cl_W (n : Nat) (L : Nat → Int64) (r : Nat) (S found done opn : Int64) (step : Nat) : Prop :=
  (∀ i, bs_t found i = true → sp_Sp n L r S i ∧ gf_R (gf_E n L) r i) ∧ (∀ v w, bs_t done v = true → sp_Fr n L r v w → bs_t found w = true) ∧
  (∀ v, gf_R (gf_E n L) r v → (bs_t S v = true ∨ bs_t found v = true) → bs_t done v = true ∨ bs_t opn v = true) ∧
  (∀ v, bs_t opn v = true → bs_t done v = false ∧ gf_R (gf_E n L) r v ∧ (bs_t S v = true ∨ bs_t found v = true)) ∧
  (∀ v, bs_t done v = true → v < n) ∧ ct_n (bs_t done) n = step
theorem cl_W0 {n : Nat} {L : Nat → Int64} {r : Nat} {S met : Int64} (hmet : ∀ v, bs_t met v = true ↔ gf_R (gf_E n L) r v) : cl_W n L r S 0 0 (S &&& met) 0 := by
  refine ⟨fun i h => (by rw [bs_0] at h; cases h), fun v w h => (by rw [bs_0] at h; cases h), fun v hv h => ?_, fun v h => ?_, fun v h => (by rw [bs_0] at h; cases h), ct_zero (fun i _ => bs_0 i)⟩
  · right
    rcases h with h | h
    · rw [bs_and, h, (hmet v).mpr hv]; rfl
    · rw [bs_0] at h; cases h
  · rw [bs_and, Bool.and_eq_true] at h
    exact ⟨bs_0 v, (hmet v).mp h.2, Or.inl h.1⟩
theorem cl_Ws {n : Nat} (hn : n ≤ 64) {L : Nat → Int64} (hL : ∀ u v, gf_E n L u v → v < n) {r : Nat} (hr : r < n) {S found done opn : Int64} {step v : Nat} (h : cl_W n L r S found done opn step) (hv : bs_t opn v = true) :
    cl_W n L r S (found ||| sp_fr n L r v) (done ||| bs_b v) ((opn ||| (found ||| sp_fr n L r v)) &&& ((done ||| bs_b v) ^^^ (-1))) (step + 1) := by
  obtain ⟨h1, h2, h3, h4, h5, h6⟩ := h
  obtain ⟨a1, a2, a3⟩ := h4 v hv
  have hvn := gf_lt hL hr a2
  have hv64 : v < 64 := by omega
  have hSv : bs_t S v = true ∨ sp_Sp n L r S v := a3.imp id (fun q => (h1 v q).1)
  have hfr : ∀ w, sp_Fr n L r v w → sp_Sp n L r S w ∧ gf_R (gf_E n L) r w := fun w hw => ⟨sp_Sp_in hSv hw, by
    obtain ⟨u, q1, q2, -⟩ := hw
    exact gf_st q1.2.1 q2⟩
  have hf : ∀ i, bs_t (found ||| sp_fr n L r v) i = true ↔ (bs_t found i = true ∨ sp_Fr n L r v i) := fun i => by rw [bs_or, Bool.or_eq_true, sp_fr_t]
  have hd : ∀ i, bs_t (done ||| bs_b v) i = true ↔ (bs_t done i = true ∨ i = v) := fun i => by
    rw [bs_or, Bool.or_eq_true, bs_bit hv64, decide_eq_true_eq]
    exact ⟨fun q => q.imp id Eq.symm, fun q => q.imp id Eq.symm⟩
  have ho : ∀ i, bs_t ((opn ||| (found ||| sp_fr n L r v)) &&& ((done ||| bs_b v) ^^^ (-1))) i = true ↔ ((bs_t opn i = true ∨ bs_t (found ||| sp_fr n L r v) i = true) ∧ bs_t (done ||| bs_b v) i = false) := fun i => by
    rcases Nat.lt_or_ge i 64 with g | g
    · rw [bs_and, bs_not _ g, Bool.and_eq_true, bs_or opn, Bool.or_eq_true]
      simp
    · rw [bs_big g, bs_big g, bs_big g]; simp
  refine ⟨fun i hi => ?_, fun x w hx hw => ?_, fun x hx hs => ?_, fun x hx => ?_, fun x hx => ?_, ?_⟩
  · rcases (hf i).mp hi with q | q
    · exact h1 i q
    · exact hfr i q
  · rw [hf]
    rcases (hd x).mp hx with q | q
    · exact Or.inl (h2 x w q hw)
    · rw [q] at hw; exact Or.inr hw
  · cases e : bs_t (done ||| bs_b v) x with
    | true => exact Or.inl rfl
    | false =>
      right
      rw [ho]
      refine ⟨?_, e⟩
      rcases hs with q | q
      · rcases h3 x hx (Or.inl q) with z | z
        · rw [(hd x).mpr (Or.inl z)] at e; cases e
        · exact Or.inl z
      · exact Or.inr q
  · rw [ho] at hx
    refine ⟨hx.2, ?_⟩
    rcases hx.1 with q | q
    · obtain ⟨-, b2, b3⟩ := h4 x q
      refine ⟨b2, b3.imp id (fun z => (hf x).mpr (Or.inl z))⟩
    · refine ⟨?_, Or.inr q⟩
      rcases (hf x).mp q with z | z
      · exact (h1 x z).2
      · exact (hfr x z).2
  · rcases (hd x).mp hx with q | q
    · exact h5 x q
    · rw [q]; exact hvn
  · rw [← h6]
    refine ct_set hvn a1 ((hd v).mpr (Or.inr rfl)) (fun i _ hi => ?_)
    rw [bs_or, bs_bit hv64]
    have : ¬ v = i := fun z => hi z.symm
    simp [this]
theorem cl_We {n : Nat} {L : Nat → Int64} {r : Nat} (hL : ∀ u v, gf_E n L u v → v < n) (hr : r < n) {S found done opn : Int64} {step : Nat} (h : cl_W n L r S found done opn step) (he : opn = 0 ∨ n ≤ step) : found = sp_sp n L r S := by
  obtain ⟨h1, h2, h3, h4, h5, h6⟩ := h
  have h0 : ∀ v, bs_t opn v = false := by
    intro v
    cases e : bs_t opn v with
    | false => rfl
    | true =>
      rcases he with q | q
      · rw [q, bs_0] at e; cases e
      · obtain ⟨b1, b2, -⟩ := h4 v e
        have hvn := gf_lt hL hr b2
        have := ct_lt (p := bs_t done) (q := fun _ => true) (n := n) (fun _ _ _ => rfl) hvn b1 rfl
        have := ct_le (fun _ => true) n
        omega
  refine sp_sp_eq (fun i hi => (h1 i hi).1) (fun v w hv hw => ?_)
  have hR : gf_R (gf_E n L) r v := by obtain ⟨u, q, -⟩ := hw; exact q.1
  rcases h3 v hR hv with q | q
  · exact h2 v w q hw
  · rw [h0 v] at q; cases q
/-- the reference's spread: all, old -/
def md_S (n : Nat) (L : Nat → Int64) (r : Nat) (S all old : Int64) : Prop :=
  ((old = -1 ∧ all = 0) ∨ (all = md_or (sp_fr n L r) (S ||| old) old n ∧ ∀ i, bs_t old i = true → i < n)) ∧ (∀ i, bs_t all i = true → sp_Sp n L r S i ∧ i < n)
def md_Sm (old : Int64) : Nat := if old = -1 then 65 else 64 - bs_c old
theorem md_S0 (n : Nat) (L : Nat → Int64) (r : Nat) (S : Int64) : md_S n L r S 0 (-1) := ⟨Or.inl ⟨rfl, rfl⟩, fun i h => (by rw [bs_0] at h; cases h)⟩
theorem md_Ss {n : Nat} {L : Nat → Int64} (hL : ∀ u v, gf_E n L u v → v < n) {r : Nat} {S all old : Int64} (h : md_S n L r S all old) : md_S n L r S (md_or (sp_fr n L r) (S ||| all) all n) all := by
  refine ⟨Or.inr ⟨rfl, fun i hi => (h.2 i hi).2⟩, fun i hi => ?_⟩
  rw [md_or_t] at hi
  rcases hi with q | ⟨v, q1, q2, q3⟩
  · exact h.2 i q
  · rw [sp_fr_t] at q3
    rw [bs_or, Bool.or_eq_true] at q2
    refine ⟨sp_Sp_in (q2.imp id (fun z => (h.2 v z).1)) q3, ?_⟩
    obtain ⟨u, -, z, -⟩ := q3
    exact hL u i z
theorem md_Smm {n : Nat} {L : Nat → Int64} {r : Nat} {S all old : Int64} (hn : n < 64) (h : md_S n L r S all old) (hne : ¬ all = old) : md_Sm all < md_Sm old := by
  have hall : ¬ all = -1 := fun e => by
    have := (h.2 63 (by rw [e]; exact bs_m1 63 (by decide))).2
    omega
  unfold md_Sm
  rw [if_neg hall]
  split
  · omega
  · next hold =>
    rcases h.1 with ⟨q, -⟩ | ⟨q, -⟩
    · exact absurd q hold
    · have hs : ∀ i, bs_t old i = true → bs_t all i = true := fun i hi => by rw [q, md_or_t]; exact Or.inl hi
      have : ∃ i, i < 64 ∧ bs_t old i = false ∧ bs_t all i = true := by
        apply Classical.byContradiction
        intro hn
        apply hne
        apply bs_ext
        intro i hi
        cases e : bs_t old i with
        | true => exact hs i e
        | false =>
          cases e2 : bs_t all i with
          | false => rfl
          | true => exact absurd ⟨i, hi, e, e2⟩ hn
      obtain ⟨i, hi, z1, z2⟩ := this
      have := ct_lt (p := bs_t old) (q := bs_t all) (n := 64) (fun j _ => hs j) hi z1 z2
      have := bs_c_le all
      unfold bs_c at *
      omega
theorem md_Se {n : Nat} {L : Nat → Int64} (hL : ∀ u v, gf_E n L u v → v < n) {r : Nat} (hr : r < n) (hn : n < 64) {S all : Int64} (h : md_S n L r S all all) : all = sp_sp n L r S := by
  refine sp_sp_eq (fun i hi => (h.2 i hi).1) (fun v w hv hw => ?_)
  have hR : gf_R (gf_E n L) r v := by obtain ⟨u, q, -⟩ := hw; exact q.1
  have hvn := gf_lt hL hr hR
  rcases h.1 with ⟨q, z⟩ | ⟨q, -⟩
  · rw [z] at q; exact absurd q (by decide)
  · rw [q, md_or_t]
    exact Or.inr ⟨v, hvn, by rw [bs_or, Bool.or_eq_true]; exact hv, (sp_fr_t n L r v w).mpr hw⟩
