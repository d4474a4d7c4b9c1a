/-! the next vertex of a set -/
def bs_fo (x : Int64) (k : Nat) : Nat := df_ls (fun i => decide (k ≤ i) && bs_t x i) 64
theorem bs_fo_le (x : Int64) (k : Nat) : bs_fo x k ≤ 64 := df_ls_le _ _
theorem bs_fo_in {x : Int64} {k : Nat} (h : bs_fo x k < 64) : k ≤ bs_fo x k ∧ bs_t x (bs_fo x k) = true := by
  have this : (decide (k ≤ bs_fo x k) && bs_t x (bs_fo x k)) = true := df_ls_in (p := fun i => decide (k ≤ i) && bs_t x i) (n := 64) h
  simpa using this
theorem bs_fo_no {x : Int64} {k i : Nat} (hk : k ≤ i) (hi : i < bs_fo x k) : bs_t x i = false := by
  have := df_ls_lt (p := fun i => decide (k ≤ i) && bs_t x i) (n := 64) hi
  simpa [hk] using this
theorem bs_fo_ge {x : Int64} {k : Nat} (hk : k ≤ 64) : k ≤ bs_fo x k := by
  rcases Nat.lt_or_ge (bs_fo x k) 64 with h | h
  · exact (bs_fo_in h).1
  · omega
theorem bs_neg (y : Int64) {i : Nat} (hi : i < 64) : bs_t (-y) i = (bs_t y i ^^ gf_d (∃ j, j < i ∧ bs_t y j = true)) := by
  unfold bs_t
  rw [Int64.toBitVec_neg, BitVec.getLsbD_neg]
  congr 1
  rw [decide_eq_true hi, Bool.true_and]
  by_cases h : ∃ j, j < i ∧ y.toBitVec.getLsbD j = true
  · rw [decide_eq_true h, gf_di.mpr h]
  · rw [decide_eq_false h, gf_df.mpr h]
theorem bs_lowc : ∀ i, i < 64 → bs_c (bs_b i - 1) = i := by decide +kernel
theorem bs_c_m1 : bs_c (-1) = 64 := by decide +kernel
theorem bs_low {y : Int64} {i : Nat} (hi : i < 64) (h1 : bs_t y i = true) (h2 : ∀ j, j < i → bs_t y j = false) : y &&& -y = bs_b i := by
  apply bs_ext
  intro j hj
  rw [bs_and, bs_neg y hj, bs_bit hi]
  rcases Nat.lt_trichotomy j i with h | h | h
  · rw [h2 j h]; simp; omega
  · subst h
    have : gf_d (∃ k, k < j ∧ bs_t y k = true) = false := gf_df.mpr (fun ⟨k, q1, q2⟩ => by rw [h2 k q1] at q2; cases q2)
    rw [this, h1]; simp
  · have : gf_d (∃ k, k < j ∧ bs_t y k = true) = true := gf_di.mpr ⟨i, h, h1⟩
    rw [this]
    have e : ¬ i = j := by omega
    cases bs_t y j <;> simp [e]
theorem bs_fol (x : Int64) {k : Nat} (hk : k < 64) : bs_c (((x &&& ((-1 : Int64) <<< ((nI k).toInt64 &&& 63))) &&& -(x &&& ((-1 : Int64) <<< ((nI k).toInt64 &&& 63)))) - 1) = bs_fo x k := by
  have hb : ∀ i, i < 64 → bs_t (x &&& ((-1 : Int64) <<< ((nI k).toInt64 &&& 63))) i = (decide (k ≤ i) && bs_t x i) := fun i hi => by
    rw [bs_and, bs_shl k hk i hi, Bool.and_comm]
  generalize x &&& ((-1 : Int64) <<< ((nI k).toInt64 &&& 63)) = y at hb
  rcases Nat.lt_or_ge (bs_fo x k) 64 with h | h
  · have h1 : bs_t y (bs_fo x k) = true := by rw [hb _ h]; exact df_ls_in (p := fun i => decide (k ≤ i) && bs_t x i) (n := 64) h
    have h2 : ∀ j, j < bs_fo x k → bs_t y j = false := fun j hj => by
      rw [hb _ (by omega)]; exact df_ls_lt (p := fun i => decide (k ≤ i) && bs_t x i) (n := 64) hj
    rw [bs_low h h1 h2, bs_lowc _ h]
  · have e := bs_fo_le x k
    have e2 : bs_fo x k = 64 := by omega
    have y0 : y = 0 := bs_eq0.mpr (fun i => by
      rcases Nat.lt_or_ge i 64 with g | g
      · rw [hb i g]; exact df_ls_lt (p := fun i => decide (k ≤ i) && bs_t x i) (n := 64) (i := i) (by unfold bs_fo at e2; omega)
      · exact bs_big g)
    rw [e2, y0]
    exact bs_c_m1
/-- a set of vertices by what it has -/
noncomputable def gf_set (P : Nat → Prop) : Nat → Int64
  | 0 => 0
  | k + 1 => if gf_d (P k) = true then gf_set P k ||| bs_b k else gf_set P k
theorem gf_set_t (P : Nat → Prop) {k : Nat} (hk : k ≤ 64) (i : Nat) : bs_t (gf_set P k) i = true ↔ i < k ∧ P i := by
  induction k with
  | zero => simp [gf_set, bs_0]
  | succ k ih =>
    have ih := ih (by omega)
    unfold gf_set
    split
    · next h =>
      have h := gf_di.mp h
      rw [bs_or, bs_bit (by omega), Bool.or_eq_true, ih]
      simp only [decide_eq_true_eq]
      constructor
      · rintro (q | q)
        · exact ⟨by omega, q.2⟩
        · rw [← q]; exact ⟨by omega, h⟩
      · intro q
        by_cases e : k = i
        · exact Or.inr e
        · exact Or.inl ⟨by omega, q.2⟩
    · next h =>
      rw [ih]
      constructor
      · intro q; exact ⟨by omega, q.2⟩
      · intro q
        refine ⟨?_, q.2⟩
        by_cases e : k = i
        · exact absurd (gf_di.mpr (by rw [e]; exact q.2)) h
        · omega
theorem gf_set_eq {P : Nat → Prop} {x : Int64} (h : ∀ i, i < 64 → (bs_t x i = true ↔ P i)) : x = gf_set P 64 := by
  apply bs_ext
  intro i hi
  have h1 := gf_set_t P (k := 64) (by decide) i
  have h2 := h i hi
  cases e : bs_t x i with
  | true => exact (h1.mpr ⟨hi, h2.mp e⟩).symm
  | false =>
    cases e2 : bs_t (gf_set P 64) i with
    | false => rfl
    | true => rw [h2.mpr (h1.mp e2).2] at e; cases e
