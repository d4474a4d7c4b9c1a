/-! sets of vertices as longs: bs_t x i is the bit i -/
def bs_t (x : Int64) (i : Nat) : Bool := x.toBitVec.getLsbD i
theorem bs_ext {x y : Int64} (h : ∀ i, i < 64 → bs_t x i = bs_t y i) : x = y := Int64.toBitVec_inj.mp (BitVec.eq_of_getLsbD_eq (fun i hi => h i hi))
theorem bs_or (x y : Int64) (i : Nat) : bs_t (x ||| y) i = (bs_t x i || bs_t y i) := by unfold bs_t; rw [Int64.toBitVec_or, BitVec.getLsbD_or]
theorem bs_and (x y : Int64) (i : Nat) : bs_t (x &&& y) i = (bs_t x i && bs_t y i) := by unfold bs_t; rw [Int64.toBitVec_and, BitVec.getLsbD_and]
theorem bs_xor (x y : Int64) (i : Nat) : bs_t (x ^^^ y) i = (bs_t x i ^^ bs_t y i) := by unfold bs_t; rw [Int64.toBitVec_xor, BitVec.getLsbD_xor]
theorem bs_big {x : Int64} {i : Nat} (h : 64 ≤ i) : bs_t x i = false := BitVec.getLsbD_of_ge _ _ h
theorem bs_lt {x : Int64} {i : Nat} (h : bs_t x i = true) : i < 64 := by
  rcases Nat.lt_or_ge i 64 with g | g
  · exact g
  · rw [bs_big g] at h; cases h
theorem bs_0 (i : Nat) : bs_t 0 i = false := BitVec.getLsbD_zero
theorem bs_m1 : ∀ i, i < 64 → bs_t (-1) i = true := by decide +kernel
theorem bs_not (x : Int64) {i : Nat} (hi : i < 64) : bs_t (x ^^^ (-1)) i = !bs_t x i := by
  rw [bs_xor, bs_m1 i hi]; cases bs_t x i <;> rfl
theorem bs_1 (i : Nat) : bs_t 1 i = decide (i = 0) := by
  rcases Nat.lt_or_ge i 64 with h | h
  · exact (by decide +kernel : ∀ i, i < 64 → bs_t 1 i = decide (i = 0)) i h
  · rw [bs_big h, decide_eq_false (by omega)]
theorem bs_eq0 {x : Int64} : x = 0 ↔ ∀ i, bs_t x i = false :=
  ⟨fun h i => by rw [h, bs_0], fun h => bs_ext (fun i _ => by rw [h i, bs_0])⟩
theorem bs_ne0 {x : Int64} (h : ¬ x = 0) : ∃ i, i < 64 ∧ bs_t x i = true := by
  apply Classical.byContradiction
  intro hn
  apply h
  rw [bs_eq0]
  intro i
  cases e : bs_t x i with
  | false => rfl
  | true => exact absurd ⟨i, bs_lt e, e⟩ hn
/-- the one bit v, as the program makes it -/
def bs_b (v : Nat) : Int64 := (1 : Int64) <<< ((nI v).toInt64 &&& 63)
theorem bs_b_bv : ∀ v, v < 64 → (bs_b v).toBitVec = BitVec.twoPow 64 v := by decide +kernel
theorem bs_bit {v : Nat} (hv : v < 64) (i : Nat) : bs_t (bs_b v) i = decide (v = i) := by
  unfold bs_t
  rw [bs_b_bv v hv, BitVec.getLsbD_twoPow]
  simp [hv]
theorem bs_bits {v : Nat} (hv : v < 64) : bs_t (bs_b v) v = true := by rw [bs_bit hv]; simp
theorem bs_has {x : Int64} {v : Nat} (hv : v < 64) : (x &&& bs_b v) = 0 ↔ bs_t x v = false := by
  rw [bs_eq0]
  constructor
  · intro h
    have h1 := h v
    rw [bs_and, bs_bits hv, Bool.and_true] at h1
    exact h1
  · intro h i
    rw [bs_and, bs_bit hv]
    by_cases e : v = i
    · subst e; rw [h]; rfl
    · simp [e]
theorem bs_sm : ∀ n, n < 64 → (((nI n).toInt64 &&& 63).toBitVec.smod 64).toNat = n := by decide +kernel
theorem bs_shr0 (x : Int64) {v : Nat} (hv : v < 64) : bs_t (x >>> ((nI v).toInt64 &&& 63)) 0 = bs_t x v := by
  unfold bs_t
  rw [Int64.toBitVec_shiftRight]
  show (x.toBitVec.sshiftRight (((nI v).toInt64 &&& 63).toBitVec.smod 64).toNat).getLsbD 0 = _
  rw [bs_sm v hv, BitVec.getLsbD_sshiftRight]
  simp [hv]
theorem bs_hasM {x : Int64} {v : Nat} (hv : v < 64) : ((x >>> ((nI v).toInt64 &&& 63)) &&& 1) = 1 ↔ bs_t x v = true := by
  rw [← bs_shr0 x hv]
  generalize x >>> ((nI v).toInt64 &&& 63) = y
  constructor
  · intro h
    have h1 := congrArg (fun z => bs_t z 0) h
    simp only [bs_and, bs_1] at h1
    simpa using h1
  · intro h
    apply bs_ext
    intro i _
    rw [bs_and, bs_1]
    by_cases e : i = 0
    · subst e; rw [h]; rfl
    · simp [e]
theorem bs_shl : ∀ k, k < 64 → ∀ i, i < 64 → bs_t ((-1 : Int64) <<< ((nI k).toInt64 &&& 63)) i = decide (k ≤ i) := by
  intro k hk i hi
  unfold bs_t
  rw [Int64.toBitVec_shiftLeft]
  show ((-1 : Int64).toBitVec <<< (((nI k).toInt64 &&& 63).toBitVec.smod 64).toNat).getLsbD i = _
  rw [bs_sm k hk, BitVec.getLsbD_shiftLeft]
  have h1 : ∀ j, j < 64 → (-1 : Int64).toBitVec.getLsbD j = true := bs_m1
  rcases Nat.lt_or_ge i k with h | h
  · simp [h, Nat.not_le.mpr h]
  · rw [h1 (i - k) (by omega)]
    simp [hi, h, Nat.not_lt.mpr h]
/-! counting -/
def ct_n (p : Nat → Bool) : Nat → Nat
  | 0 => 0
  | n + 1 => ct_n p n + (p n).toNat
theorem ct_le (p : Nat → Bool) (n : Nat) : ct_n p n ≤ n := by
  induction n with
  | zero => exact Nat.le_refl _
  | succ n ih => have : (p n).toNat ≤ 1 := Bool.toNat_le _; unfold ct_n; omega
theorem ct_congr {p q : Nat → Bool} {n : Nat} (h : ∀ i, i < n → p i = q i) : ct_n p n = ct_n q n := by
  induction n with
  | zero => rfl
  | succ n ih => unfold ct_n; rw [ih (fun i hi => h i (by omega)), h n (by omega)]
theorem ct_mono {p q : Nat → Bool} {n : Nat} (h : ∀ i, i < n → p i = true → q i = true) : ct_n p n ≤ ct_n q n := by
  induction n with
  | zero => exact Nat.le_refl _
  | succ n ih =>
    have h1 := ih (fun i hi => h i (by omega))
    have h2 := h n (by omega)
    unfold ct_n
    cases e : p n with
    | false => simp; omega
    | true => rw [h2 e]; simp; omega
theorem ct_lt {p q : Nat → Bool} {n : Nat} (h : ∀ i, i < n → p i = true → q i = true) {j : Nat} (hj : j < n) (hp : p j = false) (hq : q j = true) : ct_n p n < ct_n q n := by
  induction n with
  | zero => omega
  | succ n ih =>
    unfold ct_n
    by_cases e : j = n
    · subst e
      have h1 := ct_mono (n := j) (fun i hi => h i (by omega))
      rw [hp, hq]; simp; omega
    · have h1 := ih (fun i hi => h i (by omega)) (by omega)
      have h2 := h n (by omega)
      cases e2 : p n with
      | false => simp; omega
      | true => rw [h2 e2]; simp; omega
theorem ct_eq_sub {p q : Nat → Bool} {n : Nat} (h : ∀ i, i < n → p i = true → q i = true) (he : ct_n p n = ct_n q n) : ∀ i, i < n → p i = q i := by
  intro i hi
  cases ep : p i with
  | true => rw [h i hi ep]
  | false =>
    cases eq : q i with
    | false => rfl
    | true => have := ct_lt h hi ep eq; omega
theorem ct_add (p : Nat → Bool) (m n : Nat) : ct_n p (m + n) = ct_n p m + ct_n (fun i => p (m + i)) n := by
  induction n with
  | zero => rfl
  | succ n ih =>
    show ct_n p (m + n) + (p (m + n)).toNat = ct_n p m + (ct_n (fun i => p (m + i)) n + (p (m + n)).toNat)
    rw [ih]; omega
theorem ct_zero {p : Nat → Bool} {n : Nat} (h : ∀ i, i < n → p i = false) : ct_n p n = 0 := by
  induction n with
  | zero => rfl
  | succ n ih => unfold ct_n; rw [ih (fun i hi => h i (by omega)), h n (by omega)]; rfl
theorem ct_cut {p : Nat → Bool} {n m : Nat} (hn : n ≤ m) (h : ∀ i, n ≤ i → p i = false) : ct_n p m = ct_n p n := by
  obtain ⟨d, rfl⟩ : ∃ d, m = n + d := ⟨m - n, by omega⟩
  rw [ct_add, ct_zero (p := fun i => p (n + i)) (fun i _ => h (n + i) (by omega))]; omega
theorem ct_pos {p : Nat → Bool} {n j : Nat} (hj : j < n) (h : p j = true) : 0 < ct_n p n := by
  have := ct_lt (p := fun _ => false) (q := p) (n := n) (fun i _ h => by cases h) hj rfl h
  omega
theorem ct_set {p q : Nat → Bool} {n j : Nat} (hj : j < n) (hp : p j = false) (hq : q j = true) (h : ∀ i, i < n → i ≠ j → p i = q i) : ct_n q n = ct_n p n + 1 := by
  induction n with
  | zero => omega
  | succ n ih =>
    unfold ct_n
    by_cases e : j = n
    · subst e
      rw [hp, hq, ct_congr (fun i hi => h i (by omega) (by omega))]
      simp
    · rw [ih (by omega) (fun i hi => h i (by omega)), h n (by omega) (fun z => e z.symm)]
      omega
/-- how many bits a long has -/
def bs_c (x : Int64) : Nat := ct_n (bs_t x) 64
theorem bs_c_le (x : Int64) : bs_c x ≤ 64 := ct_le _ _
