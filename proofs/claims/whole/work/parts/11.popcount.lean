/-! the JDK's count of the bits of a long is bs_c -/
def bs_n (x : Int64) : Nat := x.toBitVec.toNat
theorem bs_n_lt (x : Int64) : bs_n x < 18446744073709551616 := x.toBitVec.isLt
theorem bs_n_and (x y : Int64) : bs_n (x &&& y) = bs_n x &&& bs_n y := by unfold bs_n; rw [Int64.toBitVec_and, BitVec.toNat_and]
theorem bs_n_add {x y : Int64} (h : bs_n x + bs_n y < 18446744073709551616) : bs_n (x + y) = bs_n x + bs_n y := by
  unfold bs_n at *
  rw [Int64.toBitVec_add, BitVec.toNat_add, Nat.mod_eq_of_lt h]
theorem bs_n_sub {x y : Int64} (h : bs_n y ≤ bs_n x) : bs_n (x - y) = bs_n x - bs_n y := by
  have h1 := bs_n_lt x
  unfold bs_n at *
  rw [Int64.toBitVec_sub, BitVec.toNat_sub]
  omega
def bs_ush (x : Int64) (k : Int32) : Int64 := (x.toUInt64 >>> (k.toInt64.toUInt64 &&& Int64.toUInt64 63)).toInt64
theorem bs_uk : ∀ k, k < 64 → ((nI k).toInt64.toUInt64 &&& Int64.toUInt64 63).toNat % 64 = k := by decide +kernel
theorem bs_n_ush (x : Int64) {k : Nat} (hk : k < 64) : bs_n (bs_ush x (nI k)) = bs_n x / 2 ^ k := by
  show (x.toUInt64 >>> ((nI k).toInt64.toUInt64 &&& Int64.toUInt64 63)).toNat = _
  rw [UInt64.toNat_shiftRight, bs_uk k hk, Nat.shiftRight_eq_div_pow]
  rfl
def bs_rep (b : Nat) : Nat → Nat
  | 0 => 0
  | k + 1 => b + 256 * bs_rep b k
def bs_map (f : Nat → Nat) : Nat → Nat → Nat
  | 0, _ => 0
  | k + 1, N => f (N % 256) + 256 * bs_map f k (N / 256)
theorem bs_land (a b : Nat) (ha : a < 256) (hb : b < 256) (p q : Nat) : (a + 256 * p) &&& (b + 256 * q) = (a &&& b) + 256 * (p &&& q) := by
  have h1 : ((a + 256 * p) &&& (b + 256 * q)) % 2 ^ 8 = (a &&& b) % 2 ^ 8 := by
    rw [Nat.and_mod_two_pow, Nat.and_mod_two_pow (a := a)]
    congr 1 <;> omega
  have h2 : ((a + 256 * p) &&& (b + 256 * q)) / 2 ^ 8 = p &&& q := by
    rw [Nat.and_div_two_pow]
    congr 1 <;> omega
  have h3 : (a &&& b) < 256 := Nat.lt_of_le_of_lt Nat.and_le_left ha
  omega
theorem bs_map_id (k : Nat) : ∀ N, N < 256 ^ k → bs_map (fun b => b) k N = N := by
  induction k with
  | zero => intro N h; simp at h; subst h; rfl
  | succ k ih =>
    intro N h
    show N % 256 + 256 * bs_map _ k (N / 256) = N
    rw [ih (N / 256) (by rw [Nat.pow_succ] at h; omega)]
    omega
theorem bs_map_le {f g : Nat → Nat} (h : ∀ b, b < 256 → f b ≤ g b) (k : Nat) : ∀ N, bs_map f k N ≤ bs_map g k N := by
  induction k with
  | zero => intro N; exact Nat.le_refl _
  | succ k ih =>
    intro N
    have h1 := h (N % 256) (by omega)
    have h2 := ih (N / 256)
    show f _ + 256 * _ ≤ g _ + 256 * _
    omega
theorem bs_map_sub {f g : Nat → Nat} (h : ∀ b, b < 256 → g b ≤ f b) (k : Nat) : ∀ N, bs_map f k N - bs_map g k N = bs_map (fun b => f b - g b) k N := by
  induction k with
  | zero => intro N; rfl
  | succ k ih =>
    intro N
    have h1 := h (N % 256) (by omega)
    have h2 := ih (N / 256)
    have h3 := bs_map_le h k (N / 256)
    show f _ + 256 * _ - (g _ + 256 * _) = (f _ - g _) + 256 * _
    rw [← h2]
    omega
theorem bs_map_add {f g : Nat → Nat} (k : Nat) : ∀ N, bs_map f k N + bs_map g k N = bs_map (fun b => f b + g b) k N := by
  induction k with
  | zero => intro N; rfl
  | succ k ih =>
    intro N
    have h2 := ih (N / 256)
    show f _ + 256 * _ + (g _ + 256 * _) = (f _ + g _) + 256 * _
    rw [← h2]
    omega
theorem bs_map_congr {f g : Nat → Nat} (h : ∀ b, b < 256 → f b = g b) (k : Nat) : ∀ N, bs_map f k N = bs_map g k N := by
  induction k with
  | zero => intro N; rfl
  | succ k ih =>
    intro N
    show f _ + 256 * _ = g _ + 256 * _
    rw [h _ (by omega), ih]
theorem bs_map_and {f : Nat → Nat} (c : Nat) (hc : c < 256) (h : ∀ b, b < 256 → f b < 256) (k : Nat) : ∀ N, bs_map f k N &&& bs_rep c k = bs_map (fun b => f b &&& c) k N := by
  induction k with
  | zero => intro N; simp [bs_map, bs_rep]
  | succ k ih =>
    intro N
    show (f _ + 256 * _) &&& (c + 256 * _) = (f _ &&& c) + 256 * _
    rw [bs_land _ _ (h _ (by omega)) hc, ih]
/-- a shift of each byte, under a mask that what comes in from above does not meet -/
theorem bs_map_shr {f : Nat → Nat} (s c : Nat) (hs : s ≤ 8) (hc : c < 256) (hm : ∀ a, a < 256 → ∀ e, e < 2 ^ s → (a / 2 ^ s + 2 ^ (8 - s) * e) &&& c = (a / 2 ^ s) &&& c) (h : ∀ b, b < 256 → f b < 256) (k : Nat) : ∀ N, bs_map f k N / 2 ^ s &&& bs_rep c k = bs_map (fun b => (f b / 2 ^ s) &&& c) k N := by
  induction k with
  | zero => intro N; simp [bs_map, bs_rep]
  | succ k ih =>
    intro N
    show (f _ + 256 * bs_map f k (N / 256)) / 2 ^ s &&& (c + 256 * bs_rep c k) = (f _ / 2 ^ s &&& c) + 256 * _
    rw [← ih]
    have hb := h (N % 256) (by omega)
    generalize f (N % 256) = a at hb
    generalize bs_map f k (N / 256) = M
    have h2 : (256 : Nat) = 2 ^ (8 - s) * 2 ^ s := by rw [← Nat.pow_add, Nat.sub_add_cancel hs]
    have hp : 0 < 2 ^ s := Nat.two_pow_pos s
    have e1 : (a + 256 * M) / 2 ^ s = a / 2 ^ s + 2 ^ (8 - s) * M := by
      rw [h2, Nat.mul_right_comm, Nat.add_mul_div_right _ _ hp]
    have e2 : 2 ^ (8 - s) * M = 2 ^ (8 - s) * (M % 2 ^ s) + 256 * (M / 2 ^ s) := by
      rw [h2, Nat.mul_assoc, ← Nat.mul_add]
      congr 1
      have := Nat.mod_add_div M (2 ^ s)
      omega
    have e3 : M % 2 ^ s < 2 ^ s := Nat.mod_lt _ hp
    have e4 : a / 2 ^ s + 2 ^ (8 - s) * (M % 2 ^ s) < 256 := by
      have g1 : a / 2 ^ s < 2 ^ (8 - s) := by
        rw [Nat.div_lt_iff_lt_mul hp, ← h2]; exact hb
      have g2 : 2 ^ (8 - s) * (M % 2 ^ s + 1) ≤ 2 ^ (8 - s) * 2 ^ s := Nat.mul_le_mul_left _ e3
      rw [← h2, Nat.mul_add] at g2
      omega
    rw [e1, e2, ← Nat.add_assoc, bs_land _ _ e4 hc, hm a hb _ e3]
def bs_h (b : Nat) : Nat := b - ((b / 2 ^ 1) &&& 85)
def bs_g (b : Nat) : Nat := (bs_h b &&& 51) + ((bs_h b / 2 ^ 2) &&& 51)
def bs_f (b : Nat) : Nat := (bs_g b + bs_g b / 16) &&& 15
theorem bs_h_lt : ∀ b, b < 256 → bs_h b < 256 := by decide +kernel
theorem bs_hs : ∀ b, b < 256 → (b / 2 ^ 1) &&& 85 ≤ b := by decide +kernel
theorem bs_g_lo : ∀ b, b < 256 → bs_g b % 16 ≤ 4 ∧ bs_g b ≤ 68 := by decide +kernel
theorem bs_f_ct : ∀ b, b < 256 → bs_f b = ct_n (fun i => b.testBit i) 8 := by decide +kernel
theorem bs_map_add4 (k : Nat) : ∀ N, (bs_map bs_g k N + bs_map bs_g k N / 16) &&& bs_rep 15 k = bs_map bs_f k N := by
  induction k with
  | zero => intro N; simp [bs_map, bs_rep]
  | succ k ih =>
    intro N
    have h0 := bs_g_lo (N % 256) (by omega)
    have h1 : bs_map bs_g k (N / 256) % 16 ≤ 4 := by
      cases k with
      | zero => simp [bs_map]
      | succ k =>
        have h1 := bs_g_lo (N / 256 % 256) (by omega)
        show (bs_g _ + 256 * _) % 16 ≤ 4
        omega
    have h2 := ih (N / 256)
    show (bs_g (N % 256) + 256 * bs_map bs_g k (N / 256) + (bs_g (N % 256) + 256 * bs_map bs_g k (N / 256)) / 16) &&& (15 + 256 * bs_rep 15 k) = bs_f (N % 256) + 256 * bs_map bs_f k (N / 256)
    rw [← h2]
    unfold bs_f
    generalize bs_g (N % 256) = a at h0
    generalize bs_map bs_g k (N / 256) = M at h1
    have e1 : a + 256 * M + (a + 256 * M) / 16 = (a + a / 16 + 16 * (M % 16)) + 256 * (M + M / 16) := by omega
    have e2 : a + a / 16 + 16 * (M % 16) < 256 := by omega
    rw [e1, bs_land _ _ e2 (by decide)]
    congr 1
    have e3 : (a + a / 16 + 16 * (M % 16)) % 2 ^ 4 = (a + a / 16) % 2 ^ 4 := by omega
    rw [show (15 : Nat) = 2 ^ 4 - 1 from rfl, Nat.and_two_pow_sub_one_eq_mod, Nat.and_two_pow_sub_one_eq_mod, e3]
theorem bs_rep85 : bs_rep 85 8 = 6148914691236517205 := by decide +kernel
theorem bs_rep51 : bs_rep 51 8 = 3689348814741910323 := by decide +kernel
theorem bs_rep15 : bs_rep 15 8 = 1085102592571150095 := by decide +kernel
/-- the count, as the JDK makes it -/
def bs_p1 (x : Int64) : Int64 := x - (bs_ush x 1 &&& 6148914691236517205)
def bs_p2 (x : Int64) : Int64 := (x &&& 3689348814741910323) + (bs_ush x 2 &&& 3689348814741910323)
def bs_p3 (x : Int64) : Int64 := (x + bs_ush x 4) &&& 1085102592571150095
def bs_p4 (x : Int64) : Int64 := x + bs_ush x 8
def bs_p5 (x : Int64) : Int64 := x + bs_ush x 16
def bs_p6 (x : Int64) : Int64 := x + bs_ush x 32
def bs_pop (x : Int64) : Int32 := (bs_p6 (bs_p5 (bs_p4 (bs_p3 (bs_p2 (bs_p1 x)))))).toInt32 &&& 127
theorem bs_bytes {p : Nat → Nat} (h : ∀ k, k < 8 → p k ≤ 8) {x : Int64} (hx : bs_n x = p 0 + 256 * (p 1 + 256 * (p 2 + 256 * (p 3 + 256 * (p 4 + 256 * (p 5 + 256 * (p 6 + 256 * (p 7 + 256 * 0)))))))) :
    bs_n (x + bs_ush x 8) = (p 0 + p 1) + 256 * ((p 1 + p 2) + 256 * ((p 2 + p 3) + 256 * ((p 3 + p 4) + 256 * ((p 4 + p 5) + 256 * ((p 5 + p 6) + 256 * ((p 6 + p 7) + 256 * p 7)))))) := by
  have h0 := h 0 (by decide); have h1 := h 1 (by decide); have h2 := h 2 (by decide); have h3 := h 3 (by decide)
  have h4 := h 4 (by decide); have h5 := h 5 (by decide); have h6 := h 6 (by decide); have h7 := h 7 (by decide)
  have e : bs_n (bs_ush x 8) = bs_n x / 2 ^ 8 := bs_n_ush x (k := 8) (by decide)
  rw [bs_n_add (by rw [e]; omega), e]
  omega
theorem bs_k85 : bs_n 6148914691236517205 = bs_rep 85 8 := by decide +kernel
theorem bs_k51 : bs_n 3689348814741910323 = bs_rep 51 8 := by decide +kernel
theorem bs_k15 : bs_n 1085102592571150095 = bs_rep 15 8 := by decide +kernel
theorem bs_m85 : ∀ a, a < 256 → ∀ e, e < 2 ^ 1 → (a / 2 ^ 1 + 2 ^ (8 - 1) * e) &&& 85 = (a / 2 ^ 1) &&& 85 := by decide +kernel
theorem bs_m51 : ∀ a, a < 256 → ∀ e, e < 2 ^ 2 → (a / 2 ^ 2 + 2 ^ (8 - 2) * e) &&& 51 = (a / 2 ^ 2) &&& 51 := by decide +kernel
theorem bs_idm (x : Int64) : bs_map (fun b => b) 8 (bs_n x) = bs_n x := bs_map_id 8 _ (bs_n_lt x)
theorem bs_s1a (x : Int64) : bs_n (bs_ush x 1 &&& 6148914691236517205) = bs_map (fun b => (b / 2 ^ 1) &&& 85) 8 (bs_n x) := by
  have e : bs_n (bs_ush x 1) = bs_n x / 2 ^ 1 := bs_n_ush x (k := 1) (by decide)
  rw [bs_n_and, e, bs_k85, ← bs_map_shr (f := fun b => b) 1 85 (by decide) (by decide) bs_m85 (fun b hb => hb) 8 (bs_n x), bs_idm]
theorem bs_s1 (x : Int64) : bs_n (bs_p1 x) = bs_map bs_h 8 (bs_n x) := by
  have a1 := bs_s1a x
  have g := bs_map_le (f := fun b => (b / 2 ^ 1) &&& 85) (g := fun b => b) bs_hs 8 (bs_n x)
  have g2 := bs_map_sub (f := fun b => b) (g := fun b => (b / 2 ^ 1) &&& 85) bs_hs 8 (bs_n x)
  rw [bs_idm] at g g2
  rw [← a1] at g g2
  unfold bs_p1
  rw [bs_n_sub g]
  exact g2
theorem bs_mapb (N : Nat) (f : Nat → Nat) (hf : ∀ b, b < 256 → f b ≤ 127) : bs_map f 8 N < 9223372036854775808 := by
  have g := bs_map_le (f := f) (g := fun _ => 127) hf 8 N
  have e : ∀ k M, bs_map (fun _ => 127) k M * 2 + 1 ≤ 256 ^ k := by
    intro k
    induction k with
    | zero => intro M; exact Nat.le_refl 1
    | succ k ih =>
      intro M
      have h : bs_map (fun _ => 127) (k + 1) M = 127 + 256 * bs_map (fun _ => 127) k (M / 256) := rfl
      have q := ih (M / 256)
      rw [Nat.pow_succ, h]
      omega
  have q := e 8 N
  have : (256 : Nat) ^ 8 = 18446744073709551616 := by decide
  omega
theorem bs_s2 {x i : Int64} (h : bs_n i = bs_map bs_h 8 (bs_n x)) : bs_n (bs_p2 i) = bs_map bs_g 8 (bs_n x) := by
  have b1 : bs_n (i &&& 3689348814741910323) = bs_map (fun b => bs_h b &&& 51) 8 (bs_n x) := by
    rw [bs_n_and, h, bs_k51, bs_map_and 51 (by decide) bs_h_lt]
  have e : bs_n (bs_ush i 2) = bs_n i / 2 ^ 2 := bs_n_ush i (k := 2) (by decide)
  have b2 : bs_n (bs_ush i 2 &&& 3689348814741910323) = bs_map (fun b => (bs_h b / 2 ^ 2) &&& 51) 8 (bs_n x) := by
    rw [bs_n_and, e, h, bs_k51, bs_map_shr 2 51 (by decide) (by decide) bs_m51 bs_h_lt]
  have e3 := bs_map_add (f := fun b => bs_h b &&& 51) (g := fun b => (bs_h b / 2 ^ 2) &&& 51) 8 (bs_n x)
  have g := bs_mapb (bs_n x) bs_g (fun b hb => by have := (bs_g_lo b hb).2; omega)
  have e4 : bs_map (fun b => (bs_h b &&& 51) + ((bs_h b / 2 ^ 2) &&& 51)) 8 (bs_n x) = bs_map bs_g 8 (bs_n x) := bs_map_congr (fun b _ => rfl) 8 _
  rw [e4, ← b1, ← b2] at e3
  unfold bs_p2
  rw [bs_n_add (by rw [e3]; omega), e3]
theorem bs_s3 {x i : Int64} (h : bs_n i = bs_map bs_g 8 (bs_n x)) : bs_n (bs_p3 i) = bs_map bs_f 8 (bs_n x) := by
  have g := bs_mapb (bs_n x) bs_g (fun b hb => by have := (bs_g_lo b hb).2; omega)
  have e : bs_n (bs_ush i 4) = bs_n i / 2 ^ 4 := bs_n_ush i (k := 4) (by decide)
  have e1 : (2 : Nat) ^ 4 = 16 := by decide
  have e2 : bs_n (i + bs_ush i 4) = bs_map bs_g 8 (bs_n x) + bs_map bs_g 8 (bs_n x) / 16 := by
    rw [bs_n_add (by rw [e, e1, h]; omega), e, e1, h]
  unfold bs_p3
  rw [bs_n_and, e2, bs_k15, bs_map_add4]
theorem bs_p123 (x : Int64) : bs_n (bs_p3 (bs_p2 (bs_p1 x))) = bs_map bs_f 8 (bs_n x) := bs_s3 (bs_s2 (bs_s1 x))
theorem bs_f8 (x : Int64) : ∀ k, k < 8 → bs_f (bs_n x / 256 ^ k % 256) ≤ 8 := by
  intro k _
  rw [bs_f_ct _ (Nat.mod_lt _ (by decide))]
  exact ct_le _ _
theorem bs_ct8 (x : Int64) : bs_c x = bs_f (bs_n x / 256 ^ 0 % 256) + bs_f (bs_n x / 256 ^ 1 % 256) + bs_f (bs_n x / 256 ^ 2 % 256) + bs_f (bs_n x / 256 ^ 3 % 256) + bs_f (bs_n x / 256 ^ 4 % 256) + bs_f (bs_n x / 256 ^ 5 % 256) + bs_f (bs_n x / 256 ^ 6 % 256) + bs_f (bs_n x / 256 ^ 7 % 256) := by
  have key : ∀ k, k < 8 → ct_n (fun i => bs_t x (8 * k + i)) 8 = bs_f (bs_n x / 256 ^ k % 256) := by
    intro k hk
    rw [bs_f_ct _ (Nat.mod_lt _ (by decide))]
    apply ct_congr
    intro i hi
    show x.toBitVec.toNat.testBit (8 * k + i) = (x.toBitVec.toNat / 256 ^ k % 2 ^ 8).testBit i
    rw [Nat.testBit_mod_two_pow, show (256 : Nat) ^ k = 2 ^ (8 * k) from by rw [Nat.pow_mul], Nat.testBit_div_two_pow, Nat.add_comm]
    simp [hi]
  unfold bs_c
  rw [show (64 : Nat) = 8 + 56 from rfl, ct_add, show (56 : Nat) = 8 + 48 from rfl, ct_add, show (48 : Nat) = 8 + 40 from rfl, ct_add, show (40 : Nat) = 8 + 32 from rfl, ct_add, show (32 : Nat) = 8 + 24 from rfl, ct_add, show (24 : Nat) = 8 + 16 from rfl, ct_add, show (16 : Nat) = 8 + 8 from rfl, ct_add]
  have k0 := key 0 (by decide); have k1 := key 1 (by decide); have k2 := key 2 (by decide); have k3 := key 3 (by decide)
  have k4 := key 4 (by decide); have k5 := key 5 (by decide); have k6 := key 6 (by decide); have k7 := key 7 (by decide)
  rw [← k0, ← k1, ← k2, ← k3, ← k4, ← k5, ← k6, ← k7]
  have e0 : ct_n (bs_t x) 8 = ct_n (fun i => bs_t x (8 * 0 + i)) 8 := ct_congr (fun i _ => by rw [Nat.mul_zero, Nat.zero_add])
  rw [e0]
  have ee : ∀ (f g : Nat → Nat), (∀ i, i < 8 → f i = g i) → ct_n (fun i => bs_t x (f i)) 8 = ct_n (fun i => bs_t x (g i)) 8 := fun f g h => ct_congr (fun i hi => by rw [h i hi])
  have e1 := ee (fun i => 8 + i) (fun i => 8 * 1 + i) (fun i _ => by omega)
  have e2 := ee (fun i => 8 + (8 + i)) (fun i => 8 * 2 + i) (fun i _ => by omega)
  have e3 := ee (fun i => 8 + (8 + (8 + i))) (fun i => 8 * 3 + i) (fun i _ => by omega)
  have e4 := ee (fun i => 8 + (8 + (8 + (8 + i)))) (fun i => 8 * 4 + i) (fun i _ => by omega)
  have e5 := ee (fun i => 8 + (8 + (8 + (8 + (8 + i))))) (fun i => 8 * 5 + i) (fun i _ => by omega)
  have e6 := ee (fun i => 8 + (8 + (8 + (8 + (8 + (8 + i)))))) (fun i => 8 * 6 + i) (fun i _ => by omega)
  have e7 := ee (fun i => 8 + (8 + (8 + (8 + (8 + (8 + (8 + i))))))) (fun i => 8 * 7 + i) (fun i _ => by omega)
  rw [e1, e2, e3, e4, e5, e6, e7]
  omega
theorem bs_map8 (x : Int64) : bs_map bs_f 8 (bs_n x) = bs_f (bs_n x / 256 ^ 0 % 256) + 256 * (bs_f (bs_n x / 256 ^ 1 % 256) + 256 * (bs_f (bs_n x / 256 ^ 2 % 256) + 256 * (bs_f (bs_n x / 256 ^ 3 % 256) + 256 * (bs_f (bs_n x / 256 ^ 4 % 256) + 256 * (bs_f (bs_n x / 256 ^ 5 % 256) + 256 * (bs_f (bs_n x / 256 ^ 6 % 256) + 256 * (bs_f (bs_n x / 256 ^ 7 % 256) + 256 * 0))))))) := by
  have q : ∀ j, bs_n x / 256 ^ j / 256 = bs_n x / 256 ^ (j + 1) := fun j => by rw [Nat.div_div_eq_div_mul, Nat.pow_succ]
  have q0 : bs_n x = bs_n x / 256 ^ 0 := by simp
  have st : ∀ k j, bs_map bs_f (k + 1) (bs_n x / 256 ^ j) = bs_f (bs_n x / 256 ^ j % 256) + 256 * bs_map bs_f k (bs_n x / 256 ^ (j + 1)) := fun k j => by rw [← q j]; rfl
  have s0 := st 7 0; have s1 := st 6 1; have s2 := st 5 2; have s3 := st 4 3; have s4 := st 3 4; have s5 := st 2 5; have s6 := st 1 6; have s7 := st 0 7
  have z : bs_map bs_f 0 (bs_n x / 256 ^ 8) = 0 := rfl
  have w : bs_map bs_f 8 (bs_n x) = bs_map bs_f (7 + 1) (bs_n x / 256 ^ 0) := by rw [← q0]
  rw [w, s0, s1, s2, s3, s4, s5, s6, s7, z]
theorem bs_sum4 {N p0 p1 p2 p3 p4 p5 p6 p7 : Nat} (h0 : p0 ≤ 8) (h1 : p1 ≤ 8) (h2 : p2 ≤ 8) (h3 : p3 ≤ 8) (h4 : p4 ≤ 8) (h5 : p5 ≤ 8) (h6 : p6 ≤ 8) (h7 : p7 ≤ 8) (hN : N = (p0 + p1) + 256 * ((p1 + p2) + 256 * ((p2 + p3) + 256 * ((p3 + p4) + 256 * ((p4 + p5) + 256 * ((p5 + p6) + 256 * ((p6 + p7) + 256 * p7))))))) : N + N / 2 ^ 16 = (p0 + p1 + p2 + p3) + 256 * ((p1 + p2 + p3 + p4) + 256 * ((p2 + p3 + p4 + p5) + 256 * ((p3 + p4 + p5 + p6) + 256 * ((p4 + p5 + p6 + p7) + 256 * ((p5 + p6 + p7) + 256 * ((p6 + p7) + 256 * p7)))))) := by
  have e : N / 2 ^ 16 = (p2 + p3) + 256 * ((p3 + p4) + 256 * ((p4 + p5) + 256 * ((p5 + p6) + 256 * ((p6 + p7) + 256 * p7)))) := by
    generalize (p3 + p4) + 256 * ((p4 + p5) + 256 * ((p5 + p6) + 256 * ((p6 + p7) + 256 * p7))) = C at hN ⊢
    omega
  omega
theorem bs_sum8 {N q0 q1 q2 q3 q4 C : Nat} (h0 : q0 ≤ 32) (h1 : q1 ≤ 32) (h2 : q2 ≤ 32) (h3 : q3 ≤ 32) (h4 : q4 ≤ 32) (hN : N = q0 + 256 * (q1 + 256 * (q2 + 256 * (q3 + 256 * (q4 + 256 * C))))) : (N + N / 2 ^ 32) % 256 = q0 + q4 := by
  have e : N / 2 ^ 32 = q4 + 256 * C := by omega
  omega
theorem bs_low7 {i : Int64} {k : Nat} (hk : k ≤ 64) (h : bs_n i % 256 = k) : i.toInt32 &&& 127 = nI k := by
  apply Int32.toBitVec_inj.mp
  apply BitVec.eq_of_toNat_eq
  have e1 : (i.toInt32 &&& 127).toBitVec.toNat = (bs_n i % 2 ^ 32) % 128 := by
    rw [Int32.toBitVec_and, BitVec.toNat_and, show (127 : Int32).toBitVec.toNat = 2 ^ 7 - 1 from by decide, Nat.and_two_pow_sub_one_eq_mod]
    rw [Int64.toBitVec_toInt32, BitVec.signExtend_eq_setWidth_of_le _ (by decide), BitVec.toNat_setWidth]
    rfl
  rw [e1, pk_tn (by omega)]
  omega
theorem bs_pop_eq (x : Int64) : bs_pop x = nI (bs_c x) := by
  have hp := bs_f8 x
  have c1 := bs_p123 x
  rw [bs_map8 x] at c1
  have d1 := bs_bytes (p := fun k => bs_f (bs_n x / 256 ^ k % 256)) hp c1
  have h0 := hp 0 (by decide); have h1 := hp 1 (by decide); have h2 := hp 2 (by decide); have h3 := hp 3 (by decide)
  have h4 := hp 4 (by decide); have h5 := hp 5 (by decide); have h6 := hp 6 (by decide); have h7 := hp 7 (by decide)
  rw [bs_ct8 x]
  clear hp c1
  unfold bs_pop
  generalize bs_f (bs_n x / 256 ^ 0 % 256) = p0 at *
  generalize bs_f (bs_n x / 256 ^ 1 % 256) = p1 at *
  generalize bs_f (bs_n x / 256 ^ 2 % 256) = p2 at *
  generalize bs_f (bs_n x / 256 ^ 3 % 256) = p3 at *
  generalize bs_f (bs_n x / 256 ^ 4 % 256) = p4 at *
  generalize bs_f (bs_n x / 256 ^ 5 % 256) = p5 at *
  generalize bs_f (bs_n x / 256 ^ 6 % 256) = p6 at *
  generalize bs_f (bs_n x / 256 ^ 7 % 256) = p7 at *
  have d1 : bs_n (bs_p4 (bs_p3 (bs_p2 (bs_p1 x)))) = _ := d1
  generalize bs_p4 (bs_p3 (bs_p2 (bs_p1 x))) = i4 at d1 ⊢
  have u1 : bs_n (bs_ush i4 16) = bs_n i4 / 2 ^ 16 := bs_n_ush i4 (k := 16) (by decide)
  have s1 := bs_sum4 h0 h1 h2 h3 h4 h5 h6 h7 d1
  have d2 : bs_n (bs_p5 i4) = bs_n i4 + bs_n i4 / 2 ^ 16 := by
    unfold bs_p5
    rw [bs_n_add (by rw [u1, s1]; omega), u1]
  rw [s1] at d2
  clear d1 u1 s1
  generalize bs_p5 i4 = i5 at d2 ⊢
  have u2 : bs_n (bs_ush i5 32) = bs_n i5 / 2 ^ 32 := bs_n_ush i5 (k := 32) (by decide)
  have s2 := bs_sum8 (by omega) (by omega) (by omega) (by omega) (by omega) d2
  have d3 : bs_n (bs_p6 i5) = bs_n i5 + bs_n i5 / 2 ^ 32 := by
    unfold bs_p6
    rw [bs_n_add (by rw [u2]; omega), u2]
  rw [← d3] at s2
  rw [show p0 + p1 + p2 + p3 + p4 + p5 + p6 + p7 = p0 + p1 + p2 + p3 + (p4 + p5 + p6 + p7) from by omega]
  exact bs_low7 (by omega) s2
