/-! counts and sums -/
theorem bs_c_n {x : Int64} {n : Nat} (hn : n ≤ 64) (h : ∀ i, bs_t x i = true → i < n) : ct_n (bs_t x) n = bs_c x := by
  unfold bs_c
  rw [ct_cut hn]
  intro i hi
  cases e : bs_t x i with
  | false => rfl
  | true => have := h i e; omega
theorem sp_lp_n {n : Nat} {L : Nat → Int64} (hL : ∀ u v, gf_E n L u v → v < n) {r v : Nat} (hr : r < n) (hv : v < n) : ∀ i, bs_t (sp_lp n L r v) i = true → i < n := by
  intro i h
  obtain ⟨-, u, q1, q2⟩ := (gf_set_t _ (by decide) i).mp h
  rcases q2 with q2 | q2
  · omega
  · exact gf_lt hL hr q2.1
/-- the least of the loops that are asked for: 64 for none -/
def sp_hd (B : Nat → Int64) (ok : Nat → Bool) : Nat → Nat
  | 0 => 64
  | k + 1 => if (ok k && (decide (sp_hd B ok k = 64) || decide (bs_c (B k) < bs_c (B (sp_hd B ok k))))) = true then k else sp_hd B ok k
theorem sp_hd_lt (B : Nat → Int64) (ok : Nat → Bool) (k : Nat) : sp_hd B ok k = 64 ∨ sp_hd B ok k < k := by
  induction k with
  | zero => exact Or.inl rfl
  | succ k ih =>
    unfold sp_hd
    split
    · right; omega
    · rcases ih with h | h
      · exact Or.inl h
      · right; omega
def sp_hi (x : Nat) : Int32 := if x = 64 then -1 else nI x
theorem sp_hd_congr {B C : Nat → Int64} {ok ok2 : Nat → Bool} {k : Nat} (h1 : ∀ i, i < k → B i = C i) (h2 : ∀ i, i < k → ok i = ok2 i) : sp_hd B ok k = sp_hd C ok2 k := by
  induction k with
  | zero => rfl
  | succ k ih =>
    have ih := ih (fun i hi => h1 i (by omega)) (fun i hi => h2 i (by omega))
    unfold sp_hd
    rw [ih, h2 k (by omega), h1 k (by omega)]
    rcases sp_hd_lt C ok2 k with q | q
    · rw [q]
      simp
    · rw [h1 (sp_hd C ok2 k) (by omega)]
/-- sums -/
def sm_n (f : Nat → Nat) : Nat → Nat
  | 0 => 0
  | k + 1 => sm_n f k + f k
theorem sm_congr {f g : Nat → Nat} {n : Nat} (h : ∀ i, i < n → f i = g i) : sm_n f n = sm_n g n := by
  induction n with
  | zero => rfl
  | succ n ih => unfold sm_n; rw [ih (fun i hi => h i (by omega)), h n (by omega)]
theorem sm_set {f g : Nat → Nat} {n j : Nat} (hj : j < n) (h : ∀ i, i < n → i ≠ j → f i = g i) : sm_n g n + f j = sm_n f n + g j := by
  induction n with
  | zero => omega
  | succ n ih =>
    unfold sm_n
    by_cases e : j = n
    · subst e
      rw [sm_congr (fun i hi => h i (by omega) (by omega))]
      omega
    · have := ih (by omega) (fun i hi => h i (by omega))
      rw [h n (by omega) (fun z => e z.symm)]
      omega
theorem sm_le {f : Nat → Nat} {b : Nat} (h : ∀ i, f i ≤ b) (n : Nat) : sm_n f n ≤ n * b := by
  induction n with
  | zero => simp [sm_n]
  | succ n ih => unfold sm_n; have := h n; rw [Nat.add_mul]; omega
theorem sm_zero {f : Nat → Nat} {n : Nat} (h : ∀ i, i < n → f i = 0) : sm_n f n = 0 := by
  induction n with
  | zero => rfl
  | succ n ih => unfold sm_n; rw [ih (fun i hi => h i (by omega)), h n (by omega)]
/-- how many links there are -/
def sp_lc (n : Nat) (L : Nat → Int64) : Nat := sm_n (fun v => bs_c (L v)) n
theorem bs_tog (x : Int64) {v : Nat} (hv : v < 64) (i : Nat) : bs_t (x ^^^ bs_b v) i = (bs_t x i ^^ decide (i = v)) := by
  rw [bs_xor, bs_bit hv]
  congr 1
  exact decide_eq_decide.mpr ⟨Eq.symm, Eq.symm⟩
theorem bs_tog_c (x : Int64) {v : Nat} (hv : v < 64) : (bs_t x v = false → bs_c (x ^^^ bs_b v) = bs_c x + 1) ∧ (bs_t x v = true → bs_c x = bs_c (x ^^^ bs_b v) + 1) := by
  constructor
  · intro h
    exact ct_set hv h (by rw [bs_tog x hv, h]; simp) (fun i _ hi => by rw [bs_tog x hv]; simp [hi])
  · intro h
    exact ct_set hv (by rw [bs_tog x hv, h]; simp) h (fun i _ hi => by rw [bs_tog x hv]; simp [hi])
theorem sp_lc_tog {n : Nat} {L : Nat → Int64} {u v : Nat} (hu : u < n) (hv : v < 64) : (bs_t (L u) v = false → sp_lc n (vp_updL L u (L u ^^^ bs_b v)) = sp_lc n L + 1) ∧ (bs_t (L u) v = true → sp_lc n L = sp_lc n (vp_updL L u (L u ^^^ bs_b v)) + 1) := by
  have key := sm_set (f := fun i => bs_c (L i)) (g := fun i => bs_c (vp_updL L u (L u ^^^ bs_b v) i)) (n := n) hu (fun i _ hi => by rw [pk_uLn hi])
  rw [pk_uLs] at key
  have h := bs_tog_c (L u) hv
  unfold sp_lc
  constructor
  · intro q
    have := h.1 q
    omega
  · intro q
    have := h.2 q
    omega
/-- the trail as an array: the last one at the top -/
def df_tr (T : List Nat) (tr : Nat → Int32) : Prop := ∀ j, j < T.length → tr j = nI (T.getD (T.length - 1 - j) 0)
theorem df_tr_top {t : Nat} {T : List Nat} {tr : Nat → Int32} (h : df_tr (t :: T) tr) : tr T.length = nI t := by
  have := h T.length (by simp)
  rw [this]
  simp
theorem df_tr_pop {t : Nat} {T : List Nat} {tr : Nat → Int32} (h : df_tr (t :: T) tr) : df_tr T tr := by
  intro j hj
  rw [h j (by simp; omega)]
  have e : (t :: T).length - 1 - j = (T.length - 1 - j) + 1 := by simp; omega
  rw [e]
  simp
theorem df_tr_push {w : Nat} {T : List Nat} {tr : Nat → Int32} (h : df_tr T tr) : df_tr (w :: T) (upd tr T.length (nI w)) := by
  intro j hj
  by_cases e : j = T.length
  · subst e
    rw [pk_us]
    simp
  · have hj : j < T.length := by simp at hj; omega
    rw [pk_un e, h j hj]
    have e : (w :: T).length - 1 - j = (T.length - 1 - j) + 1 := by simp; omega
    rw [e]
    simp
theorem df_tr_1 (r : Nat) (tr : Nat → Int32) : df_tr [r] (upd tr 0 (nI r)) := by
  intro j hj
  have : j = 0 := by simp at hj; omega
  subst this
  rw [pk_us]
  simp
