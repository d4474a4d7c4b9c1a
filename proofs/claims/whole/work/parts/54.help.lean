theorem bs_off {x : Int64} {v : Nat} (hv : v < 64) (h : bs_t x v = true) : x &&& (bs_b v ^^^ (-1)) = x ^^^ bs_b v := by
  apply bs_ext; intro i hi
  rw [bs_and, bs_not _ hi, bs_xor, bs_bit hv]
  by_cases e : v = i
  · subst e; rw [h]; simp
  · simp [e]
theorem bs_on {x : Int64} {v : Nat} (hv : v < 64) (h : bs_t x v = false) : x ||| bs_b v = x ^^^ bs_b v := by
  apply bs_ext; intro i hi
  rw [bs_or, bs_xor, bs_bit hv]
  by_cases e : v = i
  · subst e; rw [h]; simp
  · simp [e]
theorem tw_out {v : Int32} (h0 : ¬ v = nI 0) (h1 : ¬ v = nI 1) (h2 : ¬ v = nI 2) (h3 : ¬ v = nI 3) (h4 : ¬ v = nI 4) (h5 : ¬ v = nI 5) : v.toInt < 0 ∨ 5 < v.toInt := by
  rcases pk_ix v (n := 6) (by omega) with q | q | ⟨k, q1, q2⟩
  · left; have := Int32.lt_iff_toInt_lt.mp q; simpa using this
  · right
    have := Int32.le_iff_toInt_le.mp q
    rw [nI_toInt (by omega)] at this
    omega
  · exfalso
    rcases k with _ | _ | _ | _ | _ | _ | k
    · exact h0 q2
    · exact h1 q2
    · exact h2 q2
    · exact h3 q2
    · exact h4 q2
    · exact h5 q2
    · omega
theorem sm_s (f : Nat → Nat) (k : Nat) : sm_n f k + f k = sm_n f (k + 1) := rfl
theorem md_Q_of {n : Nat} {L : Nat → Int64} {r : Nat} {cur rest : Int64} (h : md_Q n L r cur rest n) : (∀ i, bs_t cur i = true → gf_R (gf_E n L) r i) ∧ (∀ x, sp_Cy n L r x → bs_t cur x = true) ∧ (cur = rest → md_Q n L r cur cur n) := ⟨fun i hi => h.2.1 i (h.1 i hi), h.2.2.1, fun e => by rw [← e] at h; exact h⟩
theorem md_led {n : Nat} {L : Nat → Int64} {r v : Nat} {cur : Int64} {led : Bool} (h : led = true ↔ ∃ y, y < n ∧ bs_t cur y = true ∧ bs_t (L y) v = true ∧ ¬ sp_Bk n L r y v) : (led = true) ↔ ∃ u, u < n ∧ bs_t cur u = true ∧ bs_t (L u) v = true ∧ ¬ sp_Bk n L r u v := h
