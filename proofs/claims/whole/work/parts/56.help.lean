theorem bg_in {v : Int32} (h1 : ¬ v < nI 1) (h2 : v ≤ nI 48) : ∃ m, 1 ≤ m ∧ m ≤ 48 ∧ v = nI m := by
  rcases pk_ix v (n := 49) (by omega) with q | q | ⟨k, q1, q2⟩
  · exfalso; exact h1 (Int32.lt_of_lt_of_le q (by decide))
  · exfalso
    have a := Int32.le_iff_toInt_le.mp q
    have b := Int32.le_iff_toInt_le.mp h2
    rw [nI_toInt (by omega)] at a b
    omega
  · subst q2
    refine ⟨k, ?_, by omega, rfl⟩
    rcases Nat.eq_zero_or_pos k with e | e
    · subst e; exact absurd (by decide) h1
    · exact e
theorem bg_no1 {v : Int32} (h : v < nI 1) : ¬ ∃ m, 1 ≤ m ∧ m ≤ 48 ∧ v = nI m := fun ⟨m, q1, q2, q3⟩ => by rw [q3, nI_ltI (by omega) (by omega)] at h; omega
theorem bg_no2 {v : Int32} (h : ¬ v ≤ nI 48) : ¬ ∃ m, 1 ≤ m ∧ m ≤ 48 ∧ v = nI m := fun ⟨m, q1, q2, q3⟩ => h (by rw [q3, nI_leI (by omega) (by omega)]; omega)
/-- what is told -/
def sp_told (n r x : Nat) (L : Nat → Int64) (ey ex what a : Int32) : Prop :=
  (what = nI 0 → a = nI n) ∧ (what = nI 1 → a = nI (sp_lc n L)) ∧ (what = nI 2 → a = nI (ct_n (fun i => gf_d (gf_R (gf_E n L) r i)) n)) ∧ (what = nI 3 → a = nI (ct_n (fun i => gf_d (gf_R (gf_E n (gf_T n L)) x i)) n)) ∧ (what = nI 4 → a = ey) ∧ (what = nI 5 → a = ex) ∧ (¬ what = nI 0 → ¬ what = nI 1 → ¬ what = nI 2 → ¬ what = nI 3 → ¬ what = nI 4 → ¬ what = nI 5 → a = -1)
theorem tl_0 {n r x : Nat} {L : Nat → Int64} {ey ex a : Int32} (h : a = nI n) : sp_told n r x L ey ex (nI 0) a := ⟨fun _ => h, fun e => absurd e (by decide), fun e => absurd e (by decide), fun e => absurd e (by decide), fun e => absurd e (by decide), fun e => absurd e (by decide), fun e => absurd rfl e⟩
theorem tl_1 {n r x : Nat} {L : Nat → Int64} {ey ex a : Int32} (h : a = nI (sp_lc n L)) : sp_told n r x L ey ex (nI 1) a := ⟨fun e => absurd e (by decide), fun _ => h, fun e => absurd e (by decide), fun e => absurd e (by decide), fun e => absurd e (by decide), fun e => absurd e (by decide), fun _ e => absurd rfl e⟩
theorem tl_2 {n r x : Nat} {L : Nat → Int64} {ey ex a : Int32} (h : a = nI (ct_n (fun i => gf_d (gf_R (gf_E n L) r i)) n)) : sp_told n r x L ey ex (nI 2) a := ⟨fun e => absurd e (by decide), fun e => absurd e (by decide), fun _ => h, fun e => absurd e (by decide), fun e => absurd e (by decide), fun e => absurd e (by decide), fun _ _ e => absurd rfl e⟩
theorem tl_3 {n r x : Nat} {L : Nat → Int64} {ey ex a : Int32} (h : a = nI (ct_n (fun i => gf_d (gf_R (gf_E n (gf_T n L)) x i)) n)) : sp_told n r x L ey ex (nI 3) a := ⟨fun e => absurd e (by decide), fun e => absurd e (by decide), fun e => absurd e (by decide), fun _ => h, fun e => absurd e (by decide), fun e => absurd e (by decide), fun _ _ _ e => absurd rfl e⟩
theorem tl_4 {n r x : Nat} {L : Nat → Int64} {ey ex a : Int32} (h : a = ey) : sp_told n r x L ey ex (nI 4) a := ⟨fun e => absurd e (by decide), fun e => absurd e (by decide), fun e => absurd e (by decide), fun e => absurd e (by decide), fun _ => h, fun e => absurd e (by decide), fun _ _ _ _ e => absurd rfl e⟩
theorem tl_5 {n r x : Nat} {L : Nat → Int64} {ey ex a : Int32} (h : a = ex) : sp_told n r x L ey ex (nI 5) a := ⟨fun e => absurd e (by decide), fun e => absurd e (by decide), fun e => absurd e (by decide), fun e => absurd e (by decide), fun e => absurd e (by decide), fun _ => h, fun _ _ _ _ _ e => absurd rfl e⟩
theorem tl_d {n r x : Nat} {L : Nat → Int64} {ey ex what a : Int32} (h0 : ¬ what = nI 0) (h1 : ¬ what = nI 1) (h2 : ¬ what = nI 2) (h3 : ¬ what = nI 3) (h4 : ¬ what = nI 4) (h5 : ¬ what = nI 5) (h : a = -1) : sp_told n r x L ey ex what a := ⟨fun e => absurd e h0, fun e => absurd e h1, fun e => absurd e h2, fun e => absurd e h3, fun e => absurd e h4, fun e => absurd e h5, fun _ _ _ _ _ _ => h⟩
theorem md_lc {n : Nat} (hn : n ≤ 64) {L : Nat → Int64} (hL : ∀ u v, gf_E n L u v → v < n) : sm_n (fun v => ct_n (bs_t (L v)) n) n = sp_lc n L := sm_congr (fun v hv => bs_c_n hn (fun i hi => hL v i ⟨hv, hi⟩))
