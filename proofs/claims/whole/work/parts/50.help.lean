/-! the answers, for both ends: cv turns the links round and goes to the exit -/
noncomputable def gg_L (cv : Bool) (n : Nat) (L : Nat → Int64) : Nat → Int64 := if cv = true then gf_T n L else L
def gg_r (cv : Bool) (r x : Nat) : Nat := if cv = true then x else r
theorem gg_L0 (n : Nat) (L : Nat → Int64) : gg_L false n L = L := rfl
theorem gg_L1 (n : Nat) (L : Nat → Int64) : gg_L true n L = gf_T n L := rfl
theorem gg_r0 (r x : Nat) : gg_r false r x = r := rfl
theorem gg_r1 (r x : Nat) : gg_r true r x = x := rfl
theorem vn_bool {n : Nat} {v r : Int32} (h : ((∃ k, k < n ∧ v = nI k) ∧ r = nI 1) ∨ ((¬ ∃ k, k < n ∧ v = nI k) ∧ r = nI 0)) : ∃ b : Bool, r = bs_i b ∧ (b = true ↔ ∃ k, k < n ∧ v = nI k) := by
  rcases h with ⟨h1, h2⟩ | ⟨h1, h2⟩
  · exact ⟨true, h2, ⟨fun _ => h1, fun _ => rfl⟩⟩
  · exact ⟨false, h2, ⟨fun q => (by cases q), fun q => absurd q h1⟩⟩
theorem md_dmv {n r x : Nat} (hn : n ≤ 48) (hr : r < n) (hx : x < n) {li : Nat → Int64} {rc eg : Int64} {so wi ew lo : Nat → Int64} {en le : Nat → Int32} (h : md_G n r x li rc eg so wi ew lo en le) (cv : Bool) {u v : Nat} (hu : u < n) :
    md_dm (if cv = true then eg else rc) (if cv = true then ew else wi) u v = gf_d (dm_D (gf_E n (gg_L cv n li)) (gg_r cv r x) u v) := by
  cases cv
  · exact md_dm_eq (by omega) hr h.2.1 h.2.2.2.1 hu
  · exact md_dm_eq (by omega) hx h.2.2.1 h.2.2.2.2.1 hu
theorem md_rk {n r x : Nat} (hn : n ≤ 48) (hr : r < n) (hx : x < n) {li : Nat → Int64} {rc eg : Int64} {so wi ew lo : Nat → Int64} {en le : Nat → Int32} (h : md_G n r x li rc eg so wi ew lo en le) (cv : Bool) (v : Nat) :
    ct_n (fun u => md_dm (if cv = true then eg else rc) (if cv = true then ew else wi) u v) n = sp_rk n (gg_L cv n li) (gg_r cv r x) v := ct_congr (fun u hu => md_dmv hn hr hx h cv hu)
theorem md_rch {n r x : Nat} {li : Nat → Int64} {rc eg : Int64} {so wi ew lo : Nat → Int64} {en le : Nat → Int32} (h : md_G n r x li rc eg so wi ew lo en le) (cv : Bool) (v : Nat) :
    bs_t (if cv = true then eg else rc) v = gf_d (gf_R (gf_E n (gg_L cv n li)) (gg_r cv r x) v) := by
  cases cv
  · rw [Bool.eq_iff_iff, gf_di]; exact h.2.1 v
  · rw [Bool.eq_iff_iff, gf_di]; exact h.2.2.1 v
