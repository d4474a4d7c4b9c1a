/-! small rows for the reference's going over -/
theorem md_nx {n : Nat} {L : Nat → Int64} {E en : Nat → Int32} {t w : Nat} (hE : ∀ v, v < n → E v = en v) (hw : w ≤ n) (h1 : ∀ x, x < w → ¬ (bs_t (L t) x = true ∧ E x < 0)) (h2 : w < n → bs_t (L t) w = true ∧ E w < 0) : df_nx n L en t = w := by
  refine df_ls_eq hw (fun i hi => ?_) (fun hk => ?_)
  · have q := h1 i hi
    rw [hE i (by omega)] at q
    cases e : bs_t (L t) i with
    | false => rfl
    | true => simp only [Bool.true_and, decide_eq_false_iff_not]; exact fun z => q ⟨e, z⟩
  · have q := h2 hk
    rw [hE w hk] at q
    rw [q.1, Bool.true_and]
    exact decide_eq_true q.2
theorem md_ug {E en : Nat → Int32} {n w : Nat} {x : Int32} (h : ∀ v, v < n → E v = en v) : ∀ v, v < n → upd E w x v = upd en w x v := fun v hv => by
  unfold upd
  by_cases e : v = w
  · rw [if_pos e, if_pos e]
  · rw [if_neg e, if_neg e, h v hv]
theorem md_u0 {en : Nat → Int32} {n r : Nat} : ∀ v, v < n → upd (fi_c en (-1) n) r (nI 0) v = upd (fun _ => (-1 : Int32)) r 0 v := fun v hv => by
  unfold upd
  by_cases e : v = r
  · rw [if_pos e, if_pos e]; rfl
  · rw [if_neg e, if_neg e]; exact fi_e en (-1) v hv
/-- the abstract run's orders do not depend on what 'by left' held before -/
theorem df_F_bl {n : Nat} {L : Nat → Int64} {r : Nat} (b c : Nat → Int32) : (df_F n L r b).2.1 = (df_F n L r c).2.1 ∧ (df_F n L r b).2.2.1 = (df_F n L r c).2.2.1 := by
  have key : ∀ k, ∃ tl en lf b1 c1 a g, df_it n L (df_0 r b) k = (tl, en, lf, b1, a, g) ∧ df_it n L (df_0 r c) k = (tl, en, lf, c1, a, g) := by
    intro k
    induction k with
    | zero => exact ⟨_, _, _, _, _, _, _, rfl, rfl⟩
    | succ k ih =>
      obtain ⟨tl, en, lf, b1, c1, a, g, h1, h2⟩ := ih
      rw [df_it_s, df_it_s, h1, h2]
      cases tl with
      | nil => exact ⟨_, _, _, _, _, _, _, rfl, rfl⟩
      | cons t tl =>
        by_cases h : df_nx n L en t < n
        · rw [df_st_in h rfl, df_st_in h rfl]; exact ⟨_, _, _, _, _, _, _, rfl, rfl⟩
        · rw [df_st_out h, df_st_out h]; exact ⟨_, _, _, _, _, _, _, rfl, rfl⟩
  obtain ⟨tl, en, lf, b1, c1, a, g, h1, h2⟩ := key (2 * n)
  unfold df_F
  rw [h1, h2]
  exact ⟨rfl, rfl⟩
