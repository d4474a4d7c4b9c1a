/-! small rows for the going over -/
theorem df_st_in {n : Nat} {L : Nat → Int64} {en lf bl : Nat → Int32} {t : Nat} {tl : List Nat} {a g w : Nat} (hw : w < n) (he : w = df_nx n L en t) : df_st n L (t :: tl, en, lf, bl, a, g) = (w :: t :: tl, upd en w (nI a), lf, bl, a + 1, g) := by
  subst he
  exact if_pos hw
theorem df_st_out {n : Nat} {L : Nat → Int64} {en lf bl : Nat → Int32} {t : Nat} {tl : List Nat} {a g : Nat} (h : ¬ df_nx n L en t < n) : df_st n L (t :: tl, en, lf, bl, a, g) = (tl, en, upd lf t (nI g), upd bl g (nI t), a, g + 1) := if_neg h
theorem df_it_s (n : Nat) (L : Nat → Int64) (s : df_S) (k : Nat) : df_it n L s (k + 1) = df_st n L (df_it n L s k) := rfl
theorem df_fin {n r : Nat} {L : Nat → Int64} {bl : Nat → Int32} {k : Nat} (hk : k ≤ 2 * n) (h : 2 * n ≤ k ∨ (df_it n L (df_0 r bl) k).1 = []) : df_F n L r bl = df_it n L (df_0 r bl) k := by
  unfold df_F
  rcases h with h | h
  · rw [show k = 2 * n by omega]
  · rw [show 2 * n = k + (2 * n - k) by omega]
    exact df_stay h _
theorem df_cons {l : List Nat} (h : 0 < l.length) : ∃ t tl, l = t :: tl := by
  cases l with
  | nil => exact absurd h (Nat.lt_irrefl 0)
  | cons t tl => exact ⟨t, tl, rfl⟩
theorem df_nil {l : List Nat} (h : l.length = 0) : l = [] := List.length_eq_zero_iff.mp h
