/-! going over: an abstract run that the class's and the reference's both follow -/
/-- the least i below n with p i; n when there is none -/
def df_ls (p : Nat → Bool) : Nat → Nat
  | 0 => 0
  | n + 1 => if df_ls p n < n then df_ls p n else if p n = true then n else n + 1
theorem df_ls_le (p : Nat → Bool) (n : Nat) : df_ls p n ≤ n := by
  induction n with
  | zero => exact Nat.le_refl _
  | succ n ih =>
    unfold df_ls
    split
    · omega
    · split <;> omega
theorem df_ls_lt {p : Nat → Bool} {n i : Nat} (hi : i < df_ls p n) : p i = false := by
  induction n with
  | zero => unfold df_ls at hi; omega
  | succ n ih =>
    unfold df_ls at hi
    split at hi
    · exact ih hi
    · next h =>
      have hle := df_ls_le p n
      have hn : df_ls p n = n := by omega
      split at hi
      · exact ih (by omega)
      · next h2 =>
        by_cases e : i = n
        · subst e
          cases e2 : p i with
          | false => rfl
          | true => exact absurd e2 h2
        · exact ih (by omega)
theorem df_ls_in {p : Nat → Bool} {n : Nat} (h : df_ls p n < n) : p (df_ls p n) = true := by
  induction n with
  | zero => omega
  | succ n ih =>
    unfold df_ls at h ⊢
    split
    · next h1 => exact ih h1
    · next h1 =>
      rw [if_neg h1] at h
      split
      · next h2 => exact h2
      · next h2 => rw [if_neg h2] at h; omega
theorem df_ls_eq {p : Nat → Bool} {n k : Nat} (hk : k ≤ n) (h1 : ∀ i, i < k → p i = false) (h2 : k < n → p k = true) : df_ls p n = k := by
  have a := df_ls_le p n
  rcases Nat.lt_trichotomy (df_ls p n) k with h | h | h
  · have := df_ls_in (p := p) (n := n) (by omega)
    rw [h1 _ h] at this
    cases this
  · exact h
  · have := df_ls_lt h
    rw [h2 (by omega)] at this
    cases this
theorem df_ls_congr {p q : Nat → Bool} {n : Nat} (h : ∀ i, i < n → p i = q i) : df_ls p n = df_ls q n := by
  refine df_ls_eq (df_ls_le q n) (fun i hi => ?_) (fun hk => ?_)
  · have := df_ls_le q n
    rw [h i (by omega)]
    exact df_ls_lt hi
  · rw [h _ hk]
    exact df_ls_in hk
def gf_E (n : Nat) (L : Nat → Int64) (u v : Nat) : Prop := u < n ∧ bs_t (L u) v = true
/-- the links that do not go back -/
def gf_B (n : Nat) (L : Nat → Int64) (r u w : Nat) : Prop := gf_E n L u w ∧ gf_R (gf_E n L) r u ∧ ¬ dm_D (gf_E n L) r w u
/-- trail (the last one first), entered, left, by left, how many entered, how many left -/
abbrev df_S : Type := List Nat × (Nat → Int32) × (Nat → Int32) × (Nat → Int32) × Nat × Nat
def df_nx (n : Nat) (L : Nat → Int64) (en : Nat → Int32) (t : Nat) : Nat := df_ls (fun w => bs_t (L t) w && decide (en w < 0)) n
def df_st (n : Nat) (L : Nat → Int64) (s : df_S) : df_S := match s with
  | ([], en, lf, bl, a, g) => ([], en, lf, bl, a, g)
  | (t :: tr, en, lf, bl, a, g) =>
    if df_nx n L en t < n then (df_nx n L en t :: t :: tr, upd en (df_nx n L en t) (nI a), lf, bl, a + 1, g)
    else (tr, en, upd lf t (nI g), upd bl g (nI t), a, g + 1)
def df_it (n : Nat) (L : Nat → Int64) (s : df_S) : Nat → df_S
  | 0 => s
  | k + 1 => df_st n L (df_it n L s k)
def df_0 (r : Nat) (bl : Nat → Int32) : df_S := ([r], upd (fun _ => -1) r 0, fun _ => -1, bl, 1, 0)
def df_ch (P : Nat → Nat → Prop) : List Nat → Prop
  | [] => True
  | x :: l => (match l with | [] => True | y :: _ => P y x) ∧ df_ch P l
theorem df_ch_in {P : Nat → Nat → Prop} : ∀ (l : List Nat) (t : Nat), df_ch P (t :: l) → ∀ w, w ∈ t :: l → gf_R P w t
  | [], t, _, w, hw => by
    rcases List.mem_cons.mp hw with e | e
    · rw [e]; exact gf_rf t
    · cases e
  | y :: l, t, h, w, hw => by
    rcases List.mem_cons.mp hw with e | e
    · rw [e]; exact gf_rf t
    · exact gf_st (df_ch_in l y h.2 w e) h.1
/-- what holds at every step -/
def df_I (n : Nat) (L : Nat → Int64) (r : Nat) (s : df_S) : Prop := match s with
  | (tr, en, lf, bl, a, g) =>
    (∀ v, v ∈ tr → v < n ∧ ¬ en v < 0 ∧ lf v < 0) ∧ tr.Nodup ∧ (∀ v, ¬ en v < 0 → v < n ∧ (v ∈ tr ∨ ¬ lf v < 0)) ∧
    (∀ v, ¬ lf v < 0 → ¬ en v < 0 ∧ ∃ i, i < g ∧ lf v = nI i ∧ bl i = nI v) ∧ (∀ i, i < g → ∃ v, v < n ∧ bl i = nI v ∧ lf v = nI i) ∧
    a = ct_n (fun v => !decide (en v < 0)) n ∧ g + tr.length = a ∧ ¬ en r < 0 ∧
    (∀ v, ¬ en v < 0 → gf_R (fun x y => gf_E n L x y ∧ ¬ en y < 0) r v) ∧ df_ch (gf_B n L r) tr ∧
    (∀ u, ¬ lf u < 0 → ∀ w, gf_E n L u w → ¬ en w < 0 ∧ ((¬ lf w < 0 ∧ lf w < lf u) ∨ gf_R (gf_B n L r) w u))
theorem df_m1 : ¬ (0 : Int32) ≤ -1 := by decide
theorem df_m1' : (-1 : Int32) < 0 := by decide
theorem df_I0 {n r : Nat} (L : Nat → Int64) (bl : Nat → Int32) (hr : r < n) : df_I n L r (df_0 r bl) := by
  have e1 : ∀ v, ¬ upd (fun _ => (-1 : Int32)) r 0 v < 0 → v = r := by
    intro v hv
    apply Classical.byContradiction
    intro h
    exact hv (by rw [pk_un h]; decide)
  have e2 : ¬ upd (fun _ => (-1 : Int32)) r 0 r < 0 := by rw [pk_us]; decide
  refine ⟨fun v hv => ?_, ?_, fun v hv => ?_, fun v hv => absurd df_m1' hv, fun i hi => absurd hi (Nat.not_lt_zero i), ?_, rfl, e2, fun v hv => ?_, ⟨trivial, trivial⟩, fun u hu => absurd df_m1' hu⟩
  · have e : v = r := by simpa using hv
    rw [e]
    exact ⟨hr, e2, df_m1'⟩
  · simp
  · have e := e1 v hv
    rw [e]
    exact ⟨hr, Or.inl (by simp)⟩
  · have h1 := ct_set (p := fun _ => false) (q := fun v => !decide (upd (fun _ => (-1 : Int32)) r 0 v < 0)) (n := n) hr rfl (by simp [e2]) (fun i _ hi => by
      rw [pk_un hi]; decide)
    rw [h1, ct_zero (fun _ _ => rfl)]
  · rw [e1 v hv]
    exact gf_rf r
theorem df_tree {n r t w : Nat} {L : Nat → Int64} {en : Nat → Int32} (ht : ¬ en t < 0) (hw : en w < 0) (hr : ¬ en r < 0) (hR : gf_R (fun x y => gf_E n L x y ∧ ¬ en y < 0) r t) (he : gf_E n L t w) : gf_B n L r t w := by
  refine ⟨he, gf_mono (fun _ _ h => h.1) hR, fun h => ?_⟩
  rcases h.2.2 with e | e
  · exact ht (by rw [← e]; exact hw)
  · exact e ⟨fun z => hr (by rw [z]; exact hw), gf_mono (fun x y h => ⟨h.1, fun z => h.2 (by rw [z]; exact hw)⟩) hR⟩
theorem df_Ist {n r : Nat} {L : Nat → Int64} (hn : n ≤ 64) (hL : ∀ u v, gf_E n L u v → v < n) (s : df_S) (h : df_I n L r s) : df_I n L r (df_st n L s) := by
  obtain ⟨tr, en, lf, bl, a, g⟩ := s
  cases tr with
  | nil => exact h
  | cons t tr =>
    obtain ⟨h1, h2, h3, h4, h5, h6, h7, h8, h9, h10, h11⟩ := h
    have ht := h1 t (by simp)
    have hlen : g + (tr.length + 1) = a := h7
    have han : a ≤ n := by rw [h6]; exact ct_le _ _
    have ha31 : a < 2 ^ 31 := by omega
    have hg31 : g < 2 ^ 31 := by omega
    unfold df_st
    simp only
    split
    · next hw =>
      have hp := df_ls_in hw
      have hp2 : bs_t (L t) (df_nx n L en t) = true ∧ en (df_nx n L en t) < 0 := by
        have : (bs_t (L t) (df_nx n L en t) && decide (en (df_nx n L en t) < 0)) = true := hp
        simpa using this
      generalize df_nx n L en t = w at hw hp2 ⊢
      obtain ⟨hb, hwe⟩ := hp2
      have he : gf_E n L t w := ⟨ht.1, hb⟩
      have hB := df_tree ht.2.1 hwe h8 (h9 t ht.2.1) he
      have hwt : ∀ v, ¬ en v < 0 → v ≠ w := fun v hv z => hv (by rw [z]; exact hwe)
      have hwl : lf w < 0 := by
        apply Classical.byContradiction
        intro q
        exact (h4 w q).1 hwe
      have new : ¬ upd en w (nI a) w < 0 := by rw [pk_us]; exact nI_pos ha31
      have old : ∀ v, ¬ en v < 0 → ¬ upd en w (nI a) v < 0 := fun v hv => by rw [pk_un (hwt v hv)]; exact hv
      have back : ∀ v, ¬ upd en w (nI a) v < 0 → v = w ∨ ¬ en v < 0 := fun v hv => by
        by_cases e : v = w
        · exact Or.inl e
        · rw [pk_un e] at hv; exact Or.inr hv
      have hwtr : w ∉ t :: tr := fun q => (h1 w q).2.1 hwe
      refine ⟨fun v hv => ?_, List.nodup_cons.mpr ⟨hwtr, h2⟩, fun v hv => ?_, fun v hv => ⟨old v (h4 v hv).1, (h4 v hv).2⟩, h5, ?_, ?_, old r h8, fun v hv => ?_, ⟨hB, h10⟩, fun u hu x hx => ?_⟩
      · rcases List.mem_cons.mp hv with e | e
        · rw [e]; exact ⟨hw, new, hwl⟩
        · exact ⟨(h1 v e).1, old v (h1 v e).2.1, (h1 v e).2.2⟩
      · rcases back v hv with e | e
        · rw [e]; exact ⟨hw, Or.inl (by simp)⟩
        · rcases (h3 v e).2 with q | q
          · exact ⟨(h3 v e).1, Or.inl (List.mem_cons_of_mem _ q)⟩
          · exact ⟨(h3 v e).1, Or.inr q⟩
      · have := ct_set (p := fun v => !decide (en v < 0)) (q := fun v => !decide (upd en w (nI a) v < 0)) (n := n) hw (by simp [hwe]) (by simp [new]) (fun i _ hi => by rw [pk_un hi])
        rw [this, ← h6]
      · show g + (tr.length + 1 + 1) = a + 1
        omega
      · have mono : ∀ z, gf_R (fun x y => gf_E n L x y ∧ ¬ en y < 0) r z → gf_R (fun x y => gf_E n L x y ∧ ¬ upd en w (nI a) y < 0) r z := fun z hz => gf_mono (fun x y q => ⟨q.1, old y q.2⟩) hz
        rcases back v hv with e | e
        · rw [e]; exact gf_st (mono t (h9 t ht.2.1)) ⟨he, new⟩
        · exact mono v (h9 v e)
      · obtain ⟨q1, q2⟩ := h11 u hu x hx
        exact ⟨old x q1, q2⟩
    · next hw =>
      have hfull : ∀ w, gf_E n L t w → ¬ en w < 0 := by
        intro w he q
        have hwn := hL t w he
        have := df_ls_lt (p := fun w => bs_t (L t) w && decide (en w < 0)) (n := n) (i := w) (by have := df_ls_le (fun w => bs_t (L t) w && decide (en w < 0)) n; unfold df_nx at hw; omega)
        simp [he.2, q] at this
      have htr : t ∉ tr := (List.nodup_cons.mp h2).1
      have new : ¬ upd lf t (nI g) t < 0 := by rw [pk_us]; exact nI_pos hg31
      have old : ∀ v, v ≠ t → upd lf t (nI g) v = lf v := fun v hv => pk_un hv
      have lt : ∀ v, ¬ lf v < 0 → v ≠ t := fun v hv z => hv (by rw [z]; exact ht.2.2)
      have blo : ∀ i, i < g → upd bl g (nI t) i = bl i := fun i hi => pk_un (by omega)
      refine ⟨fun v hv => ?_, (List.nodup_cons.mp h2).2, fun v hv => ?_, fun v hv => ?_, fun i hi => ?_, h6, by show g + 1 + tr.length = a; omega, h8, h9, ?_, fun u hu x hx => ?_⟩
      · have q := h1 v (List.mem_cons_of_mem _ hv)
        have e : v ≠ t := fun z => htr (by rw [← z]; exact hv)
        exact ⟨q.1, q.2.1, by rw [old v e]; exact q.2.2⟩
      · refine ⟨(h3 v hv).1, ?_⟩
        by_cases e : v = t
        · right; rw [e]; exact new
        · rcases (h3 v hv).2 with q | q
          · rcases List.mem_cons.mp q with z | z
            · exact absurd z e
            · exact Or.inl z
          · right; rw [old v e]; exact q
      · by_cases e : v = t
        · rw [e]
          exact ⟨ht.2.1, g, by omega, pk_us, pk_us⟩
        · rw [old v e] at hv ⊢
          obtain ⟨q1, i, q2, q3, q4⟩ := h4 v hv
          exact ⟨q1, i, by omega, q3, by rw [blo i q2]; exact q4⟩
      · by_cases e : i = g
        · rw [e]; exact ⟨t, ht.1, pk_us, pk_us⟩
        · obtain ⟨v, q1, q2, q3⟩ := h5 i (by omega)
          have e2 : v ≠ t := lt v (by rw [q3]; exact nI_pos (by omega))
          exact ⟨v, q1, by rw [blo i (by omega)]; exact q2, by rw [old v e2]; exact q3⟩
      · exact h10.2
      · by_cases e : u = t
        · rw [e] at hx ⊢
          have hxe := hfull x hx
          refine ⟨hxe, ?_⟩
          by_cases ex : x = t
          · right; rw [ex]; exact gf_rf t
          · rcases (h3 x hxe).2 with q | q
            · right
              exact df_ch_in tr t h10 x q
            · left
              rw [old x ex, pk_us]
              obtain ⟨-, i, q2, q3, -⟩ := h4 x q
              exact ⟨q, by rw [q3]; exact nI_lt q2 hg31⟩
        · rw [old u e] at hu ⊢
          obtain ⟨q1, q2⟩ := h11 u hu x hx
          refine ⟨q1, ?_⟩
          rcases q2 with ⟨q3, q4⟩ | q3
          · left
            rw [old x (lt x q3)]
            exact ⟨q3, q4⟩
          · exact Or.inr q3
theorem df_Iit {n r : Nat} {L : Nat → Int64} (hn : n ≤ 64) (hL : ∀ u v, gf_E n L u v → v < n) (hr : r < n) (bl : Nat → Int32) : ∀ k, df_I n L r (df_it n L (df_0 r bl) k)
  | 0 => df_I0 L bl hr
  | k + 1 => df_Ist hn hL _ (df_Iit hn hL hr bl k)
theorem df_stay {n : Nat} {L : Nat → Int64} {s : df_S} {k : Nat} (h : (df_it n L s k).1 = []) : ∀ d, df_it n L s (k + d) = df_it n L s k
  | 0 => rfl
  | d + 1 => by
    show df_st n L (df_it n L s (k + d)) = _
    rw [df_stay h d]
    generalize df_it n L s k = z at h
    obtain ⟨tr, en, lf, bl, a, g⟩ := z
    have e : tr = [] := h
    subst e
    rfl
theorem df_cnt {n r : Nat} {L : Nat → Int64} (bl : Nat → Int32) (k : Nat) : (df_it n L (df_0 r bl) k).1 = [] ∨ (df_it n L (df_0 r bl) k).2.2.2.2.1 + (df_it n L (df_0 r bl) k).2.2.2.2.2 = k + 1 := by
  induction k with
  | zero => exact Or.inr rfl
  | succ k ih =>
    show (df_st n L (df_it n L (df_0 r bl) k)).1 = [] ∨ (df_st n L (df_it n L (df_0 r bl) k)).2.2.2.2.1 + (df_st n L (df_it n L (df_0 r bl) k)).2.2.2.2.2 = _
    generalize df_it n L (df_0 r bl) k = z at ih
    obtain ⟨tr, en, lf, bl, a, g⟩ := z
    cases tr with
    | nil => exact Or.inl rfl
    | cons t tr =>
      right
      rcases ih with h | h
      · cases h
      · have h : a + g = k + 1 := h
        unfold df_st
        simp only
        split
        · show a + 1 + g = _; omega
        · show a + (g + 1) = _; omega
/-- it ends: after 2 n steps nothing is open -/
theorem df_end {n r : Nat} {L : Nat → Int64} (hn : n ≤ 64) (hL : ∀ u v, gf_E n L u v → v < n) (hr : r < n) (bl : Nat → Int32) : (df_it n L (df_0 r bl) (2 * n)).1 = [] := by
  rcases df_cnt (n := n) (r := r) (L := L) bl (2 * n) with h | h
  · exact h
  · exfalso
    have hI := df_Iit hn hL hr bl (2 * n)
    generalize df_it n L (df_0 r bl) (2 * n) = z at h hI
    obtain ⟨tr, en, lf, bl, a, g⟩ := z
    obtain ⟨-, -, -, -, -, h6, h7, -⟩ := hI
    have h : a + g = 2 * n + 1 := h
    have := ct_le (fun v => !decide (en v < 0)) n
    omega
/-- what the whole run gives: entered, left, by left, how many -/
def df_F (n : Nat) (L : Nat → Int64) (r : Nat) (bl : Nat → Int32) : df_S := df_it n L (df_0 r bl) (2 * n)
theorem df_met {n r : Nat} {L : Nat → Int64} (hn : n ≤ 64) (hL : ∀ u v, gf_E n L u v → v < n) (hr : r < n) (bl : Nat → Int32) (v : Nat) : ¬ (df_F n L r bl).2.1 v < 0 ↔ gf_R (gf_E n L) r v := by
  have hI := df_Iit hn hL hr bl (2 * n)
  have he := df_end hn hL hr bl
  unfold df_F
  generalize df_it n L (df_0 r bl) (2 * n) = z at hI he
  obtain ⟨tr, en, lf, bl, a, g⟩ := z
  have he : tr = [] := he
  subst he
  obtain ⟨h1, h2, h3, h4, h5, h6, h7, h8, h9, h10, h11⟩ := hI
  show ¬ en v < 0 ↔ _
  constructor
  · intro h
    exact gf_mono (fun _ _ q => q.1) (h9 v h)
  · intro h
    exact h (fun x => ¬ en x < 0) h8 (fun x y hx e => by
      rcases (h3 x hx).2 with q | q
      · cases q
      · exact (h11 x q y e).1)
