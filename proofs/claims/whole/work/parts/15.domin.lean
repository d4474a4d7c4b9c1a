/-! the class's way to the dominators: all above all, and what a link shows not to be is taken away -/
def dm_pw (n : Nat) (row : Int64) (u : Nat) (ab : Nat → Int64) (w : Nat) : Nat → Int64 := fun x => if x < w ∧ x < n ∧ bs_t row x = true then ab x &&& (ab u ||| bs_b x) else ab x
def dm_pu (n : Nat) (row : Int64) (u : Nat) (ab : Nat → Int64) : Nat → Int64 := dm_pw n row u ab n
theorem dm_abs (x y : Int64) : x &&& (x ||| y) = x := by
  apply bs_ext; intro i _; rw [bs_and, bs_or]; cases bs_t x i <;> cases bs_t y i <;> rfl
theorem dm_pw_0 (n : Nat) (row : Int64) (u : Nat) (ab : Nat → Int64) : dm_pw n row u ab (bs_fo row 0) = ab := by
  funext x
  unfold dm_pw
  split
  · next h => rw [bs_fo_no (Nat.zero_le _) h.1] at h; exact absurd h.2.2 (by decide)
  · rfl
theorem dm_pw_u (n : Nat) (row : Int64) (u : Nat) (ab : Nat → Int64) (w : Nat) : dm_pw n row u ab w u = ab u := by
  unfold dm_pw
  split
  · exact dm_abs _ _
  · rfl
theorem dm_pw_w (n : Nat) (row : Int64) (u : Nat) (ab : Nat → Int64) (w : Nat) : dm_pw n row u ab w w = ab w := by
  unfold dm_pw
  rw [if_neg (fun h => absurd h.1 (Nat.lt_irrefl w))]
/-- one link more -/
theorem dm_pw_s {n : Nat} {row : Int64} {u : Nat} {ab : Nat → Int64} {w : Nat} (hw : w < n) (hb : bs_t row w = true) : dm_pw n row u ab (bs_fo row (w + 1)) = vp_updL (dm_pw n row u ab w) w (ab w &&& (ab u ||| bs_b w)) := by
  have hw64 := bs_lt hb
  have hge : w + 1 ≤ bs_fo row (w + 1) := bs_fo_ge (by omega)
  funext x
  by_cases e : x = w
  · subst e
    rw [pk_uLs]
    unfold dm_pw
    rw [if_pos ⟨by omega, hw, hb⟩]
  · rw [pk_uLn e]
    unfold dm_pw
    by_cases c : x < w ∧ x < n ∧ bs_t row x = true
    · rw [if_pos c, if_pos ⟨by omega, c.2⟩]
    · rw [if_neg c, if_neg]
      intro q
      by_cases g : x < w
      · exact c ⟨g, q.2⟩
      · have := bs_fo_no (x := row) (k := w + 1) (i := x) (by omega) q.1
        rw [this] at q
        exact absurd q.2.2 (by decide)
theorem dm_pw_k {n : Nat} {row : Int64} {u : Nat} {ab : Nat → Int64} {w : Nat} (hw : w < n) (hb : bs_t row w = true) (hk : ab w &&& (ab u ||| bs_b w) = ab w) : dm_pw n row u ab (bs_fo row (w + 1)) = dm_pw n row u ab w := by
  rw [dm_pw_s hw hb, hk]
  funext x
  by_cases e : x = w
  · subst e; rw [pk_uLs, dm_pw_w]
  · rw [pk_uLn e]
theorem dm_pw_n {n : Nat} {row : Int64} {u : Nat} {ab : Nat → Int64} {w : Nat} (hw : n ≤ w) : dm_pw n row u ab w = dm_pu n row u ab := by
  funext x
  unfold dm_pu dm_pw
  by_cases c : x < n ∧ bs_t row x = true
  · rw [if_pos ⟨by omega, c⟩, if_pos ⟨c.1, c⟩]
  · rw [if_neg (fun q => c q.2), if_neg (fun q => c q.2)]
theorem dm_pu_sub {n : Nat} {row : Int64} {u : Nat} {ab : Nat → Int64} {w x : Nat} (h : bs_t (dm_pu n row u ab w) x = true) : bs_t (ab w) x = true := by
  unfold dm_pu dm_pw at h
  split at h
  · rw [bs_and] at h
    cases e : bs_t (ab w) x with
    | true => rfl
    | false => rw [e] at h; cases h
  · exact h
theorem dm_pu_lk {n : Nat} {row : Int64} {u : Nat} {ab : Nat → Int64} {w x : Nat} (hw : w < n) (hn : n ≤ 64) (hb : bs_t row w = true) (h : bs_t (dm_pu n row u ab w) x = true) : bs_t (ab u) x = true ∨ x = w := by
  unfold dm_pu dm_pw at h
  rw [if_pos ⟨hw, hw, hb⟩, bs_and, bs_or, bs_bit (by omega)] at h
  have h2 : (bs_t (ab u) x || decide (w = x)) = true := (Bool.and_eq_true _ _ ▸ h).2
  rcases Bool.or_eq_true _ _ ▸ h2 with q | q
  · exact Or.inl q
  · exact Or.inr (of_decide_eq_true q).symm
/-- what holds of 'above' at every time -/
def dm_J (n : Nat) (L : Nat → Int64) (r : Nat) (ab : Nat → Int64) : Prop :=
  (∀ v x, v < n → dm_D (gf_E n L) r x v → bs_t (ab v) x = true) ∧ (∀ v x, v < n → bs_t (ab v) x = true → gf_R (gf_E n L) r x ∧ gf_R (gf_E n L) r v) ∧ (∀ x, bs_t (ab r) x = true → x = r)
theorem dm_Jpu {n : Nat} {L : Nat → Int64} {r u : Nat} {ab : Nat → Int64} (hn : n ≤ 64) (hu : u < n) (hR : gf_R (gf_E n L) r u) (h : dm_J n L r ab) : dm_J n L r (dm_pu n (L u) u ab) := by
  refine ⟨fun v x hv hd => ?_, fun v x hv hb => h.2.1 v x hv (dm_pu_sub hb), fun x hb => h.2.2 x (dm_pu_sub hb)⟩
  have h1 := h.1 v x hv hd
  unfold dm_pu dm_pw
  split
  · next c =>
    rw [bs_and, bs_or, bs_bit (by omega), h1, Bool.true_and, Bool.or_eq_true]
    rcases dm_link hd hR ⟨hu, c.2.2⟩ with q | q
    · right; exact decide_eq_true q.symm
    · left; exact h.1 u x hu q
  · exact h1
/-- one that a way of at most k links without it leads by is taken away after k rounds -/
def dm_T (n : Nat) (L : Nat → Int64) (r : Nat) (ab : Nat → Int64) (k : Nat) : Prop := ∀ v x, v < n → r ≠ x → gf_K (fun a b => gf_E n L a b ∧ b ≠ x) k r v → bs_t (ab v) x = false
/-- within a round: from ab0 to ab, the vertices of U have been gone through -/
def dm_M (n : Nat) (L : Nat → Int64) (ab0 ab : Nat → Int64) (U : Nat → Prop) : Prop :=
  (∀ v x, v < n → bs_t (ab v) x = true → bs_t (ab0 v) x = true) ∧ (∀ u w x, U u → w < n → gf_E n L u w → bs_t (ab w) x = true → bs_t (ab0 u) x = true ∨ x = w)
theorem dm_M0 (n : Nat) (L : Nat → Int64) (ab : Nat → Int64) : dm_M n L ab ab (fun _ => False) := ⟨fun _ _ _ h => h, fun _ _ _ h => h.elim⟩
theorem dm_Mpu {n : Nat} {L : Nat → Int64} {ab0 ab : Nat → Int64} {U V : Nat → Prop} {u : Nat} (hn : n ≤ 64) (hu : u < n) (h : dm_M n L ab0 ab U) (hV : ∀ z, V z → z = u ∨ U z) : dm_M n L ab0 (dm_pu n (L u) u ab) V := by
  refine ⟨fun v x hv hb => h.1 v x hv (dm_pu_sub hb), fun z w x hz hw he hb => ?_⟩
  rcases hV z hz with e | e
  · subst e
    rcases dm_pu_lk hw hn he.2 hb with q | q
    · exact Or.inl (h.1 z x hu q)
    · exact Or.inr q
  · exact h.2 z w x e hw he (dm_pu_sub hb)
theorem dm_Mk {n : Nat} {L : Nat → Int64} {ab0 ab : Nat → Int64} {U V : Nat → Prop} {u : Nat} (hn : n ≤ 64) (hu : u < n) (h : dm_M n L ab0 ab U) (he : dm_pu n (L u) u ab = ab) (hV : ∀ z, V z → z = u ∨ U z) : dm_M n L ab0 ab V := by
  have := dm_Mpu hn hu h hV
  rw [he] at this
  exact this
theorem dm_T0 {n : Nat} {L : Nat → Int64} {r : Nat} {ab : Nat → Int64} (h : dm_J n L r ab) : dm_T n L r ab 0 := by
  intro v x hv hx hk
  have hk : r = v := hk
  subst hk
  cases e : bs_t (ab r) x with
  | false => rfl
  | true => exact absurd (h.2.2 x e).symm hx
theorem dm_Ts {n : Nat} {L : Nat → Int64} {r : Nat} {ab0 ab : Nat → Int64} {k : Nat} (hr : r < n) (hL : ∀ u v, gf_E n L u v → v < n) (hT : dm_T n L r ab0 k) (hM : dm_M n L ab0 ab (fun u => u < n ∧ gf_R (gf_E n L) r u)) : dm_T n L r ab (k + 1) := by
  intro v x hv hx hk
  cases e : bs_t (ab v) x with
  | false => rfl
  | true =>
    rcases hk with hk | ⟨c, hk, hc⟩
    · rw [← hT v x hv hx hk]
      exact (hM.1 v x hv e).symm
    · have hcn := gf_K_lt hr (fun u v q => hL u v q.1) k c hk
      have hcR : gf_R (gf_E n L) r c := by
        have : ∀ j z, gf_K (fun a b => gf_E n L a b ∧ b ≠ x) j r z → gf_R (gf_E n L) r z := by
          intro j
          induction j with
          | zero => intro z hz; have hz : r = z := hz; rw [hz]; exact gf_rf z
          | succ j ih =>
            intro z hz
            rcases hz with hz | ⟨d, hd, hz⟩
            · exact ih z hz
            · exact gf_st (ih d hd) hz.1
        exact this k c hk
      rcases hM.2 c v x ⟨hcn, hcR⟩ hv hc.1 e with q | q
      · rw [hT c x hcn hx hk] at q; cases q
      · exact absurd q.symm hc.2
/-- the end: after n rounds, or when a round took nothing away -/
theorem dm_done {n : Nat} {L : Nat → Int64} {r : Nat} {ab : Nat → Int64} (hn : n ≤ 64) (hr : r < n) (hL : ∀ u v, gf_E n L u v → v < n) (hJ : dm_J n L r ab) (h : dm_T n L r ab n ∨ dm_M n L ab ab (fun u => u < n ∧ gf_R (gf_E n L) r u)) : ∀ v x, v < n → (bs_t (ab v) x = true ↔ dm_D (gf_E n L) r x v) := by
  intro v x hv
  constructor
  · intro hb
    obtain ⟨hx, hvR⟩ := hJ.2.1 v x hv hb
    rcases h with h | h
    · refine ⟨hx, hvR, ?_⟩
      by_cases e : x = v
      · exact Or.inl e
      right
      intro q
      have := h v x hv q.1 (gf_short hr (fun u v z => hL u v z.1) q.2)
      rw [this] at hb
      cases hb
    · have hlt : ∀ z, gf_R (gf_E n L) r z → z < n := fun z hz => hz (fun y => y < n) hr (fun a b _ e => hL a b e)
      exact dm_fix (E := gf_E n L) (r := r) (B := fun v x => v < n ∧ bs_t (ab v) x = true) (fun x q => hJ.2.2 x q.2) (fun u w x hu he q => by
        rcases h.2 u w x ⟨he.1, hu⟩ q.1 he q.2 with z | z
        · exact Or.inl ⟨he.1, z⟩
        · exact Or.inr z) (fun v x q => (hJ.2.1 v x q.1 q.2).1) hvR ⟨hv, hb⟩
  · intro hd
    exact hJ.1 v x hv hd
/-- the beginning -/
theorem dm_J0 {n : Nat} {L : Nat → Int64} {r : Nat} {ab : Nat → Int64} {met : Int64} (hn : n ≤ 64) (hr : r < n) (hL : ∀ u v, gf_E n L u v → v < n) (hmet : ∀ v, bs_t met v = true ↔ gf_R (gf_E n L) r v) (h1 : ∀ v, v < n → v ≠ r → ab v = if bs_t met v = true then met else 0) (h2 : ab r = bs_b r) : dm_J n L r ab := by
  refine ⟨fun v x hv hd => ?_, fun v x hv hb => ?_, fun x hb => ?_⟩
  · by_cases e : v = r
    · subst e
      rw [h2, bs_bit (by omega)]
      have := dm_as hd (dm_root hd.1)
      exact decide_eq_true this.symm
    · rw [h1 v hv e, if_pos ((hmet v).mpr hd.2.1)]
      exact (hmet x).mpr hd.1
  · by_cases e : v = r
    · subst e
      rw [h2, bs_bit (by omega)] at hb
      have := of_decide_eq_true hb
      subst this
      exact ⟨gf_rf v, gf_rf v⟩
    · rw [h1 v hv e] at hb
      split at hb
      · next c => exact ⟨(hmet x).mp hb, (hmet v).mp c⟩
      · rw [bs_0] at hb; cases hb
  · rw [h2, bs_bit (by omega)] at hb
    exact (of_decide_eq_true hb).symm
