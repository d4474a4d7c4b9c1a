/-! FlowNest's answers out of what its sides and its nest hold -/
section
variable {n r : Nat} {L ab : Nat → Int64} {en lf bl : Nat → Int32} {mt : Int64} {bo : Nat → Int64} {k j : Nat}
theorem fa_reach (h : fv_S n r L false ab en lf bl mt) (hk : k < n) : bs_i (bs_t mt k) = bs_i (gf_d (gf_R (gf_E n L) r k)) := congrArg bs_i (by rw [Bool.eq_iff_iff, gf_di]; exact (fv_S_g h (by omega)).2.2.1 k)
theorem fa_dm (hn : n ≤ 48) (h : fv_S n r L false ab en lf bl mt) (hk : k < n) {a : Int32} (ha : (∃ u, u < n ∧ (bs_t (ab k &&& (bs_b k ^^^ (-1))) u = true ∧ ab u = ab k &&& (bs_b k ^^^ (-1))) ∧ a = nI u) ∨ ((∀ u, u < n → ¬ (bs_t (ab k &&& (bs_b k ^^^ (-1))) u = true ∧ ab u = ab k &&& (bs_b k ^^^ (-1)))) ∧ a = -1)) : sp_Dm n L r k a := by
  obtain ⟨g1, g2, g3, g4, -⟩ := fv_S_g h (by omega)
  rcases ha with ⟨u, q1, q2, q3⟩ | ⟨q1, q2⟩
  · exact Or.inl ⟨u, (cl_cond (by omega) g4 q1 hk).mp q2, q3⟩
  · rw [q2]; exact cl_dm (by omega) g2 g1 g4 hk q1
theorem fa_dom (h : fv_S n r L false ab en lf bl mt) (hj : j < n) (k : Nat) : bs_i (bs_t (ab j) k) = bs_i (gf_d (dm_D (gf_E n L) r k j)) := congrArg bs_i (by rw [Bool.eq_iff_iff, gf_di]; exact (fv_S_g h (by omega)).2.2.2.1 j k hj)
theorem fa_lev1 (hn : n ≤ 48) (h : fv_S n r L false ab en lf bl mt) (hk : k < n) (hm : bs_t mt k = true) : nI (bs_c (ab k)) - nI 1 = @ite _ (gf_R (gf_E n L) r k) (Classical.propDecidable _) (nI (sp_rk n L r k) - nI 1) (-1) := by
  obtain ⟨g1, g2, g3, g4, -⟩ := fv_S_g h (by omega)
  rw [if_pos ((g3 k).mp hm), cl_rk (by omega) g2 g1 g4 hk]
theorem fa_lev0 (h : fv_S n r L false ab en lf bl mt) (hk : k < n) (hm : bs_t mt k = false) : (-1 : Int32) = @ite _ (gf_R (gf_E n L) r k) (Classical.propDecidable _) (nI (sp_rk n L r k) - nI 1) (-1) := by
  obtain ⟨g1, g2, g3, g4, -⟩ := fv_S_g h (by omega)
  rw [if_neg (fun q => by rw [(g3 k).mpr q] at hm; cases hm)]
theorem fa_rim (hn : n ≤ 48) (h : fv_S n r L false ab en lf bl mt) (hk : k < n) : cl_ta ab L k n &&& ((cl_be ab k n &&& (bs_b k ^^^ (-1))) ^^^ (-1)) = sp_fr n L r k := by
  obtain ⟨g1, g2, g3, g4, -⟩ := fv_S_g h (by omega)
  exact cl_rim (by omega) g2 g1 g4 (by omega)
theorem fa_back (h : fv_S n r L false ab en lf bl mt) (hk : k < n) (j : Nat) : bs_i (bs_t (L k &&& ab k) j) = bs_i (gf_d (sp_Bk n L r k j)) := congrArg bs_i (by
  rw [Bool.eq_iff_iff, gf_di, bs_and, Bool.and_eq_true, (fv_S_g h (by omega)).2.2.2.1 k j hk]
  exact ⟨fun q => ⟨⟨hk, q.1⟩, q.2⟩, fun q => ⟨q.1.2, q.2⟩⟩)
theorem fa_left (h : fv_S n r L false ab en lf bl mt) (hk : k < n) : lf k = (df_F n L r (fun _ => 0)).2.2.1 k := by
  obtain ⟨-, -, -, -, -, b0, e1, e2⟩ := fv_S_g h (by omega)
  rw [e1, (df_F_bl b0 (fun _ => 0)).2]
theorem fa_ent (h : fv_S n r L false ab en lf bl mt) (hk : k < n) : en k = (df_F n L r (fun _ => 0)).2.1 k := by
  obtain ⟨-, -, -, -, -, b0, e1, e2⟩ := fv_S_g h (by omega)
  rw [e2, (df_F_bl b0 (fun _ => 0)).1]
theorem fa_hd1 (hn : n ≤ 48) (h : fv_N n r L false bo) (hk : k < n) : sp_hi (sp_hd bo (fun i => !decide (nI i = nI k) && bs_t (bo i) k) n) = sp_hi (sp_hd (sp_lp n L r) (fun i => bs_t (sp_lp n L r i) k && !(true && decide (i = k))) n) := congrArg sp_hi (sp_hd_congr (fv_N_b h) (fun i hi => by
  show (!decide (nI i = nI k) && bs_t (bo i) k) = (bs_t (sp_lp n L r i) k && !(true && decide (i = k)))
  rw [fv_N_b h i hi, Bool.and_comm, Bool.true_and, decide_eq_decide.mpr (nI_eq (a := i) (b := k) (by omega) (by omega))]))
theorem fa_hd0 (hn : n ≤ 48) (h : fv_N n r L false bo) (hk : k < n) : sp_hi (sp_hd bo (fun i => !decide (nI i = -1) && bs_t (bo i) k) n) = sp_hi (sp_hd (sp_lp n L r) (fun i => bs_t (sp_lp n L r i) k && !(false && decide (i = k))) n) := congrArg sp_hi (sp_hd_congr (fv_N_b h) (fun i hi => by
  show (!decide (nI i = -1) && bs_t (bo i) k) = (bs_t (sp_lp n L r i) k && !(false && decide (i = k)))
  have e : ¬ nI i = -1 := fun e => by
    have := congrArg Int32.toInt e
    rw [nI_toInt (by omega)] at this
    have h1 : (-1 : Int32).toInt = -1 := by decide
    omega
  rw [fv_N_b h i hi, decide_eq_false e]
  simp))
theorem fa_dep (h : fv_N n r L false bo) : nI (ct_n (fun i => bs_t (bo i) k) n) = nI (ct_n (fun i => bs_t (sp_lp n L r i) k) n) := congrArg nI (ct_congr (fun i hi => by rw [fv_N_b h i hi]))
theorem fa_cnt (h : fv_N n r L false bo) : nI (ct_n (fun i => !decide (bo i = 0)) n) = nI (ct_n (fun i => !decide (sp_lp n L r i = 0)) n) := congrArg nI (ct_congr (fun i hi => by rw [fv_N_b h i hi]))
theorem fa_ct {x : Nat} {ab2 : Nat → Int64} {en2 lf2 bl2 : Nat → Int32} {mt2 : Int64} (hn : n ≤ 48) (hL : ∀ u v, gf_E n L u v → v < n) (h : fv_S n x (gf_T n L) false ab2 en2 lf2 bl2 mt2) (hk : k < n) : md_or ab2 (L k) 0 n &&& ((ab2 k &&& (bs_b k ^^^ (-1))) ^^^ (-1)) = sp_ct n L x k := cl_ct (by omega) hL (fv_S_g h (by omega)).2.2.2.1 hk
theorem fa_or1 {G : Nat → Int64} {x s : Int64} {w : Nat} (h : bs_t x w = true) : md_or G x s w ||| G w = md_or G x s (w + 1) := (if_pos h).symm
theorem fa_or0 {G : Nat → Int64} {x s : Int64} {w : Nat} (h : bs_t x w = false) : md_or G x s w = md_or G x s (w + 1) := (if_neg (Bool.eq_false_iff.mp h)).symm
theorem lc_on1 {n : Nat} {L : Nat → Int64} {u v : Nat} (hu : u < n) (hv : v < 64) (h : bs_t (L u ^^^ bs_b v) v = true) : nI (sp_lc n L + 1) = nI (sp_lc n (vp_updL L u (L u ^^^ bs_b v))) := by
  rw [bs_tg _ hv, Bool.not_eq_true'] at h
  rw [(sp_lc_tog hu hv).1 h]
theorem lc_off1 {n : Nat} {L : Nat → Int64} {u v : Nat} (hu : u < n) (hv : v < 64) (h : bs_t (L u ^^^ bs_b v) v = false) : nI (sp_lc n L) + -1 = nI (sp_lc n (vp_updL L u (L u ^^^ bs_b v))) := by
  rw [bs_tg _ hv, Bool.not_eq_false'] at h
  exact lc_off hu hv h
theorem tg_1 {x : Int64} {v : Nat} (hv : v < 64) (h : bs_t (x ^^^ bs_b v) v = true) : nI 1 = bs_i (!bs_t x v) := by
  rw [bs_tg _ hv] at h; rw [h]; rfl
theorem tg_0 {x : Int64} {v : Nat} (hv : v < 64) (h : bs_t (x ^^^ bs_b v) v = false) : nI 0 = bs_i (!bs_t x v) := by
  rw [bs_tg _ hv] at h; rw [h]; rfl
/-- what F tells: before the first begin there are no ends -/
def ft_e (n r : Nat) : Int32 := if n = 0 then -1 else nI r
end
