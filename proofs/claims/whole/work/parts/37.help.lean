/-! what the reference has learnt -/
theorem vp_uu (f : Nat → Int64) (k : Nat) (x y : Int64) : vp_updL (vp_updL f k x) k y = vp_updL f k y := by
  funext j
  by_cases e : j = k
  · subst e; rw [pk_uLs, pk_uLs]
  · rw [pk_uLn e, pk_uLn e, pk_uLn e]
theorem bs_or0 (x : Int64) : x ||| 0 = x := by
  apply bs_ext; intro i _; rw [bs_or, bs_0, Bool.or_false]
theorem cl_be_T {n : Nat} (hn : n ≤ 64) (L : Nat → Int64) (v : Nat) : cl_be L v n = gf_T n L v := gf_set_eq (fun i _ => cl_be_t L v hn i)
theorem vp_upto {f : Nat → Int64} {g : Nat → Int64} {v : Nat} {x : Int64} (h : ∀ y, y < v → f y = g y) (hx : x = g v) : ∀ y, y < v + 1 → vp_updL f v x y = g y := fun y hy => by
  by_cases e : y = v
  · subst e; rw [pk_uLs, hx]
  · rw [pk_uLn e]; exact h y (by omega)
def md_G (n r x : Nat) (li : Nat → Int64) (rc eg : Int64) (so wi ew lo : Nat → Int64) (en le : Nat → Int32) : Prop :=
  (∀ v, v < n → so v = gf_T n li v) ∧ (∀ i, bs_t rc i = true ↔ gf_R (gf_E n li) r i) ∧ (∀ i, bs_t eg i = true ↔ gf_R (gf_E n (gf_T n li)) x i) ∧ (∀ u, u < n → wi u = sp_cm n li r u) ∧ (∀ u, u < n → ew u = sp_cm n (gf_T n li) x u) ∧ (∀ v, v < n → lo v = sp_lp n li r v) ∧
  (∀ v, v < n → en v = (df_F n li r (fun _ => 0)).2.1 v) ∧ (∀ v, v < n → le v = (df_F n li r (fun _ => 0)).2.2.1 v)
theorem md_rc {n r : Nat} {G : Nat → Int64} (hr : r < 64) : ∀ i, bs_t (sp_cm n G r 64) i = true ↔ gf_R (gf_E n G) r i := fun i => by
  rw [sp_cm_t hr, md_P_none]
  exact ⟨fun q => q.2, fun q => ⟨by omega, q⟩⟩
theorem md_eg {n x : Nat} {S li : Nat → Int64} (hx : x < 64) (h : ∀ v, v < n → S v = gf_T n li v) : ∀ i, bs_t (sp_cm n S x 64) i = true ↔ gf_R (gf_E n (gf_T n li)) x i := fun i => by
  rw [sp_cm_congr h]; exact md_rc hx i
theorem md_gb_eq {n : Nat} (hn : n ≤ 64) {L : Nat → Int64} {r : Nat} (hr : r < n) {rc : Int64} {wi : Nat → Int64} (h1 : ∀ v, bs_t rc v = true ↔ gf_R (gf_E n L) r v) (h2 : ∀ u, u < n → wi u = sp_cm n L r u) {u v : Nat} (hu : u < n) (hv : v < n) : md_gb L rc wi u v = gf_d (sp_Bk n L r u v) := by
  unfold md_gb
  rw [md_dm_eq hn hr h1 h2 hv, Bool.eq_iff_iff, Bool.and_eq_true, gf_di, gf_di]
  exact ⟨fun q => ⟨⟨hu, q.1⟩, q.2⟩, fun q => ⟨q.1.2, q.2⟩⟩
