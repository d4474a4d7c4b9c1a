/-! small rows for the walks that write -/
theorem wl_arr {c : ClassId} {n : Nat} {f g : Nat → Value} (h : ∀ j, j < n → f j = g j) : arrV c n f = arrV c n g := by
  unfold arrV
  congr 2
  funext j
  exact h j.val j.isLt
theorem wl_nI {D : va_G} {cl : List vw_C} {A : Nat → Prop} {ws : va_W} {H : Heap} (hP : va_P D cl ws H) (hD : va_D A ws) (p : Nat) {a : Nat} {cA : ClassId} {n : Nat} {f g : Nat → Int32} (hp : ws[p]? = some (a, .inl (cA, n, .inl f))) (h : ∀ j, j < n → f j = g j) :
    va_P D cl (ws.set p (a, .inl (cA, n, .inl g))) H ∧ va_D A (ws.set p (a, .inl (cA, n, .inl g))) := by
  refine ⟨hP.set hD hp ?_ (fun _ _ => rfl), hD.set hp⟩
  have e : H[a]? = some (vp_cell cA (n, .inl f)) := hP p _ hp
  show H[a]? = some (vp_cell cA (n, .inl g))
  rw [e, vp_cell_i, vp_cell_i, wl_arr (f := fun j => .int (f j)) (g := fun j => .int (g j)) (fun j hj => by rw [h j hj])]
theorem wl_nJ {D : va_G} {cl : List vw_C} {A : Nat → Prop} {ws : va_W} {H : Heap} (hP : va_P D cl ws H) (hD : va_D A ws) (p : Nat) {a : Nat} {cA : ClassId} {n : Nat} {f g : Nat → Int64} (hp : ws[p]? = some (a, .inl (cA, n, .inr (.inl f)))) (h : ∀ j, j < n → f j = g j) :
    va_P D cl (ws.set p (a, .inl (cA, n, .inr (.inl g)))) H ∧ va_D A (ws.set p (a, .inl (cA, n, .inr (.inl g)))) := by
  refine ⟨hP.set hD hp ?_ (fun _ _ => rfl), hD.set hp⟩
  have e : H[a]? = some (vp_cell cA (n, .inr (.inl f))) := hP p _ hp
  show H[a]? = some (vp_cell cA (n, .inr (.inl g)))
  rw [e, vp_cell_l, vp_cell_l, wl_arr (f := fun j => .long (f j)) (g := fun j => .long (g j)) (fun j hj => by rw [h j hj])]
/-- filled below i -/
def fi_c {α : Type} (f : Nat → α) (x : α) (i : Nat) : Nat → α := fun j => if j < i then x else f j
theorem fi_0 {α : Type} (f : Nat → α) (x : α) : f = fi_c f x 0 := by
  funext j; unfold fi_c; rw [if_neg (Nat.not_lt_zero j)]
theorem fi_s (f : Nat → Int32) (x : Int32) (i : Nat) : upd (fi_c f x i) i x = fi_c f x (i + 1) := by
  funext j
  by_cases e : j = i
  · subst e; rw [pk_us]; unfold fi_c; rw [if_pos (by omega)]
  · rw [pk_un e]; unfold fi_c
    by_cases g : j < i
    · rw [if_pos g, if_pos (by omega)]
    · rw [if_neg g, if_neg (by omega)]
theorem fi_sJ (f : Nat → Int64) (x : Int64) (i : Nat) : vp_updL (fi_c f x i) i x = fi_c f x (i + 1) := by
  funext j
  by_cases e : j = i
  · subst e; rw [pk_uLs]; unfold fi_c; rw [if_pos (by omega)]
  · rw [pk_uLn e]; unfold fi_c
    by_cases g : j < i
    · rw [if_pos g, if_pos (by omega)]
    · rw [if_neg g, if_neg (by omega)]
theorem fi_e {α : Type} (f : Nat → α) (x : α) {n : Nat} : ∀ j, j < n → fi_c f x n j = x := fun j hj => if_pos hj
abbrev fi_ws (cJ cI : ClassId) (g1 : Nat) (fs : Nat → Int32) : va_W := [(g1, .inl (cI, 48, .inl fs))]
theorem km_dec (i : Nat) : nI i + Int32.ofInt (-1) = nI i - nI 1 := by rw [Int32.sub_eq_add_neg]; rfl
theorem km_lt {j : Nat} (hj : j ≤ 64) (h : nI j - nI 1 < 0) : j = 0 := by
  cases j with
  | zero => rfl
  | succ j => rw [show nI (j + 1) - nI 1 = nI j from nI_pred j] at h; exact absurd h (nI_pos (by omega))
theorem km_ge {j : Nat} (h : ¬ nI j - nI 1 < 0) : ∃ i, j = i + 1 := by
  cases j with
  | zero => exact absurd (by decide) h
  | succ j => exact ⟨j, rfl⟩
section
variable {p : Program} {l : Launch} {e : Env} {R : Room} {s : State} {m : MethodId} {args : Array Value} {below : List Frame} {meth : Method} {c : Code} {cells slots : Nat} {Q : State → Prop} {H : Heap} {locs : List Loc} {cc : ByteArray} {pc : Nat} {ls : Array Slot} {rest : List Value}
theorem wl_imuln (hexec : p.tables.exec = Jvm.exec) (hb : c.code = cc) {x y : Nat} (hdg : decode cc pc = .ok (.imul, 1)) (k : W p l e R s m args below meth c H locs cells slots Q (F0 m (pc + 1) ls (.int (nI (x * y)) :: rest))) : W p l e R s m args below meth c H locs cells slots Q (F0 m pc ls (.int (nI y) :: .int (nI x) :: rest)) :=
  lv_imul hexec hb hdg (by rw [pk_mul]; exact k)
end
/-- all above all -/
def di_c (ab : Nat → Int64) (mt : Int64) (v : Nat) : Nat → Int64 := fun j => if j < v then (if bs_t mt j = true then mt else 0) else ab j
theorem di_0 (ab : Nat → Int64) (mt : Int64) : ab = di_c ab mt 0 := by
  funext j; unfold di_c; rw [if_neg (Nat.not_lt_zero j)]
theorem di_s (ab : Nat → Int64) (mt : Int64) (v : Nat) {x : Int64} (hx : x = if bs_t mt v = true then mt else 0) : vp_updL (di_c ab mt v) v x = di_c ab mt (v + 1) := by
  funext j
  by_cases e : j = v
  · subst e; rw [pk_uLs]; unfold di_c; rw [if_pos (by omega), hx]
  · rw [pk_uLn e]; unfold di_c
    by_cases g : j < v
    · rw [if_pos g, if_pos (show j < v + 1 by omega)]
    · rw [if_neg g, if_neg (show ¬ j < v + 1 by omega)]
/-- what the class takes next is what the abstract run takes next -/
theorem df_fo {n : Nat} (hn : n ≤ 48) {L : Nat → Int64} (hL : ∀ u v, gf_E n L u v → v < n) {en : Nat → Int32} {M : Int64} (hM : ∀ i, bs_t M i = true ↔ ¬ en i < 0) {t : Nat} (ht : t < n) :
    (bs_fo (L t &&& (M ^^^ (-1))) 0 < n → bs_fo (L t &&& (M ^^^ (-1))) 0 = df_nx n L en t) ∧ (n ≤ bs_fo (L t &&& (M ^^^ (-1))) 0 → ¬ df_nx n L en t < n) := by
  have hb : ∀ i, i < 64 → bs_t (L t &&& (M ^^^ (-1))) i = (bs_t (L t) i && decide (en i < 0)) := fun i hi => by
    rw [bs_and, bs_not _ hi]
    congr 1
    rw [Bool.eq_iff_iff, Bool.not_eq_true', ← Bool.not_eq_true, hM, decide_eq_true_eq]
    exact Classical.not_not
  generalize hx : L t &&& (M ^^^ (-1)) = x at hb
  constructor
  · intro h
    symm
    refine df_ls_eq (by omega) (fun i hi => ?_) (fun hk => ?_)
    · rw [← hb i (by omega)]; exact bs_fo_no (Nat.zero_le i) hi
    · rw [← hb _ (by omega)]; exact (bs_fo_in (by omega)).2
  · intro h q
    have h1 := df_ls_in (p := fun w => bs_t (L t) w && decide (en w < 0)) (n := n) q
    have h2 : bs_t x (df_nx n L en t) = true := by rw [hb _ (by omega)]; exact h1
    have := bs_fo_no (x := x) (k := 0) (i := df_nx n L en t) (Nat.zero_le _) (by omega)
    rw [this] at h2
    cases h2
theorem df_M0 {r : Nat} (hr : r < 64) : ∀ i, bs_t (bs_b r) i = true ↔ ¬ upd (fun _ => (-1 : Int32)) r 0 i < 0 := fun i => by
  rw [bs_bit hr, decide_eq_true_eq]
  by_cases e : i = r
  · subst e; rw [pk_us]; exact ⟨fun _ => by decide, fun _ => rfl⟩
  · rw [pk_un e]; exact ⟨fun q => absurd q.symm e, fun q => absurd (by decide) q⟩
theorem df_Ms {en : Nat → Int32} {M : Int64} (hM : ∀ i, bs_t M i = true ↔ ¬ en i < 0) {w a : Nat} (hw : w < 64) (ha : a < 2147483648) : ∀ i, bs_t (M ||| bs_b w) i = true ↔ ¬ upd en w (nI a) i < 0 := fun i => by
  rw [bs_or, Bool.or_eq_true, hM, bs_bit hw, decide_eq_true_eq]
  by_cases e : i = w
  · subst e; rw [pk_us]; exact ⟨fun _ => nI_pos ha, fun _ => Or.inr rfl⟩
  · rw [pk_un e]; exact ⟨fun q => q.resolve_right (fun z => e z.symm), Or.inl⟩
