/-! the law: its world, what its loop keeps (laid by wip/gen/law.py) -/
abbrev la_ws (cJ cI : ClassId) (h0 h1 n1 a1 e1 l1 b1 t1 h2 n2 a2 e2 l2 b2 t2 h4 c4 h3 k3 o3 w3 v3 p3 e3 f3 q3 g5 : Nat) (fz : Int32) (fc : Int32) (nx : Nat → Int64) (ab : Nat → Int64) (en : Nat → Int32) (lf : Nat → Int32) (bl : Nat → Int32) (tr : Nat → Int32) (sz : Int32) (rt : Int32) (mt : Int64) (sl : Int32) (nx2 : Nat → Int64) (ab2 : Nat → Int64) (en2 : Nat → Int32) (lf2 : Nat → Int32) (bl2 : Nat → Int32) (tr2 : Nat → Int32) (sz2 : Int32) (rt2 : Int32) (mt2 : Int64) (sl2 : Int32) (bo : Nat → Int64) (ns : Int32) (mcd : Int32) (mnn : Int32) (mey : Int32) (mex : Int32) (mkn : Int32) (mrc : Int64) (meg : Int64) (mli : Nat → Int64) (mso : Nat → Int64) (mwi : Nat → Int64) (mew : Nat → Int64) (mlo : Nat → Int64) (men : Nat → Int32) (mle : Nat → Int32) (mpi : Nat → Int32) (ou : Nat → Int64) : va_W :=
  fn_ws cJ cI h0 h1 n1 a1 e1 l1 b1 t1 h2 n2 a2 e2 l2 b2 t2 h4 c4 fz fc nx ab en lf bl tr sz rt mt sl nx2 ab2 en2 lf2 bl2 tr2 sz2 rt2 mt2 sl2 bo ns ++ (md_ws cJ cI h3 k3 o3 w3 v3 p3 e3 f3 q3 mcd mnn mey mex mkn mrc meg mli mso mwi mew mlo men mle mpi ++ [(g5, .inl (cJ, 1, .inr (.inl ou)))])
/-- what stays the same all along -/
def lw_C (p : Program) (l : Launch) (s : State) (m : MethodId) (c : Code) (b Ln : Nat) (xs : Nat → Int32) (A : Nat → Prop) (dC : Nat → ClassId) (dI : Nat → Nat → Nat) (cJ cI : ClassId) (sa sb : Nat) : Prop :=
  p.tables.exec = Jvm.exec ∧ c.code = code ∧ c.maxLocals = 8 ∧ s.vm.findClass "FlowNestLaw" = some m.cls ∧ (∀ w ∈ Cond.arrayClass .long :: nm_all, w.before #[Value.ref b] s = true) ∧ nw_ok s ∧ va_K (dC, dI) vwCl [(cJ, .long), (cI, .int)] s ∧ tx_ok sa sb s s.heap ∧ (∀ q, A q ↔ s.heap.size ≤ q) ∧ l.stackTraces = false ∧ va_X b Ln xs s s.heap ∧ b < s.heap.size ∧ Ln ≤ 2048
/-- what holds at the loop's head -/
def lw_J (A : Nat → Prop) (dC : Nat → ClassId) (dI : Nat → Nat → Nat) (cJ cI : ClassId) (h0 h1 n1 a1 e1 l1 b1 t1 h2 n2 a2 e2 l2 b2 t2 h4 c4 h3 k3 o3 w3 v3 p3 e3 f3 q3 g5 : Nat) (H : Heap) : Prop :=
  ∃ (n : Nat) (r : Nat) (x : Nat) (L : Nat → Int64) (fc : Int32) (M : Nat → Int64) (q1 : Bool) (q2 : Bool) (q4 : Bool) (ab : Nat → Int64) (en : Nat → Int32) (lf : Nat → Int32) (bl : Nat → Int32) (tr : Nat → Int32) (mt : Int64) (ab2 : Nat → Int64) (en2 : Nat → Int32) (lf2 : Nat → Int32) (bl2 : Nat → Int32) (tr2 : Nat → Int32) (mt2 : Int64) (bo : Nat → Int64) (cd : Int32) (ey : Int32) (ex : Int32) (q : Bool) (rc : Int64) (eg : Int64) (so : Nat → Int64) (wi : Nat → Int64) (ew : Nat → Int64) (lo : Nat → Int64) (men : Nat → Int32) (le : Nat → Int32) (pi : Nat → Int32) (ou : Nat → Int64), n ≤ 48 ∧ (∀ u v, gf_E n L u v → v < n) ∧ fv_S n r L q1 ab en lf bl mt ∧ fv_S n x (gf_T n L) q2 ab2 en2 lf2 bl2 mt2 ∧ fv_N n r L q4 bo ∧ fc = nI (sp_lc n L) ∧ M = gf_T n L ∧ (0 < n → ey = nI r ∧ ex = nI x ∧ r < n ∧ x < n) ∧ (n = 0 → ey = -1 ∧ ex = -1) ∧ (q = true → md_G n r x L rc eg so wi ew lo men le) ∧ va_P (dC, dI) vwCl (la_ws cJ cI h0 h1 n1 a1 e1 l1 b1 t1 h2 n2 a2 e2 l2 b2 t2 h4 c4 h3 k3 o3 w3 v3 p3 e3 f3 q3 g5 (nI n) fc L ab en lf bl tr (nI n) (nI r) mt (bs_i q1) M ab2 en2 lf2 bl2 tr2 (nI n) (nI x) mt2 (bs_i q2) bo (bs_i q4) cd (nI n) ey ex (bs_i q) rc eg L so wi ew lo men le pi ou) H ∧ va_D A (la_ws cJ cI h0 h1 n1 a1 e1 l1 b1 t1 h2 n2 a2 e2 l2 b2 t2 h4 c4 h3 k3 o3 w3 v3 p3 e3 f3 q3 g5 (nI n) fc L ab en lf bl tr (nI n) (nI r) mt (bs_i q1) M ab2 en2 lf2 bl2 tr2 (nI n) (nI x) mt2 (bs_i q2) bo (bs_i q4) cd (nI n) ey ex (bs_i q) rc eg L so wi ew lo men le pi ou)
theorem rm_c {a : Nat} (h : a ≤ 1053) : a ≤ room_1.cells := h
theorem rm_s {a : Nat} (h : a ≤ 9256) : a ≤ room_1.slots := h
theorem lw_no {L i : Nat} (hL : L ≤ 2048) (hi : i ≤ 2048) (h : ¬ Int32.ofNat L - nI 4 < nI i) : i + 4 ≤ L := by
  rw [show Int32.ofNat L = nI L from rfl, Int32.lt_iff_toInt_lt, pk_sub_toInt (by omega) (by omega), nI_toInt (by omega)] at h
  omega
theorem lw_sw (z : Int32) : (∃ k, k < 18 ∧ z = nI k) ∨ (z.toInt < 0 ∨ 17 < z.toInt) := by
  rcases pk_ix z (n := 18) (by omega) with q | q | q
  · right; left; have := Int32.lt_iff_toInt_lt.mp q; simpa using this
  · right; right
    have := Int32.le_iff_toInt_le.mp q
    rw [nI_toInt (by omega)] at this
    omega
  · exact Or.inl q
theorem sp_told_u {n r x : Nat} {L : Nat → Int64} {ey ex what a b : Int32} (h1 : sp_told n r x L ey ex what a) (h2 : sp_told n r x L ey ex what b) : a = b := by
  by_cases e0 : what = nI 0
  · rw [h1.1 e0, h2.1 e0]
  by_cases e1 : what = nI 1
  · rw [h1.2.1 e1, h2.2.1 e1]
  by_cases e2 : what = nI 2
  · rw [h1.2.2.1 e2, h2.2.2.1 e2]
  by_cases e3 : what = nI 3
  · rw [h1.2.2.2.1 e3, h2.2.2.2.1 e3]
  by_cases e4 : what = nI 4
  · rw [h1.2.2.2.2.1 e4, h2.2.2.2.2.1 e4]
  by_cases e5 : what = nI 5
  · rw [h1.2.2.2.2.2.1 e5, h2.2.2.2.2.2.1 e5]
  rw [h1.2.2.2.2.2.2 e0 e1 e2 e3 e4 e5, h2.2.2.2.2.2.2 e0 e1 e2 e3 e4 e5]
theorem ft_ey {n r x : Nat} {ey ex : Int32} (hz : 0 < n → ey = nI r ∧ ex = nI x ∧ r < n ∧ x < n) (hz0 : n = 0 → ey = -1 ∧ ex = -1) : ft_e n r = ey ∧ ft_e n x = ex := by
  unfold ft_e
  rcases Nat.eq_zero_or_pos n with e | e
  · rw [if_pos e, if_pos e]; exact ⟨(hz0 e).1.symm, (hz0 e).2.symm⟩
  · rw [if_neg (by omega), if_neg (by omega)]; exact ⟨(hz e).1.symm, (hz e).2.1.symm⟩
theorem n0_u {α : Type} {n : Nat} {a b c d : α} (h1 : (n = 0 → a = c) ∧ (0 < n → a = d)) (h2 : (n = 0 → b = c) ∧ (0 < n → b = d)) : a = b := by
  rcases Nat.eq_zero_or_pos n with e | e
  · rw [h1.1 e, h2.1 e]
  · rw [h1.2 e, h2.2 e]
theorem nI_i {a b : Nat} (ha : a ≤ 48) (hb : b ≤ 48) (h : nI a = nI b) : a = b := (nI_eq (by omega) (by omega)).mp h
section
variable {p : Program} {l : Launch} {e : Env} {R : Room} {s : State} {m : MethodId} {args : Array Value} {below : List Frame} {meth : Method} {c : Code} {cells slots : Nat} {Q : State → Prop} {H0 H : Heap} {locs : List Loc} {cc : ByteArray} {pc : Nat} {ls : Array Slot} {rest : List Value} {A : Nat → Prop}
theorem wl_sld (hexec : p.tables.exec = Jvm.exec) (hb : c.code = cc) {b L : Nat} {xs : Nat → Int32} (hX : va_X b L xs s H0) (hbl : b < H0.size) (hbA : ¬ A b) (hS : va_S A H0 H locs) {i : Nat} (hi : i < L) (hL : L ≤ 2048) (hdg : decode cc pc = .ok (.iaload, 1))
    (kk : W p l e R s m args below meth c H locs cells slots Q (F0 m (pc + 1) ls (.int (xs i) :: rest))) : W p l e R s m args below meth c H locs cells slots Q (F0 m pc ls (.int (nI i) :: .ref b :: rest)) := by
  refine va_sld hexec hb hX hbl hbA hS (vp_in_nI hi (by omega)) hdg ?_
  rw [nI_clamp (by omega)]
  exact kk
end
