/-! contracts of FlowNest: what never throws (laid by wip/gen/fnest.py) -/
set_option maxHeartbeats 4000000 in
set_option maxRecDepth 100000 in
theorem c_F_spread (l : Launch) (dC : Nat → ClassId) (dI : Nat → Nat → Nat) (cJ cI : ClassId) (h0 h1 n1 a1 e1 l1 b1 t1 h2 n2 a2 e2 l2 b2 t2 h4 c4 hs : Nat) (ab : Nat → Int64) (en : Nat → Int32) (lf : Nat → Int32) (bl : Nat → Int32) (tr : Nat → Int32) (mt : Int64) (ab2 : Nat → Int64) (en2 : Nat → Int32) (lf2 : Nat → Int32) (bl2 : Nat → Int32) (tr2 : Nat → Int32) (mt2 : Int64) (bo : Nat → Int64) (n r x : Nat) (L : Nat → Int64) (q1 q2 q4 : Bool) (S : Int64) (hn : n ≤ 48) (hL : ∀ u v, gf_E n L u v → v < n) (hI1 : fv_S n r L q1 ab en lf bl mt) (hI2 : fv_S n x (gf_T n L) q2 ab2 en2 lf2 bl2 mt2) (hI4 : fv_N n r L q4 bo) : Met l y_F_spread w_F_spread ({ frames := 6, cells := 0, slots := 0, locals := 138 }) (va_Pc [.ref h0, .long S] (cw_M (dC, dI) cJ cI (fn_ws cJ cI h0 h1 n1 a1 e1 l1 b1 t1 h2 n2 a2 e2 l2 b2 t2 h4 c4 (nI n) (nI (sp_lc n L)) L ab en lf bl tr (nI n) (nI r) mt (bs_i q1) (gf_T n L) ab2 en2 lf2 bl2 tr2 (nI n) (nI x) mt2 (bs_i q2) bo (bs_i q4)) hs)) (va_Ql (fun (r9 : Int64) (u9 : Bool × (Nat → Int64) × (Nat → Int32) × (Nat → Int32) × (Nat → Int32) × (Nat → Int32) × Int64 × Bool × (Nat → Int64) × (Nat → Int32) × (Nat → Int32) × (Nat → Int32) × (Nat → Int32) × Int64 × Bool × (Nat → Int64)) => match u9 with | (p9, ab9, en9, lf9, bl9, tr9, mt9, s9, yb9, yn9, yf9, yl9, yr9, ym9, w9, bo9) => fv_S n r L p9 ab9 en9 lf9 bl9 mt9 ∧ fv_S n x (gf_T n L) s9 yb9 yn9 yf9 yl9 ym9 ∧ fv_N n r L w9 bo9 ∧ (n = 0 → r9 = 0) ∧ (0 < n → r9 = sp_sp n L r S)) (fun (u9 : Bool × (Nat → Int64) × (Nat → Int32) × (Nat → Int32) × (Nat → Int32) × (Nat → Int32) × Int64 × Bool × (Nat → Int64) × (Nat → Int32) × (Nat → Int32) × (Nat → Int32) × (Nat → Int32) × Int64 × Bool × (Nat → Int64)) (t : State) => match u9 with | (p9, ab9, en9, lf9, bl9, tr9, mt9, s9, yb9, yn9, yf9, yl9, yr9, ym9, w9, bo9) => va_P (dC, dI) vwCl (fn_ws cJ cI h0 h1 n1 a1 e1 l1 b1 t1 h2 n2 a2 e2 l2 b2 t2 h4 c4 (nI n) (nI (sp_lc n L)) L ab9 en9 lf9 bl9 tr9 (nI n) (nI r) mt9 (bs_i p9) (gf_T n L) yb9 yn9 yf9 yl9 yr9 (nI n) (nI x) ym9 (bs_i s9) bo9 (bs_i w9)) t.heap ∧ va_D (va_A (fn_ws cJ cI h0 h1 n1 a1 e1 l1 b1 t1 h2 n2 a2 e2 l2 b2 t2 h4 c4 (nI n) (nI (sp_lc n L)) L ab en lf bl tr (nI n) (nI r) mt (bs_i q1) (gf_T n L) ab2 en2 lf2 bl2 tr2 (nI n) (nI x) mt2 (bs_i q2) bo (bs_i q4)) hs) (fn_ws cJ cI h0 h1 n1 a1 e1 l1 b1 t1 h2 n2 a2 e2 l2 b2 t2 h4 c4 (nI n) (nI (sp_lc n L)) L ab9 en9 lf9 bl9 tr9 (nI n) (nI r) mt9 (bs_i p9) (gf_T n L) yb9 yn9 yf9 yl9 yr9 (nI n) (nI x) ym9 (bs_i s9) bo9 (bs_i w9))) (va_A (fn_ws cJ cI h0 h1 n1 a1 e1 l1 b1 t1 h2 n2 a2 e2 l2 b2 t2 h4 c4 (nI n) (nI (sp_lc n L)) L ab en lf bl tr (nI n) (nI r) mt (bs_i q1) (gf_T n L) ab2 en2 lf2 bl2 tr2 (nI n) (nI x) mt2 (bs_i q2) bo (bs_i q4)) hs)) 0 0 (va_A (fn_ws cJ cI h0 h1 n1 a1 e1 l1 b1 t1 h2 n2 a2 e2 l2 b2 t2 h4 c4 (nI n) (nI (sp_lc n L)) L ab en lf bl tr (nI n) (nI r) mt (bs_i q1) (gf_T n L) ab2 en2 lf2 bl2 tr2 (nI n) (nI x) mt2 (bs_i q2) bo (bs_i q4)) hs) := by
  refine Met.ofW (cc := b_F_spread) (maxL := 3) (ret := (some .long)) (by decide) rfl ?_
  intro p e s m args below meth c s₁ B hml hv9
  obtain ⟨rfl, hsz, ⟨hP, hK, hNw⟩, hD0⟩ := hv9
  have hx := B.exec
  have hb := B.bytes
  have hr := B.returns
  have hts := atoms_spec (ws := w_F_spread) B.pre
  have hown : s.vm.findClass "FlowNest" = some m.cls := findClass_of_methodNamed B.named
  have hlocks := B.notSynchronized
  subst hsz
  have hD := hD0.self (sz := s.heap.size)
  generalize hAe : va_A (fn_ws cJ cI h0 h1 n1 a1 e1 l1 b1 t1 h2 n2 a2 e2 l2 b2 t2 h4 c4 (nI n) (nI (sp_lc n L)) L ab en lf bl tr (nI n) (nI r) mt (bs_i q1) (gf_T n L) ab2 en2 lf2 bl2 tr2 (nI n) (nI x) mt2 (bs_i q2) bo (bs_i q4)) s.heap.size = A at hD ⊢
  have hA : ∀ q : Nat, s.heap.size ≤ q → A q := fun q h => by rw [← hAe]; exact Or.inr h
  have hS : va_S A s.heap s.heap [] := va_S.rf
  have hP : va_P (dC, dI) vwCl (fn_ws cJ cI h0 h1 n1 a1 e1 l1 b1 t1 h2 n2 a2 e2 l2 b2 t2 h4 c4 (nI n) (nI (sp_lc n L)) L ab en lf bl tr (nI n) (nI r) mt (bs_i q1) (gf_T n L) ab2 en2 lf2 bl2 tr2 (nI n) (nI x) mt2 (bs_i q2) bo (bs_i q4)) s.heap := hP
  have hl := lv_entry ([.ref h0, .long S]) (n := 3) (Nat.le_of_ble_eq_true rfl)
  rw [lg_entry_eq]
  generalize (lg_sl ([.ref h0, .long S]) ++ List.replicate (3 - (lg_sl ([.ref h0, .long S])).length) Slot.unset).toArray = ls at hl ⊢
  have hl : lv_has ls 3 [(0, .ref h0), (1, .long S)] := hl
  refine lv_aload_n hx hb d_F_spread_0 rfl (lv_at hl 0 rfl) ?_
  refine lv_iconst (v := nI 0) hx hb d_F_spread_1 (by decide) ?_
  have hPc := hP.sub (ws' := fn_ws cJ cI h0 h1 n1 a1 e1 l1 b1 t1 h2 n2 a2 e2 l2 b2 t2 h4 c4 (nI n) (nI (sp_lc n L)) L ab en lf bl tr (nI n) (nI r) mt (bs_i q1) (gf_T n L) ab2 en2 lf2 bl2 tr2 (nI n) (nI x) mt2 (bs_i q2) bo (bs_i q4)) [0, 1, 2, 3, 4, 5, 6, 7, 8, 9, 10, 11, 12, 13, 14, 15, 16] rfl
  have hDc := hD.sub (ws' := fn_ws cJ cI h0 h1 n1 a1 e1 l1 b1 t1 h2 n2 a2 e2 l2 b2 t2 h4 c4 (nI n) (nI (sp_lc n L)) L ab en lf bl tr (nI n) (nI r) mt (bs_i q1) (gf_T n L) ab2 en2 lf2 bl2 tr2 (nI n) (nI x) mt2 (bs_i q2) bo (bs_i q4)) [0, 1, 2, 3, 4, 5, 6, 7, 8, 9, 10, 11, 12, 13, 14, 15, 16] (by decide) rfl
  have hFc := va_free (wc := fn_ws cJ cI h0 h1 n1 a1 e1 l1 b1 t1 h2 n2 a2 e2 l2 b2 t2 h4 c4 (nI n) (nI (sp_lc n L)) L ab en lf bl tr (nI n) (nI r) mt (bs_i q1) (gf_T n L) ab2 en2 lf2 bl2 tr2 (nI n) (nI x) mt2 (bs_i q2) bo (bs_i q4)) hD hS hA [0, 1, 2, 3, 4, 5, 6, 7, 8, 9, 10, 11, 12, 13, 14, 15, 16] rfl
  refine va_callr (va_runV (C := "FlowNest") (b := h0) (As := [.int (nI 0)]) (rest := []) ⟨hx, hb, hml, hown, hts⟩ (c_F_worked_0 l dC dI cJ cI h0 h1 n1 a1 e1 l1 b1 t1 h2 n2 a2 e2 l2 b2 t2 h4 c4 s.heap.size ab en lf bl tr mt ab2 en2 lf2 bl2 tr2 mt2 bo n r x L q1 q2 q4 hn hL hI1 hI2 hI4) (cwV 1 hts (nm_gV nm_103 nm_105 nm_s_F_worked nm_1 nm_c_F_worked) rfl rfl rfl (by decide +kernel) ⟨Nat.le_of_ble_eq_true rfl, Nat.le_of_ble_eq_true rfl⟩) ⟨cw_blindM, va_recv hK hP (ci := 2) rfl (q0 := 0) rfl, cw_preM hPc hDc hK hNw⟩ rfl rfl hl.1 rfl (lv_room (Nat.le_of_ble_eq_true rfl)) d_F_spread_2 ⟨Nat.zero_le _, Nat.zero_le _⟩) hS (fun q _ h => hFc q h) hFc (fun u9 ra t H1 locs ht hvm hw2 hB hz1 hk1 hS => ?_)
  obtain ⟨ab3, en4, lf5, bl6, tr7, mt8⟩ := u9
  obtain ⟨hra, hP1, hD1⟩ := hB
  replace hra := hra.symm
  subst hra
  rw [ht] at hP1
  obtain ⟨hP, hD⟩ := va_join (wr := ([] : List Nat).filterMap (fun (i : Nat) => (fn_ws cJ cI h0 h1 n1 a1 e1 l1 b1 t1 h2 n2 a2 e2 l2 b2 t2 h4 c4 (nI n) (nI (sp_lc n L)) L ab en lf bl tr (nI n) (nI r) mt (bs_i q1) (gf_T n L) ab2 en2 lf2 bl2 tr2 (nI n) (nI x) mt2 (bs_i q2) bo (bs_i q4))[i]?)) (w1 := fn_ws cJ cI h0 h1 n1 a1 e1 l1 b1 t1 h2 n2 a2 e2 l2 b2 t2 h4 c4 (nI n) (nI (sp_lc n L)) L ab3 en4 lf5 bl6 tr7 (nI n) (nI r) mt8 (nI 0) (gf_T n L) ab2 en2 lf2 bl2 tr2 (nI n) (nI x) mt2 (bs_i q2) bo (bs_i q4)) hP hD [0, 1, 2, 3, 4, 5, 6, 7, 8, 9, 10, 11, 12, 13, 14, 15, 16] [] rfl rfl (by decide) (by decide) hk1 hFc hP1 hD1
  generalize H1 = H at hP hS ⊢
  have hP : va_P (dC, dI) vwCl (fn_ws cJ cI h0 h1 n1 a1 e1 l1 b1 t1 h2 n2 a2 e2 l2 b2 t2 h4 c4 (nI n) (nI (sp_lc n L)) L ab3 en4 lf5 bl6 tr7 (nI n) (nI r) mt8 (nI 0) (gf_T n L) ab2 en2 lf2 bl2 tr2 (nI n) (nI x) mt2 (bs_i q2) bo (bs_i q4)) H := hP.sub (ws' := fn_ws cJ cI h0 h1 n1 a1 e1 l1 b1 t1 h2 n2 a2 e2 l2 b2 t2 h4 c4 (nI n) (nI (sp_lc n L)) L ab3 en4 lf5 bl6 tr7 (nI n) (nI r) mt8 (nI 0) (gf_T n L) ab2 en2 lf2 bl2 tr2 (nI n) (nI x) mt2 (bs_i q2) bo (bs_i q4)) [0, 1, 2, 3, 4, 5, 6, 7, 8, 9, 10, 11, 12, 13, 14, 15, 16] rfl
  have hD : va_D A (fn_ws cJ cI h0 h1 n1 a1 e1 l1 b1 t1 h2 n2 a2 e2 l2 b2 t2 h4 c4 (nI n) (nI (sp_lc n L)) L ab3 en4 lf5 bl6 tr7 (nI n) (nI r) mt8 (nI 0) (gf_T n L) ab2 en2 lf2 bl2 tr2 (nI n) (nI x) mt2 (bs_i q2) bo (bs_i q4)) := hD.sub (ws' := fn_ws cJ cI h0 h1 n1 a1 e1 l1 b1 t1 h2 n2 a2 e2 l2 b2 t2 h4 c4 (nI n) (nI (sp_lc n L)) L ab3 en4 lf5 bl6 tr7 (nI n) (nI r) mt8 (nI 0) (gf_T n L) ab2 en2 lf2 bl2 tr2 (nI n) (nI x) mt2 (bs_i q2) bo (bs_i q4)) [0, 1, 2, 3, 4, 5, 6, 7, 8, 9, 10, 11, 12, 13, 14, 15, 16] (by decide) rfl
  refine lv_lload_n hx hb d_F_spread_5 rfl (lv_at hl 1 rfl) ?_
  refine vp_callSl (va_Run.run (va_runV (C := "FlowNest$Side") (b := h1) (As := [.long S]) (rest := []) ⟨hx, hb, hml, hown, hts⟩ (c_S_rimsFrom l dC dI cJ cI h1 n1 a1 e1 l1 b1 t1 L ab3 en4 lf5 bl6 tr7 mt8 (nI 0) n r S hn (fv_S_g hw2)) (cwV 1 hts (nm_gV nm_145 nm_146 nm_147 nm_2 nm_c_S_rimsFrom) rfl rfl rfl (by decide +kernel) ⟨Nat.le_of_ble_eq_true rfl, Nat.le_of_ble_eq_true rfl⟩) ⟨cw_blind, va_recv hK hP (ci := 1) rfl (q0 := 1) rfl, cw_pre (hP.sub (ws' := sd_ws cJ cI h1 n1 a1 e1 l1 b1 t1 L ab3 en4 lf5 bl6 tr7 (nI n) (nI r) mt8 (nI 0)) [1, 2, 3, 4, 5, 6, 7] rfl) hK hNw⟩ rfl rfl hl.1 rfl (lv_room (Nat.le_of_ble_eq_true rfl)) d_F_spread_6 ⟨Nat.zero_le _, Nat.zero_le _⟩)) (fun r9 hr10 => ?_)
  exact W.lret (v := r9) hx hb hr (fun t ht hW => ⟨⟨r9, (false, ab3, en4, lf5, bl6, tr7, mt8, q2, ab2, en2, lf2, bl2, tr2, mt2, q4, bo), rfl, ⟨hw2, hI2, hI4, hr10⟩, by rw [ht]; exact hP, hD⟩, hS.F ht⟩) hS.2.2 d_F_spread_9
set_option maxHeartbeats 4000000 in
set_option maxRecDepth 100000 in
theorem c_F_loops (l : Launch) (dC : Nat → ClassId) (dI : Nat → Nat → Nat) (cJ cI : ClassId) (h0 h1 n1 a1 e1 l1 b1 t1 h2 n2 a2 e2 l2 b2 t2 h4 c4 hs : Nat) (ab : Nat → Int64) (en : Nat → Int32) (lf : Nat → Int32) (bl : Nat → Int32) (tr : Nat → Int32) (mt : Int64) (ab2 : Nat → Int64) (en2 : Nat → Int32) (lf2 : Nat → Int32) (bl2 : Nat → Int32) (tr2 : Nat → Int32) (mt2 : Int64) (bo : Nat → Int64) (n r x : Nat) (L : Nat → Int64) (q1 q2 q4 : Bool) (hn : n ≤ 48) (hL : ∀ u v, gf_E n L u v → v < n) (hI1 : fv_S n r L q1 ab en lf bl mt) (hI2 : fv_S n x (gf_T n L) q2 ab2 en2 lf2 bl2 mt2) (hI4 : fv_N n r L q4 bo) : Met l y_F_loops w_F_loops ({ frames := 6, cells := 0, slots := 0, locals := 149 }) (va_Pc [.ref h0] (cw_M (dC, dI) cJ cI (fn_ws cJ cI h0 h1 n1 a1 e1 l1 b1 t1 h2 n2 a2 e2 l2 b2 t2 h4 c4 (nI n) (nI (sp_lc n L)) L ab en lf bl tr (nI n) (nI r) mt (bs_i q1) (gf_T n L) ab2 en2 lf2 bl2 tr2 (nI n) (nI x) mt2 (bs_i q2) bo (bs_i q4)) hs)) (va_Qi (fun (r9 : Int32) (u9 : Bool × (Nat → Int64) × (Nat → Int32) × (Nat → Int32) × (Nat → Int32) × (Nat → Int32) × Int64 × Bool × (Nat → Int64) × (Nat → Int32) × (Nat → Int32) × (Nat → Int32) × (Nat → Int32) × Int64 × Bool × (Nat → Int64)) => match u9 with | (p9, ab9, en9, lf9, bl9, tr9, mt9, s9, yb9, yn9, yf9, yl9, yr9, ym9, w9, bo9) => fv_S n r L p9 ab9 en9 lf9 bl9 mt9 ∧ fv_S n x (gf_T n L) s9 yb9 yn9 yf9 yl9 ym9 ∧ fv_N n r L w9 bo9 ∧ r9 = nI (ct_n (fun i => !decide (sp_lp n L r i = 0)) n)) (fun (u9 : Bool × (Nat → Int64) × (Nat → Int32) × (Nat → Int32) × (Nat → Int32) × (Nat → Int32) × Int64 × Bool × (Nat → Int64) × (Nat → Int32) × (Nat → Int32) × (Nat → Int32) × (Nat → Int32) × Int64 × Bool × (Nat → Int64)) (t : State) => match u9 with | (p9, ab9, en9, lf9, bl9, tr9, mt9, s9, yb9, yn9, yf9, yl9, yr9, ym9, w9, bo9) => va_P (dC, dI) vwCl (fn_ws cJ cI h0 h1 n1 a1 e1 l1 b1 t1 h2 n2 a2 e2 l2 b2 t2 h4 c4 (nI n) (nI (sp_lc n L)) L ab9 en9 lf9 bl9 tr9 (nI n) (nI r) mt9 (bs_i p9) (gf_T n L) yb9 yn9 yf9 yl9 yr9 (nI n) (nI x) ym9 (bs_i s9) bo9 (bs_i w9)) t.heap ∧ va_D (va_A (fn_ws cJ cI h0 h1 n1 a1 e1 l1 b1 t1 h2 n2 a2 e2 l2 b2 t2 h4 c4 (nI n) (nI (sp_lc n L)) L ab en lf bl tr (nI n) (nI r) mt (bs_i q1) (gf_T n L) ab2 en2 lf2 bl2 tr2 (nI n) (nI x) mt2 (bs_i q2) bo (bs_i q4)) hs) (fn_ws cJ cI h0 h1 n1 a1 e1 l1 b1 t1 h2 n2 a2 e2 l2 b2 t2 h4 c4 (nI n) (nI (sp_lc n L)) L ab9 en9 lf9 bl9 tr9 (nI n) (nI r) mt9 (bs_i p9) (gf_T n L) yb9 yn9 yf9 yl9 yr9 (nI n) (nI x) ym9 (bs_i s9) bo9 (bs_i w9))) (va_A (fn_ws cJ cI h0 h1 n1 a1 e1 l1 b1 t1 h2 n2 a2 e2 l2 b2 t2 h4 c4 (nI n) (nI (sp_lc n L)) L ab en lf bl tr (nI n) (nI r) mt (bs_i q1) (gf_T n L) ab2 en2 lf2 bl2 tr2 (nI n) (nI x) mt2 (bs_i q2) bo (bs_i q4)) hs)) 0 0 (va_A (fn_ws cJ cI h0 h1 n1 a1 e1 l1 b1 t1 h2 n2 a2 e2 l2 b2 t2 h4 c4 (nI n) (nI (sp_lc n L)) L ab en lf bl tr (nI n) (nI r) mt (bs_i q1) (gf_T n L) ab2 en2 lf2 bl2 tr2 (nI n) (nI x) mt2 (bs_i q2) bo (bs_i q4)) hs) := by
  refine Met.ofW (cc := b_F_loops) (maxL := 1) (ret := (some .int)) (by decide) rfl ?_
  intro p e s m args below meth c s₁ B hml hv9
  obtain ⟨rfl, hsz, ⟨hP, hK, hNw⟩, hD0⟩ := hv9
  have hx := B.exec
  have hb := B.bytes
  have hr := B.returns
  have hts := atoms_spec (ws := w_F_loops) B.pre
  have hown : s.vm.findClass "FlowNest" = some m.cls := findClass_of_methodNamed B.named
  have hlocks := B.notSynchronized
  subst hsz
  have hD := hD0.self (sz := s.heap.size)
  generalize hAe : va_A (fn_ws cJ cI h0 h1 n1 a1 e1 l1 b1 t1 h2 n2 a2 e2 l2 b2 t2 h4 c4 (nI n) (nI (sp_lc n L)) L ab en lf bl tr (nI n) (nI r) mt (bs_i q1) (gf_T n L) ab2 en2 lf2 bl2 tr2 (nI n) (nI x) mt2 (bs_i q2) bo (bs_i q4)) s.heap.size = A at hD ⊢
  have hA : ∀ q : Nat, s.heap.size ≤ q → A q := fun q h => by rw [← hAe]; exact Or.inr h
  have hS : va_S A s.heap s.heap [] := va_S.rf
  have hP : va_P (dC, dI) vwCl (fn_ws cJ cI h0 h1 n1 a1 e1 l1 b1 t1 h2 n2 a2 e2 l2 b2 t2 h4 c4 (nI n) (nI (sp_lc n L)) L ab en lf bl tr (nI n) (nI r) mt (bs_i q1) (gf_T n L) ab2 en2 lf2 bl2 tr2 (nI n) (nI x) mt2 (bs_i q2) bo (bs_i q4)) s.heap := hP
  have hl := lv_entry ([.ref h0]) (n := 1) (Nat.le_of_ble_eq_true rfl)
  rw [lg_entry_eq]
  generalize (lg_sl ([.ref h0]) ++ List.replicate (1 - (lg_sl ([.ref h0])).length) Slot.unset).toArray = ls at hl ⊢
  have hl : lv_has ls 1 [(0, .ref h0)] := hl
  refine lv_aload_n hx hb d_F_loops_0 rfl (lv_at hl 0 rfl) ?_
  have hPc := hP.sub (ws' := fn_ws cJ cI h0 h1 n1 a1 e1 l1 b1 t1 h2 n2 a2 e2 l2 b2 t2 h4 c4 (nI n) (nI (sp_lc n L)) L ab en lf bl tr (nI n) (nI r) mt (bs_i q1) (gf_T n L) ab2 en2 lf2 bl2 tr2 (nI n) (nI x) mt2 (bs_i q2) bo (bs_i q4)) [0, 1, 2, 3, 4, 5, 6, 7, 8, 9, 10, 11, 12, 13, 14, 15, 16] rfl
  have hDc := hD.sub (ws' := fn_ws cJ cI h0 h1 n1 a1 e1 l1 b1 t1 h2 n2 a2 e2 l2 b2 t2 h4 c4 (nI n) (nI (sp_lc n L)) L ab en lf bl tr (nI n) (nI r) mt (bs_i q1) (gf_T n L) ab2 en2 lf2 bl2 tr2 (nI n) (nI x) mt2 (bs_i q2) bo (bs_i q4)) [0, 1, 2, 3, 4, 5, 6, 7, 8, 9, 10, 11, 12, 13, 14, 15, 16] (by decide) rfl
  have hFc := va_free (wc := fn_ws cJ cI h0 h1 n1 a1 e1 l1 b1 t1 h2 n2 a2 e2 l2 b2 t2 h4 c4 (nI n) (nI (sp_lc n L)) L ab en lf bl tr (nI n) (nI r) mt (bs_i q1) (gf_T n L) ab2 en2 lf2 bl2 tr2 (nI n) (nI x) mt2 (bs_i q2) bo (bs_i q4)) hD hS hA [0, 1, 2, 3, 4, 5, 6, 7, 8, 9, 10, 11, 12, 13, 14, 15, 16] rfl
  refine va_callr (va_runV (C := "FlowNest") (b := h0) (As := []) (rest := []) ⟨hx, hb, hml, hown, hts⟩ (c_F_nested l dC dI cJ cI h0 h1 n1 a1 e1 l1 b1 t1 h2 n2 a2 e2 l2 b2 t2 h4 c4 s.heap.size ab en lf bl tr mt ab2 en2 lf2 bl2 tr2 mt2 bo n r x L q1 q2 q4 hn hL hI1 hI2 hI4) (cwV 0 hts (nm_gV nm_157 nm_159 nm_s_F_nested nm_1 nm_c_F_nested) rfl rfl rfl (by decide +kernel) ⟨Nat.le_of_ble_eq_true rfl, Nat.le_of_ble_eq_true rfl⟩) ⟨cw_blindM, va_recv hK hP (ci := 2) rfl (q0 := 0) rfl, cw_preM hPc hDc hK hNw⟩ rfl rfl hl.1 rfl (lv_room (Nat.le_of_ble_eq_true rfl)) d_F_loops_1 ⟨Nat.zero_le _, Nat.zero_le _⟩) hS (fun q _ h => hFc q h) hFc (fun u9 ra t H1 locs ht hvm hw2 hB hz1 hk1 hS => ?_)
  obtain ⟨ab3, en4, lf5, bl6, tr7, mt8, bo9⟩ := u9
  obtain ⟨hra, hP1, hD1⟩ := hB
  replace hra := hra.symm
  subst hra
  rw [ht] at hP1
  obtain ⟨hP, hD⟩ := va_join (wr := ([] : List Nat).filterMap (fun (i : Nat) => (fn_ws cJ cI h0 h1 n1 a1 e1 l1 b1 t1 h2 n2 a2 e2 l2 b2 t2 h4 c4 (nI n) (nI (sp_lc n L)) L ab en lf bl tr (nI n) (nI r) mt (bs_i q1) (gf_T n L) ab2 en2 lf2 bl2 tr2 (nI n) (nI x) mt2 (bs_i q2) bo (bs_i q4))[i]?)) (w1 := fn_ws cJ cI h0 h1 n1 a1 e1 l1 b1 t1 h2 n2 a2 e2 l2 b2 t2 h4 c4 (nI n) (nI (sp_lc n L)) L ab3 en4 lf5 bl6 tr7 (nI n) (nI r) mt8 (nI 0) (gf_T n L) ab2 en2 lf2 bl2 tr2 (nI n) (nI x) mt2 (bs_i q2) bo9 (nI 0)) hP hD [0, 1, 2, 3, 4, 5, 6, 7, 8, 9, 10, 11, 12, 13, 14, 15, 16] [] rfl rfl (by decide) (by decide) hk1 hFc hP1 hD1
  generalize H1 = H at hP hS ⊢
  have hP : va_P (dC, dI) vwCl (fn_ws cJ cI h0 h1 n1 a1 e1 l1 b1 t1 h2 n2 a2 e2 l2 b2 t2 h4 c4 (nI n) (nI (sp_lc n L)) L ab3 en4 lf5 bl6 tr7 (nI n) (nI r) mt8 (nI 0) (gf_T n L) ab2 en2 lf2 bl2 tr2 (nI n) (nI x) mt2 (bs_i q2) bo9 (nI 0)) H := hP.sub (ws' := fn_ws cJ cI h0 h1 n1 a1 e1 l1 b1 t1 h2 n2 a2 e2 l2 b2 t2 h4 c4 (nI n) (nI (sp_lc n L)) L ab3 en4 lf5 bl6 tr7 (nI n) (nI r) mt8 (nI 0) (gf_T n L) ab2 en2 lf2 bl2 tr2 (nI n) (nI x) mt2 (bs_i q2) bo9 (nI 0)) [0, 1, 2, 3, 4, 5, 6, 7, 8, 9, 10, 11, 12, 13, 14, 15, 16] rfl
  have hD : va_D A (fn_ws cJ cI h0 h1 n1 a1 e1 l1 b1 t1 h2 n2 a2 e2 l2 b2 t2 h4 c4 (nI n) (nI (sp_lc n L)) L ab3 en4 lf5 bl6 tr7 (nI n) (nI r) mt8 (nI 0) (gf_T n L) ab2 en2 lf2 bl2 tr2 (nI n) (nI x) mt2 (bs_i q2) bo9 (nI 0)) := hD.sub (ws' := fn_ws cJ cI h0 h1 n1 a1 e1 l1 b1 t1 h2 n2 a2 e2 l2 b2 t2 h4 c4 (nI n) (nI (sp_lc n L)) L ab3 en4 lf5 bl6 tr7 (nI n) (nI r) mt8 (nI 0) (gf_T n L) ab2 en2 lf2 bl2 tr2 (nI n) (nI x) mt2 (bs_i q2) bo9 (nI 0)) [0, 1, 2, 3, 4, 5, 6, 7, 8, 9, 10, 11, 12, 13, 14, 15, 16] (by decide) rfl
  obtain ⟨hi10, hi11⟩ := hw2
  refine lv_aload_n hx hb d_F_loops_4 rfl (lv_at hl 0 rfl) ?_
  refine va_get (D := (dC, dI)) (ci := 2) (v := .int (nI n)) (C := "FlowNest") (T := T_F) (N := 5) hx hb hts nm_iF hown hK hP 0 rfl rfl 3 (by decide) (hts _ (List.mem_cons_of_mem _ nm_86)) (fun _ h9 => h9) rfl d_F_loops_5 ?_
  refine vp_callSi (va_Run.run (va_runV (C := "FlowNest$Nest") (b := h4) (As := [.int (nI n)]) (rest := []) ⟨hx, hb, hml, hown, hts⟩ (c_N_count l dC dI cJ cI h4 c4 bo9 (nI 0) n hn) (cwV 1 hts (nm_gV nm_175 nm_176 nm_177 nm_3 nm_c_N_count) rfl rfl rfl (by decide +kernel) ⟨Nat.le_of_ble_eq_true rfl, Nat.le_of_ble_eq_true rfl⟩) ⟨cw_blind, va_recv hK hP (ci := 0) rfl (q0 := 15) rfl, cw_pre (hP.sub (ws' := ns_ws cJ cI h4 c4 bo9 (nI 0)) [15, 16] rfl) hK hNw⟩ rfl rfl hl.1 rfl (lv_room (Nat.le_of_ble_eq_true rfl)) d_F_loops_8 ⟨Nat.zero_le _, Nat.zero_le _⟩)) (fun r12 hr13 => ?_)
  exact W.iret (v := r12) hx hb hr (fun t ht hW => ⟨⟨r12, (false, ab3, en4, lf5, bl6, tr7, mt8, q2, ab2, en2, lf2, bl2, tr2, mt2, false, bo9), rfl, ⟨hi10, hI2, hi11, hr13.trans (fa_cnt hi11)⟩, by rw [ht]; exact hP, hD⟩, hS.F ht⟩) hS.2.2 d_F_loops_11
set_option maxHeartbeats 4000000 in
set_option maxRecDepth 100000 in
theorem c_F_isReducible (l : Launch) (dC : Nat → ClassId) (dI : Nat → Nat → Nat) (cJ cI : ClassId) (h0 h1 n1 a1 e1 l1 b1 t1 h2 n2 a2 e2 l2 b2 t2 h4 c4 hs : Nat) (ab : Nat → Int64) (en : Nat → Int32) (lf : Nat → Int32) (bl : Nat → Int32) (tr : Nat → Int32) (mt : Int64) (ab2 : Nat → Int64) (en2 : Nat → Int32) (lf2 : Nat → Int32) (bl2 : Nat → Int32) (tr2 : Nat → Int32) (mt2 : Int64) (bo : Nat → Int64) (n r x : Nat) (L : Nat → Int64) (q1 q2 q4 : Bool) (hn : n ≤ 48) (hL : ∀ u v, gf_E n L u v → v < n) (hI1 : fv_S n r L q1 ab en lf bl mt) (hI2 : fv_S n x (gf_T n L) q2 ab2 en2 lf2 bl2 mt2) (hI4 : fv_N n r L q4 bo) : Met l y_F_isReducible w_F_isReducible ({ frames := 6, cells := 0, slots := 0, locals := 138 }) (va_Pc [.ref h0] (cw_M (dC, dI) cJ cI (fn_ws cJ cI h0 h1 n1 a1 e1 l1 b1 t1 h2 n2 a2 e2 l2 b2 t2 h4 c4 (nI n) (nI (sp_lc n L)) L ab en lf bl tr (nI n) (nI r) mt (bs_i q1) (gf_T n L) ab2 en2 lf2 bl2 tr2 (nI n) (nI x) mt2 (bs_i q2) bo (bs_i q4)) hs)) (va_Qi (fun (r9 : Int32) (u9 : Bool × (Nat → Int64) × (Nat → Int32) × (Nat → Int32) × (Nat → Int32) × (Nat → Int32) × Int64 × Bool × (Nat → Int64) × (Nat → Int32) × (Nat → Int32) × (Nat → Int32) × (Nat → Int32) × Int64 × Bool × (Nat → Int64)) => match u9 with | (p9, ab9, en9, lf9, bl9, tr9, mt9, s9, yb9, yn9, yf9, yl9, yr9, ym9, w9, bo9) => fv_S n r L p9 ab9 en9 lf9 bl9 mt9 ∧ fv_S n x (gf_T n L) s9 yb9 yn9 yf9 yl9 ym9 ∧ fv_N n r L w9 bo9 ∧ (n = 0 → r9 = nI 1) ∧ (0 < n → r9 = bs_i (gf_d (sp_Red n L r)))) (fun (u9 : Bool × (Nat → Int64) × (Nat → Int32) × (Nat → Int32) × (Nat → Int32) × (Nat → Int32) × Int64 × Bool × (Nat → Int64) × (Nat → Int32) × (Nat → Int32) × (Nat → Int32) × (Nat → Int32) × Int64 × Bool × (Nat → Int64)) (t : State) => match u9 with | (p9, ab9, en9, lf9, bl9, tr9, mt9, s9, yb9, yn9, yf9, yl9, yr9, ym9, w9, bo9) => va_P (dC, dI) vwCl (fn_ws cJ cI h0 h1 n1 a1 e1 l1 b1 t1 h2 n2 a2 e2 l2 b2 t2 h4 c4 (nI n) (nI (sp_lc n L)) L ab9 en9 lf9 bl9 tr9 (nI n) (nI r) mt9 (bs_i p9) (gf_T n L) yb9 yn9 yf9 yl9 yr9 (nI n) (nI x) ym9 (bs_i s9) bo9 (bs_i w9)) t.heap ∧ va_D (va_A (fn_ws cJ cI h0 h1 n1 a1 e1 l1 b1 t1 h2 n2 a2 e2 l2 b2 t2 h4 c4 (nI n) (nI (sp_lc n L)) L ab en lf bl tr (nI n) (nI r) mt (bs_i q1) (gf_T n L) ab2 en2 lf2 bl2 tr2 (nI n) (nI x) mt2 (bs_i q2) bo (bs_i q4)) hs) (fn_ws cJ cI h0 h1 n1 a1 e1 l1 b1 t1 h2 n2 a2 e2 l2 b2 t2 h4 c4 (nI n) (nI (sp_lc n L)) L ab9 en9 lf9 bl9 tr9 (nI n) (nI r) mt9 (bs_i p9) (gf_T n L) yb9 yn9 yf9 yl9 yr9 (nI n) (nI x) ym9 (bs_i s9) bo9 (bs_i w9))) (va_A (fn_ws cJ cI h0 h1 n1 a1 e1 l1 b1 t1 h2 n2 a2 e2 l2 b2 t2 h4 c4 (nI n) (nI (sp_lc n L)) L ab en lf bl tr (nI n) (nI r) mt (bs_i q1) (gf_T n L) ab2 en2 lf2 bl2 tr2 (nI n) (nI x) mt2 (bs_i q2) bo (bs_i q4)) hs)) 0 0 (va_A (fn_ws cJ cI h0 h1 n1 a1 e1 l1 b1 t1 h2 n2 a2 e2 l2 b2 t2 h4 c4 (nI n) (nI (sp_lc n L)) L ab en lf bl tr (nI n) (nI r) mt (bs_i q1) (gf_T n L) ab2 en2 lf2 bl2 tr2 (nI n) (nI x) mt2 (bs_i q2) bo (bs_i q4)) hs) := by
  refine Met.ofW (cc := b_F_isReducible) (maxL := 1) (ret := (some .boolean)) (by decide) rfl ?_
  intro p e s m args below meth c s₁ B hml hv9
  obtain ⟨rfl, hsz, ⟨hP, hK, hNw⟩, hD0⟩ := hv9
  have hx := B.exec
  have hb := B.bytes
  have hr := B.returns
  have hts := atoms_spec (ws := w_F_isReducible) B.pre
  have hown : s.vm.findClass "FlowNest" = some m.cls := findClass_of_methodNamed B.named
  have hlocks := B.notSynchronized
  subst hsz
  have hD := hD0.self (sz := s.heap.size)
  generalize hAe : va_A (fn_ws cJ cI h0 h1 n1 a1 e1 l1 b1 t1 h2 n2 a2 e2 l2 b2 t2 h4 c4 (nI n) (nI (sp_lc n L)) L ab en lf bl tr (nI n) (nI r) mt (bs_i q1) (gf_T n L) ab2 en2 lf2 bl2 tr2 (nI n) (nI x) mt2 (bs_i q2) bo (bs_i q4)) s.heap.size = A at hD ⊢
  have hA : ∀ q : Nat, s.heap.size ≤ q → A q := fun q h => by rw [← hAe]; exact Or.inr h
  have hS : va_S A s.heap s.heap [] := va_S.rf
  have hP : va_P (dC, dI) vwCl (fn_ws cJ cI h0 h1 n1 a1 e1 l1 b1 t1 h2 n2 a2 e2 l2 b2 t2 h4 c4 (nI n) (nI (sp_lc n L)) L ab en lf bl tr (nI n) (nI r) mt (bs_i q1) (gf_T n L) ab2 en2 lf2 bl2 tr2 (nI n) (nI x) mt2 (bs_i q2) bo (bs_i q4)) s.heap := hP
  have hl := lv_entry ([.ref h0]) (n := 1) (Nat.le_of_ble_eq_true rfl)
  rw [lg_entry_eq]
  generalize (lg_sl ([.ref h0]) ++ List.replicate (1 - (lg_sl ([.ref h0])).length) Slot.unset).toArray = ls at hl ⊢
  have hl : lv_has ls 1 [(0, .ref h0)] := hl
  refine lv_aload_n hx hb d_F_isReducible_0 rfl (lv_at hl 0 rfl) ?_
  refine lv_iconst (v := nI 0) hx hb d_F_isReducible_1 (by decide) ?_
  have hPc := hP.sub (ws' := fn_ws cJ cI h0 h1 n1 a1 e1 l1 b1 t1 h2 n2 a2 e2 l2 b2 t2 h4 c4 (nI n) (nI (sp_lc n L)) L ab en lf bl tr (nI n) (nI r) mt (bs_i q1) (gf_T n L) ab2 en2 lf2 bl2 tr2 (nI n) (nI x) mt2 (bs_i q2) bo (bs_i q4)) [0, 1, 2, 3, 4, 5, 6, 7, 8, 9, 10, 11, 12, 13, 14, 15, 16] rfl
  have hDc := hD.sub (ws' := fn_ws cJ cI h0 h1 n1 a1 e1 l1 b1 t1 h2 n2 a2 e2 l2 b2 t2 h4 c4 (nI n) (nI (sp_lc n L)) L ab en lf bl tr (nI n) (nI r) mt (bs_i q1) (gf_T n L) ab2 en2 lf2 bl2 tr2 (nI n) (nI x) mt2 (bs_i q2) bo (bs_i q4)) [0, 1, 2, 3, 4, 5, 6, 7, 8, 9, 10, 11, 12, 13, 14, 15, 16] (by decide) rfl
  have hFc := va_free (wc := fn_ws cJ cI h0 h1 n1 a1 e1 l1 b1 t1 h2 n2 a2 e2 l2 b2 t2 h4 c4 (nI n) (nI (sp_lc n L)) L ab en lf bl tr (nI n) (nI r) mt (bs_i q1) (gf_T n L) ab2 en2 lf2 bl2 tr2 (nI n) (nI x) mt2 (bs_i q2) bo (bs_i q4)) hD hS hA [0, 1, 2, 3, 4, 5, 6, 7, 8, 9, 10, 11, 12, 13, 14, 15, 16] rfl
  refine va_callr (va_runV (C := "FlowNest") (b := h0) (As := [.int (nI 0)]) (rest := []) ⟨hx, hb, hml, hown, hts⟩ (c_F_worked_0 l dC dI cJ cI h0 h1 n1 a1 e1 l1 b1 t1 h2 n2 a2 e2 l2 b2 t2 h4 c4 s.heap.size ab en lf bl tr mt ab2 en2 lf2 bl2 tr2 mt2 bo n r x L q1 q2 q4 hn hL hI1 hI2 hI4) (cwV 1 hts (nm_gV nm_103 nm_105 nm_s_F_worked nm_1 nm_c_F_worked) rfl rfl rfl (by decide +kernel) ⟨Nat.le_of_ble_eq_true rfl, Nat.le_of_ble_eq_true rfl⟩) ⟨cw_blindM, va_recv hK hP (ci := 2) rfl (q0 := 0) rfl, cw_preM hPc hDc hK hNw⟩ rfl rfl hl.1 rfl (lv_room (Nat.le_of_ble_eq_true rfl)) d_F_isReducible_2 ⟨Nat.zero_le _, Nat.zero_le _⟩) hS (fun q _ h => hFc q h) hFc (fun u9 ra t H1 locs ht hvm hw2 hB hz1 hk1 hS => ?_)
  obtain ⟨ab3, en4, lf5, bl6, tr7, mt8⟩ := u9
  obtain ⟨hra, hP1, hD1⟩ := hB
  replace hra := hra.symm
  subst hra
  rw [ht] at hP1
  obtain ⟨hP, hD⟩ := va_join (wr := ([] : List Nat).filterMap (fun (i : Nat) => (fn_ws cJ cI h0 h1 n1 a1 e1 l1 b1 t1 h2 n2 a2 e2 l2 b2 t2 h4 c4 (nI n) (nI (sp_lc n L)) L ab en lf bl tr (nI n) (nI r) mt (bs_i q1) (gf_T n L) ab2 en2 lf2 bl2 tr2 (nI n) (nI x) mt2 (bs_i q2) bo (bs_i q4))[i]?)) (w1 := fn_ws cJ cI h0 h1 n1 a1 e1 l1 b1 t1 h2 n2 a2 e2 l2 b2 t2 h4 c4 (nI n) (nI (sp_lc n L)) L ab3 en4 lf5 bl6 tr7 (nI n) (nI r) mt8 (nI 0) (gf_T n L) ab2 en2 lf2 bl2 tr2 (nI n) (nI x) mt2 (bs_i q2) bo (bs_i q4)) hP hD [0, 1, 2, 3, 4, 5, 6, 7, 8, 9, 10, 11, 12, 13, 14, 15, 16] [] rfl rfl (by decide) (by decide) hk1 hFc hP1 hD1
  generalize H1 = H at hP hS ⊢
  have hP : va_P (dC, dI) vwCl (fn_ws cJ cI h0 h1 n1 a1 e1 l1 b1 t1 h2 n2 a2 e2 l2 b2 t2 h4 c4 (nI n) (nI (sp_lc n L)) L ab3 en4 lf5 bl6 tr7 (nI n) (nI r) mt8 (nI 0) (gf_T n L) ab2 en2 lf2 bl2 tr2 (nI n) (nI x) mt2 (bs_i q2) bo (bs_i q4)) H := hP.sub (ws' := fn_ws cJ cI h0 h1 n1 a1 e1 l1 b1 t1 h2 n2 a2 e2 l2 b2 t2 h4 c4 (nI n) (nI (sp_lc n L)) L ab3 en4 lf5 bl6 tr7 (nI n) (nI r) mt8 (nI 0) (gf_T n L) ab2 en2 lf2 bl2 tr2 (nI n) (nI x) mt2 (bs_i q2) bo (bs_i q4)) [0, 1, 2, 3, 4, 5, 6, 7, 8, 9, 10, 11, 12, 13, 14, 15, 16] rfl
  have hD : va_D A (fn_ws cJ cI h0 h1 n1 a1 e1 l1 b1 t1 h2 n2 a2 e2 l2 b2 t2 h4 c4 (nI n) (nI (sp_lc n L)) L ab3 en4 lf5 bl6 tr7 (nI n) (nI r) mt8 (nI 0) (gf_T n L) ab2 en2 lf2 bl2 tr2 (nI n) (nI x) mt2 (bs_i q2) bo (bs_i q4)) := hD.sub (ws' := fn_ws cJ cI h0 h1 n1 a1 e1 l1 b1 t1 h2 n2 a2 e2 l2 b2 t2 h4 c4 (nI n) (nI (sp_lc n L)) L ab3 en4 lf5 bl6 tr7 (nI n) (nI r) mt8 (nI 0) (gf_T n L) ab2 en2 lf2 bl2 tr2 (nI n) (nI x) mt2 (bs_i q2) bo (bs_i q4)) [0, 1, 2, 3, 4, 5, 6, 7, 8, 9, 10, 11, 12, 13, 14, 15, 16] (by decide) rfl
  refine vp_callSi (va_Run.run (va_runV (C := "FlowNest$Side") (b := h1) (As := []) (rest := []) ⟨hx, hb, hml, hown, hts⟩ (c_S_ringsGoBack l dC dI cJ cI h1 n1 a1 e1 l1 b1 t1 L ab3 en4 lf5 bl6 tr7 mt8 (nI 0) n r hn (fv_S_g hw2) (fun e => (hw2.1 e).2)) (cwV 0 hts (nm_gV nm_183 nm_184 nm_185 nm_2 nm_c_S_ringsGoBack) rfl rfl rfl (by decide +kernel) ⟨Nat.le_of_ble_eq_true rfl, Nat.le_of_ble_eq_true rfl⟩) ⟨cw_blind, va_recv hK hP (ci := 1) rfl (q0 := 1) rfl, cw_pre (hP.sub (ws' := sd_ws cJ cI h1 n1 a1 e1 l1 b1 t1 L ab3 en4 lf5 bl6 tr7 (nI n) (nI r) mt8 (nI 0)) [1, 2, 3, 4, 5, 6, 7] rfl) hK hNw⟩ rfl rfl hl.1 rfl (lv_room (Nat.le_of_ble_eq_true rfl)) d_F_isReducible_5 ⟨Nat.zero_le _, Nat.zero_le _⟩)) (fun r9 hr10 => ?_)
  obtain ⟨z9, hz9⟩ : ∃ z : Bool, r9 = bs_i z := by
    rcases Nat.eq_zero_or_pos n with e | e
    · exact ⟨true, hr10.1 e⟩
    · exact ⟨_, hr10.2 e⟩
  exact W.zret (v := r9) hx hb hr (by rw [hz9]; cases z9 <;> rfl) (fun t ht hW => ⟨⟨r9, (false, ab3, en4, lf5, bl6, tr7, mt8, q2, ab2, en2, lf2, bl2, tr2, mt2, q4, bo), rfl, ⟨hw2, hI2, hI4, hr10⟩, by rw [ht]; exact hP, hD⟩, hS.F ht⟩) hS.2.2 d_F_isReducible_8
set_option maxHeartbeats 4000000 in
set_option maxRecDepth 100000 in
theorem c_F_told (l : Launch) (dC : Nat → ClassId) (dI : Nat → Nat → Nat) (cJ cI : ClassId) (h0 h1 n1 a1 e1 l1 b1 t1 h2 n2 a2 e2 l2 b2 t2 h4 c4 hs : Nat) (ab : Nat → Int64) (en : Nat → Int32) (lf : Nat → Int32) (bl : Nat → Int32) (tr : Nat → Int32) (mt : Int64) (ab2 : Nat → Int64) (en2 : Nat → Int32) (lf2 : Nat → Int32) (bl2 : Nat → Int32) (tr2 : Nat → Int32) (mt2 : Int64) (bo : Nat → Int64) (n r x : Nat) (L : Nat → Int64) (q1 q2 q4 : Bool) (what : Int32) (hn : n ≤ 48) (hL : ∀ u v, gf_E n L u v → v < n) (hI1 : fv_S n r L q1 ab en lf bl mt) (hI2 : fv_S n x (gf_T n L) q2 ab2 en2 lf2 bl2 mt2) (hI4 : fv_N n r L q4 bo) : Met l y_F_told w_F_told ({ frames := 6, cells := 0, slots := 0, locals := 138 }) (va_Pc [.ref h0, .int what] (cw_M (dC, dI) cJ cI (fn_ws cJ cI h0 h1 n1 a1 e1 l1 b1 t1 h2 n2 a2 e2 l2 b2 t2 h4 c4 (nI n) (nI (sp_lc n L)) L ab en lf bl tr (nI n) (nI r) mt (bs_i q1) (gf_T n L) ab2 en2 lf2 bl2 tr2 (nI n) (nI x) mt2 (bs_i q2) bo (bs_i q4)) hs)) (va_Qi (fun (r9 : Int32) (u9 : Bool × (Nat → Int64) × (Nat → Int32) × (Nat → Int32) × (Nat → Int32) × (Nat → Int32) × Int64 × Bool × (Nat → Int64) × (Nat → Int32) × (Nat → Int32) × (Nat → Int32) × (Nat → Int32) × Int64 × Bool × (Nat → Int64)) => match u9 with | (p9, ab9, en9, lf9, bl9, tr9, mt9, s9, yb9, yn9, yf9, yl9, yr9, ym9, w9, bo9) => fv_S n r L p9 ab9 en9 lf9 bl9 mt9 ∧ fv_S n x (gf_T n L) s9 yb9 yn9 yf9 yl9 ym9 ∧ fv_N n r L w9 bo9 ∧ sp_told n r x L (ft_e n r) (ft_e n x) what r9) (fun (u9 : Bool × (Nat → Int64) × (Nat → Int32) × (Nat → Int32) × (Nat → Int32) × (Nat → Int32) × Int64 × Bool × (Nat → Int64) × (Nat → Int32) × (Nat → Int32) × (Nat → Int32) × (Nat → Int32) × Int64 × Bool × (Nat → Int64)) (t : State) => match u9 with | (p9, ab9, en9, lf9, bl9, tr9, mt9, s9, yb9, yn9, yf9, yl9, yr9, ym9, w9, bo9) => va_P (dC, dI) vwCl (fn_ws cJ cI h0 h1 n1 a1 e1 l1 b1 t1 h2 n2 a2 e2 l2 b2 t2 h4 c4 (nI n) (nI (sp_lc n L)) L ab9 en9 lf9 bl9 tr9 (nI n) (nI r) mt9 (bs_i p9) (gf_T n L) yb9 yn9 yf9 yl9 yr9 (nI n) (nI x) ym9 (bs_i s9) bo9 (bs_i w9)) t.heap ∧ va_D (va_A (fn_ws cJ cI h0 h1 n1 a1 e1 l1 b1 t1 h2 n2 a2 e2 l2 b2 t2 h4 c4 (nI n) (nI (sp_lc n L)) L ab en lf bl tr (nI n) (nI r) mt (bs_i q1) (gf_T n L) ab2 en2 lf2 bl2 tr2 (nI n) (nI x) mt2 (bs_i q2) bo (bs_i q4)) hs) (fn_ws cJ cI h0 h1 n1 a1 e1 l1 b1 t1 h2 n2 a2 e2 l2 b2 t2 h4 c4 (nI n) (nI (sp_lc n L)) L ab9 en9 lf9 bl9 tr9 (nI n) (nI r) mt9 (bs_i p9) (gf_T n L) yb9 yn9 yf9 yl9 yr9 (nI n) (nI x) ym9 (bs_i s9) bo9 (bs_i w9))) (va_A (fn_ws cJ cI h0 h1 n1 a1 e1 l1 b1 t1 h2 n2 a2 e2 l2 b2 t2 h4 c4 (nI n) (nI (sp_lc n L)) L ab en lf bl tr (nI n) (nI r) mt (bs_i q1) (gf_T n L) ab2 en2 lf2 bl2 tr2 (nI n) (nI x) mt2 (bs_i q2) bo (bs_i q4)) hs)) 0 0 (va_A (fn_ws cJ cI h0 h1 n1 a1 e1 l1 b1 t1 h2 n2 a2 e2 l2 b2 t2 h4 c4 (nI n) (nI (sp_lc n L)) L ab en lf bl tr (nI n) (nI r) mt (bs_i q1) (gf_T n L) ab2 en2 lf2 bl2 tr2 (nI n) (nI x) mt2 (bs_i q2) bo (bs_i q4)) hs) := by
  refine Met.ofW (cc := b_F_told) (maxL := 2) (ret := (some .int)) (by decide) rfl ?_
  intro p e s m args below meth c s₁ B hml hv9
  obtain ⟨rfl, hsz, ⟨hP, hK, hNw⟩, hD0⟩ := hv9
  have hx := B.exec
  have hb := B.bytes
  have hr := B.returns
  have hts := atoms_spec (ws := w_F_told) B.pre
  have hown : s.vm.findClass "FlowNest" = some m.cls := findClass_of_methodNamed B.named
  have hlocks := B.notSynchronized
  subst hsz
  have hD := hD0.self (sz := s.heap.size)
  generalize hAe : va_A (fn_ws cJ cI h0 h1 n1 a1 e1 l1 b1 t1 h2 n2 a2 e2 l2 b2 t2 h4 c4 (nI n) (nI (sp_lc n L)) L ab en lf bl tr (nI n) (nI r) mt (bs_i q1) (gf_T n L) ab2 en2 lf2 bl2 tr2 (nI n) (nI x) mt2 (bs_i q2) bo (bs_i q4)) s.heap.size = A at hD ⊢
  have hA : ∀ q : Nat, s.heap.size ≤ q → A q := fun q h => by rw [← hAe]; exact Or.inr h
  have hS : va_S A s.heap s.heap [] := va_S.rf
  have hP : va_P (dC, dI) vwCl (fn_ws cJ cI h0 h1 n1 a1 e1 l1 b1 t1 h2 n2 a2 e2 l2 b2 t2 h4 c4 (nI n) (nI (sp_lc n L)) L ab en lf bl tr (nI n) (nI r) mt (bs_i q1) (gf_T n L) ab2 en2 lf2 bl2 tr2 (nI n) (nI x) mt2 (bs_i q2) bo (bs_i q4)) s.heap := hP
  have hl := lv_entry ([.ref h0, .int what]) (n := 2) (Nat.le_of_ble_eq_true rfl)
  rw [lg_entry_eq]
  generalize (lg_sl ([.ref h0, .int what]) ++ List.replicate (2 - (lg_sl ([.ref h0, .int what])).length) Slot.unset).toArray = ls at hl ⊢
  have hl : lv_has ls 2 [(0, .ref h0), (1, .int what)] := hl
  refine lv_iload_n hx hb d_F_told_0 rfl (lv_at hl 1 rfl) ?_
  by_cases hy0 : what = nI 0
  · subst hy0
    refine lv_tableIn (off := 39) (tgt := 40) hx hb d_F_told_1 (by decide) (by decide) (by decide) (by decide) ?_
    refine lv_aload_n hx hb d_F_told_40 rfl (lv_at hl 0 rfl) ?_
    refine va_get (D := (dC, dI)) (ci := 2) (v := .int (nI n)) (C := "FlowNest") (T := T_F) (N := 5) hx hb hts nm_iF hown hK hP 0 rfl rfl 3 (by decide) (hts _ (List.mem_cons_of_mem _ nm_86)) (fun _ h9 => h9) rfl d_F_told_41 ?_
    exact W.iret (v := nI n) hx hb hr (fun t ht hW => ⟨⟨(nI n), (q1, ab, en, lf, bl, tr, mt, q2, ab2, en2, lf2, bl2, tr2, mt2, q4, bo), rfl, ⟨hI1, hI2, hI4, tl_0 rfl⟩, by rw [ht]; exact hP, hD⟩, hS.F ht⟩) hS.2.2 d_F_told_44
  by_cases hy1 : what = nI 1
  · subst hy1
    refine lv_tableIn (off := 44) (tgt := 45) hx hb d_F_told_1 (by decide) (by decide) (by decide) (by decide) ?_
    refine lv_aload_n hx hb d_F_told_45 rfl (lv_at hl 0 rfl) ?_
    refine va_get (D := (dC, dI)) (ci := 2) (v := .int (nI (sp_lc n L))) (C := "FlowNest") (T := T_F) (N := 5) hx hb hts nm_iF hown hK hP 0 rfl rfl 4 (by decide) (hts _ (List.mem_cons_of_mem _ nm_87)) (fun _ h9 => h9) rfl d_F_told_46 ?_
    exact W.iret (v := nI (sp_lc n L)) hx hb hr (fun t ht hW => ⟨⟨(nI (sp_lc n L)), (q1, ab, en, lf, bl, tr, mt, q2, ab2, en2, lf2, bl2, tr2, mt2, q4, bo), rfl, ⟨hI1, hI2, hI4, tl_1 rfl⟩, by rw [ht]; exact hP, hD⟩, hS.F ht⟩) hS.2.2 d_F_told_49
  by_cases hy2 : what = nI 2
  · subst hy2
    refine lv_tableIn (off := 49) (tgt := 50) hx hb d_F_told_1 (by decide) (by decide) (by decide) (by decide) ?_
    refine lv_aload_n hx hb d_F_told_50 rfl (lv_at hl 0 rfl) ?_
    refine lv_iconst (v := nI 0) hx hb d_F_told_51 (by decide) ?_
    have hPc := hP.sub (ws' := fn_ws cJ cI h0 h1 n1 a1 e1 l1 b1 t1 h2 n2 a2 e2 l2 b2 t2 h4 c4 (nI n) (nI (sp_lc n L)) L ab en lf bl tr (nI n) (nI r) mt (bs_i q1) (gf_T n L) ab2 en2 lf2 bl2 tr2 (nI n) (nI x) mt2 (bs_i q2) bo (bs_i q4)) [0, 1, 2, 3, 4, 5, 6, 7, 8, 9, 10, 11, 12, 13, 14, 15, 16] rfl
    have hDc := hD.sub (ws' := fn_ws cJ cI h0 h1 n1 a1 e1 l1 b1 t1 h2 n2 a2 e2 l2 b2 t2 h4 c4 (nI n) (nI (sp_lc n L)) L ab en lf bl tr (nI n) (nI r) mt (bs_i q1) (gf_T n L) ab2 en2 lf2 bl2 tr2 (nI n) (nI x) mt2 (bs_i q2) bo (bs_i q4)) [0, 1, 2, 3, 4, 5, 6, 7, 8, 9, 10, 11, 12, 13, 14, 15, 16] (by decide) rfl
    have hFc := va_free (wc := fn_ws cJ cI h0 h1 n1 a1 e1 l1 b1 t1 h2 n2 a2 e2 l2 b2 t2 h4 c4 (nI n) (nI (sp_lc n L)) L ab en lf bl tr (nI n) (nI r) mt (bs_i q1) (gf_T n L) ab2 en2 lf2 bl2 tr2 (nI n) (nI x) mt2 (bs_i q2) bo (bs_i q4)) hD hS hA [0, 1, 2, 3, 4, 5, 6, 7, 8, 9, 10, 11, 12, 13, 14, 15, 16] rfl
    refine va_callr (va_runV (C := "FlowNest") (b := h0) (As := [.int (nI 0)]) (rest := []) ⟨hx, hb, hml, hown, hts⟩ (c_F_worked_0 l dC dI cJ cI h0 h1 n1 a1 e1 l1 b1 t1 h2 n2 a2 e2 l2 b2 t2 h4 c4 s.heap.size ab en lf bl tr mt ab2 en2 lf2 bl2 tr2 mt2 bo n r x L q1 q2 q4 hn hL hI1 hI2 hI4) (cwV 1 hts (nm_gV nm_103 nm_105 nm_s_F_worked nm_1 nm_c_F_worked) rfl rfl rfl (by decide +kernel) ⟨Nat.le_of_ble_eq_true rfl, Nat.le_of_ble_eq_true rfl⟩) ⟨cw_blindM, va_recv hK hP (ci := 2) rfl (q0 := 0) rfl, cw_preM hPc hDc hK hNw⟩ rfl rfl hl.1 rfl (lv_room (Nat.le_of_ble_eq_true rfl)) d_F_told_52 ⟨Nat.zero_le _, Nat.zero_le _⟩) hS (fun q _ h => hFc q h) hFc (fun u9 ra t H1 locs ht hvm hw2 hB hz1 hk1 hS => ?_)
    obtain ⟨ab3, en4, lf5, bl6, tr7, mt8⟩ := u9
    obtain ⟨hra, hP1, hD1⟩ := hB
    replace hra := hra.symm
    subst hra
    rw [ht] at hP1
    obtain ⟨hP, hD⟩ := va_join (wr := ([] : List Nat).filterMap (fun (i : Nat) => (fn_ws cJ cI h0 h1 n1 a1 e1 l1 b1 t1 h2 n2 a2 e2 l2 b2 t2 h4 c4 (nI n) (nI (sp_lc n L)) L ab en lf bl tr (nI n) (nI r) mt (bs_i q1) (gf_T n L) ab2 en2 lf2 bl2 tr2 (nI n) (nI x) mt2 (bs_i q2) bo (bs_i q4))[i]?)) (w1 := fn_ws cJ cI h0 h1 n1 a1 e1 l1 b1 t1 h2 n2 a2 e2 l2 b2 t2 h4 c4 (nI n) (nI (sp_lc n L)) L ab3 en4 lf5 bl6 tr7 (nI n) (nI r) mt8 (nI 0) (gf_T n L) ab2 en2 lf2 bl2 tr2 (nI n) (nI x) mt2 (bs_i q2) bo (bs_i q4)) hP hD [0, 1, 2, 3, 4, 5, 6, 7, 8, 9, 10, 11, 12, 13, 14, 15, 16] [] rfl rfl (by decide) (by decide) hk1 hFc hP1 hD1
    generalize H1 = H at hP hS ⊢
    have hP : va_P (dC, dI) vwCl (fn_ws cJ cI h0 h1 n1 a1 e1 l1 b1 t1 h2 n2 a2 e2 l2 b2 t2 h4 c4 (nI n) (nI (sp_lc n L)) L ab3 en4 lf5 bl6 tr7 (nI n) (nI r) mt8 (nI 0) (gf_T n L) ab2 en2 lf2 bl2 tr2 (nI n) (nI x) mt2 (bs_i q2) bo (bs_i q4)) H := hP.sub (ws' := fn_ws cJ cI h0 h1 n1 a1 e1 l1 b1 t1 h2 n2 a2 e2 l2 b2 t2 h4 c4 (nI n) (nI (sp_lc n L)) L ab3 en4 lf5 bl6 tr7 (nI n) (nI r) mt8 (nI 0) (gf_T n L) ab2 en2 lf2 bl2 tr2 (nI n) (nI x) mt2 (bs_i q2) bo (bs_i q4)) [0, 1, 2, 3, 4, 5, 6, 7, 8, 9, 10, 11, 12, 13, 14, 15, 16] rfl
    have hD : va_D A (fn_ws cJ cI h0 h1 n1 a1 e1 l1 b1 t1 h2 n2 a2 e2 l2 b2 t2 h4 c4 (nI n) (nI (sp_lc n L)) L ab3 en4 lf5 bl6 tr7 (nI n) (nI r) mt8 (nI 0) (gf_T n L) ab2 en2 lf2 bl2 tr2 (nI n) (nI x) mt2 (bs_i q2) bo (bs_i q4)) := hD.sub (ws' := fn_ws cJ cI h0 h1 n1 a1 e1 l1 b1 t1 h2 n2 a2 e2 l2 b2 t2 h4 c4 (nI n) (nI (sp_lc n L)) L ab3 en4 lf5 bl6 tr7 (nI n) (nI r) mt8 (nI 0) (gf_T n L) ab2 en2 lf2 bl2 tr2 (nI n) (nI x) mt2 (bs_i q2) bo (bs_i q4)) [0, 1, 2, 3, 4, 5, 6, 7, 8, 9, 10, 11, 12, 13, 14, 15, 16] (by decide) rfl
    refine va_get (D := (dC, dI)) (ci := 1) (v := .long mt8) (C := "FlowNest$Side") (T := T_S) (N := 10) hx hb hts nm_iS hown hK hP 1 rfl rfl 8 (by decide) (hts _ (List.mem_cons_of_mem _ nm_43)) (fun _ h9 => h9) rfl d_F_told_55 ?_
    refine vp_callSi (va_Run.run (va_runS (As := [.long mt8]) (rest := []) ⟨hx, hb, hml, hown, hts⟩ (c_B_bitCount l mt8) (va_cwS 1 hts (nm_gS nm_126 nm_127 nm_11 nm_c_B_bitCount) rfl rfl rfl (by decide +kernel) ⟨Nat.le_of_ble_eq_true rfl, Nat.le_of_ble_eq_true rfl⟩) ⟨fun _ _ _ _ q => ⟨q.1, trivial⟩, fun U hU hW => ⟨rfl, trivial⟩⟩ rfl rfl hl.1 rfl (lv_room (Nat.le_of_ble_eq_true rfl)) d_F_told_58 ⟨Nat.zero_le _, Nat.zero_le _⟩)) (fun r hr => ?_)
    subst hr
    exact W.iret (v := nI (bs_c mt8)) hx hb hr (fun t ht hW => ⟨⟨(nI (bs_c mt8)), (false, ab3, en4, lf5, bl6, tr7, mt8, q2, ab2, en2, lf2, bl2, tr2, mt2, q4, bo), rfl, ⟨hw2, hI2, hI4, tl_2 (congrArg nI (fv_met (by omega) hw2))⟩, by rw [ht]; exact hP, hD⟩, hS.F ht⟩) hS.2.2 d_F_told_61
  by_cases hy3 : what = nI 3
  · subst hy3
    refine lv_tableIn (off := 61) (tgt := 62) hx hb d_F_told_1 (by decide) (by decide) (by decide) (by decide) ?_
    refine lv_aload_n hx hb d_F_told_62 rfl (lv_at hl 0 rfl) ?_
    refine lv_iconst (v := nI 1) hx hb d_F_told_63 (by decide) ?_
    have hPc := hP.sub (ws' := fn_ws cJ cI h0 h1 n1 a1 e1 l1 b1 t1 h2 n2 a2 e2 l2 b2 t2 h4 c4 (nI n) (nI (sp_lc n L)) L ab en lf bl tr (nI n) (nI r) mt (bs_i q1) (gf_T n L) ab2 en2 lf2 bl2 tr2 (nI n) (nI x) mt2 (bs_i q2) bo (bs_i q4)) [0, 1, 2, 3, 4, 5, 6, 7, 8, 9, 10, 11, 12, 13, 14, 15, 16] rfl
    have hDc := hD.sub (ws' := fn_ws cJ cI h0 h1 n1 a1 e1 l1 b1 t1 h2 n2 a2 e2 l2 b2 t2 h4 c4 (nI n) (nI (sp_lc n L)) L ab en lf bl tr (nI n) (nI r) mt (bs_i q1) (gf_T n L) ab2 en2 lf2 bl2 tr2 (nI n) (nI x) mt2 (bs_i q2) bo (bs_i q4)) [0, 1, 2, 3, 4, 5, 6, 7, 8, 9, 10, 11, 12, 13, 14, 15, 16] (by decide) rfl
    have hFc := va_free (wc := fn_ws cJ cI h0 h1 n1 a1 e1 l1 b1 t1 h2 n2 a2 e2 l2 b2 t2 h4 c4 (nI n) (nI (sp_lc n L)) L ab en lf bl tr (nI n) (nI r) mt (bs_i q1) (gf_T n L) ab2 en2 lf2 bl2 tr2 (nI n) (nI x) mt2 (bs_i q2) bo (bs_i q4)) hD hS hA [0, 1, 2, 3, 4, 5, 6, 7, 8, 9, 10, 11, 12, 13, 14, 15, 16] rfl
    refine va_callr (va_runV (C := "FlowNest") (b := h0) (As := [.int (nI 1)]) (rest := []) ⟨hx, hb, hml, hown, hts⟩ (c_F_worked_1 l dC dI cJ cI h0 h1 n1 a1 e1 l1 b1 t1 h2 n2 a2 e2 l2 b2 t2 h4 c4 s.heap.size ab en lf bl tr mt ab2 en2 lf2 bl2 tr2 mt2 bo n r x L q1 q2 q4 hn hL hI1 hI2 hI4) (cwV 1 hts (nm_gV nm_103 nm_105 nm_s_F_worked nm_1 nm_c_F_worked) rfl rfl rfl (by decide +kernel) ⟨Nat.le_of_ble_eq_true rfl, Nat.le_of_ble_eq_true rfl⟩) ⟨cw_blindM, va_recv hK hP (ci := 2) rfl (q0 := 0) rfl, cw_preM hPc hDc hK hNw⟩ rfl rfl hl.1 rfl (lv_room (Nat.le_of_ble_eq_true rfl)) d_F_told_64 ⟨Nat.zero_le _, Nat.zero_le _⟩) hS (fun q _ h => hFc q h) hFc (fun u9 ra t H1 locs ht hvm hw10 hB hz1 hk1 hS => ?_)
    obtain ⟨ab211, en212, lf213, bl214, tr215, mt216⟩ := u9
    obtain ⟨hra, hP1, hD1⟩ := hB
    replace hra := hra.symm
    subst hra
    rw [ht] at hP1
    obtain ⟨hP, hD⟩ := va_join (wr := ([] : List Nat).filterMap (fun (i : Nat) => (fn_ws cJ cI h0 h1 n1 a1 e1 l1 b1 t1 h2 n2 a2 e2 l2 b2 t2 h4 c4 (nI n) (nI (sp_lc n L)) L ab en lf bl tr (nI n) (nI r) mt (bs_i q1) (gf_T n L) ab2 en2 lf2 bl2 tr2 (nI n) (nI x) mt2 (bs_i q2) bo (bs_i q4))[i]?)) (w1 := fn_ws cJ cI h0 h1 n1 a1 e1 l1 b1 t1 h2 n2 a2 e2 l2 b2 t2 h4 c4 (nI n) (nI (sp_lc n L)) L ab en lf bl tr (nI n) (nI r) mt (bs_i q1) (gf_T n L) ab211 en212 lf213 bl214 tr215 (nI n) (nI x) mt216 (nI 0) bo (bs_i q4)) hP hD [0, 1, 2, 3, 4, 5, 6, 7, 8, 9, 10, 11, 12, 13, 14, 15, 16] [] rfl rfl (by decide) (by decide) hk1 hFc hP1 hD1
    generalize H1 = H at hP hS ⊢
    have hP : va_P (dC, dI) vwCl (fn_ws cJ cI h0 h1 n1 a1 e1 l1 b1 t1 h2 n2 a2 e2 l2 b2 t2 h4 c4 (nI n) (nI (sp_lc n L)) L ab en lf bl tr (nI n) (nI r) mt (bs_i q1) (gf_T n L) ab211 en212 lf213 bl214 tr215 (nI n) (nI x) mt216 (nI 0) bo (bs_i q4)) H := hP.sub (ws' := fn_ws cJ cI h0 h1 n1 a1 e1 l1 b1 t1 h2 n2 a2 e2 l2 b2 t2 h4 c4 (nI n) (nI (sp_lc n L)) L ab en lf bl tr (nI n) (nI r) mt (bs_i q1) (gf_T n L) ab211 en212 lf213 bl214 tr215 (nI n) (nI x) mt216 (nI 0) bo (bs_i q4)) [0, 1, 2, 3, 4, 5, 6, 7, 8, 9, 10, 11, 12, 13, 14, 15, 16] rfl
    have hD : va_D A (fn_ws cJ cI h0 h1 n1 a1 e1 l1 b1 t1 h2 n2 a2 e2 l2 b2 t2 h4 c4 (nI n) (nI (sp_lc n L)) L ab en lf bl tr (nI n) (nI r) mt (bs_i q1) (gf_T n L) ab211 en212 lf213 bl214 tr215 (nI n) (nI x) mt216 (nI 0) bo (bs_i q4)) := hD.sub (ws' := fn_ws cJ cI h0 h1 n1 a1 e1 l1 b1 t1 h2 n2 a2 e2 l2 b2 t2 h4 c4 (nI n) (nI (sp_lc n L)) L ab en lf bl tr (nI n) (nI r) mt (bs_i q1) (gf_T n L) ab211 en212 lf213 bl214 tr215 (nI n) (nI x) mt216 (nI 0) bo (bs_i q4)) [0, 1, 2, 3, 4, 5, 6, 7, 8, 9, 10, 11, 12, 13, 14, 15, 16] (by decide) rfl
    refine va_get (D := (dC, dI)) (ci := 1) (v := .long mt216) (C := "FlowNest$Side") (T := T_S) (N := 10) hx hb hts nm_iS hown hK hP 8 rfl rfl 8 (by decide) (hts _ (List.mem_cons_of_mem _ nm_43)) (fun _ h9 => h9) rfl d_F_told_67 ?_
    refine vp_callSi (va_Run.run (va_runS (As := [.long mt216]) (rest := []) ⟨hx, hb, hml, hown, hts⟩ (c_B_bitCount l mt216) (va_cwS 1 hts (nm_gS nm_126 nm_127 nm_11 nm_c_B_bitCount) rfl rfl rfl (by decide +kernel) ⟨Nat.le_of_ble_eq_true rfl, Nat.le_of_ble_eq_true rfl⟩) ⟨fun _ _ _ _ q => ⟨q.1, trivial⟩, fun U hU hW => ⟨rfl, trivial⟩⟩ rfl rfl hl.1 rfl (lv_room (Nat.le_of_ble_eq_true rfl)) d_F_told_70 ⟨Nat.zero_le _, Nat.zero_le _⟩)) (fun r hr => ?_)
    subst hr
    exact W.iret (v := nI (bs_c mt216)) hx hb hr (fun t ht hW => ⟨⟨(nI (bs_c mt216)), (q1, ab, en, lf, bl, tr, mt, false, ab211, en212, lf213, bl214, tr215, mt216, q4, bo), rfl, ⟨hI1, hw10, hI4, tl_3 (congrArg nI (fv_met (by omega) hw10))⟩, by rw [ht]; exact hP, hD⟩, hS.F ht⟩) hS.2.2 d_F_told_73
  by_cases hy4 : what = nI 4
  · subst hy4
    refine lv_tableIn (off := 73) (tgt := 74) hx hb d_F_told_1 (by decide) (by decide) (by decide) (by decide) ?_
    refine lv_aload_n hx hb d_F_told_74 rfl (lv_at hl 0 rfl) ?_
    refine va_get (D := (dC, dI)) (ci := 2) (v := .int (nI n)) (C := "FlowNest") (T := T_F) (N := 5) hx hb hts nm_iF hown hK hP 0 rfl rfl 3 (by decide) (hts _ (List.mem_cons_of_mem _ nm_86)) (fun _ h9 => h9) rfl d_F_told_75 ?_
    refine wl_ifnen (tgt := 85) hx hb (by omega) d_F_told_78 (by decide) (fun hc78 => ?_) (fun hc78 => ?_)
    · refine lv_aload_n hx hb d_F_told_85 rfl (lv_at hl 0 rfl) ?_
      refine va_get (D := (dC, dI)) (ci := 2) (v := .ref h1) (C := "FlowNest") (T := T_F) (N := 5) hx hb hts nm_iF hown hK hP 0 rfl rfl 0 (by decide) (hts _ (List.mem_cons_of_mem _ nm_83)) (fun _ h9 => h9) rfl d_F_told_86 ?_
      refine va_get (D := (dC, dI)) (ci := 1) (v := .int (nI r)) (C := "FlowNest$Side") (T := T_S) (N := 10) hx hb hts nm_iS hown hK hP 1 rfl rfl 7 (by decide) (hts _ (List.mem_cons_of_mem _ nm_40)) (fun _ h9 => h9) rfl d_F_told_89 ?_
      exact W.iret (v := nI r) hx hb hr (fun t ht hW => ⟨⟨(nI r), (q1, ab, en, lf, bl, tr, mt, q2, ab2, en2, lf2, bl2, tr2, mt2, q4, bo), rfl, ⟨hI1, hI2, hI4, tl_4 (if_neg (by omega)).symm⟩, by rw [ht]; exact hP, hD⟩, hS.F ht⟩) hS.2.2 d_F_told_92
    · refine lv_iconst (v := -1) hx hb d_F_told_81 (by decide) ?_
      refine lv_goto (tgt := 92) hx hb d_F_told_82 (by decide) ?_
      exact W.iret (v := -1) hx hb hr (fun t ht hW => ⟨⟨(-1), (q1, ab, en, lf, bl, tr, mt, q2, ab2, en2, lf2, bl2, tr2, mt2, q4, bo), rfl, ⟨hI1, hI2, hI4, tl_4 (if_pos (by omega)).symm⟩, by rw [ht]; exact hP, hD⟩, hS.F ht⟩) hS.2.2 d_F_told_92
  by_cases hy5 : what = nI 5
  · subst hy5
    refine lv_tableIn (off := 92) (tgt := 93) hx hb d_F_told_1 (by decide) (by decide) (by decide) (by decide) ?_
    refine lv_aload_n hx hb d_F_told_93 rfl (lv_at hl 0 rfl) ?_
    refine va_get (D := (dC, dI)) (ci := 2) (v := .int (nI n)) (C := "FlowNest") (T := T_F) (N := 5) hx hb hts nm_iF hown hK hP 0 rfl rfl 3 (by decide) (hts _ (List.mem_cons_of_mem _ nm_86)) (fun _ h9 => h9) rfl d_F_told_94 ?_
    refine wl_ifnen (tgt := 104) hx hb (by omega) d_F_told_97 (by decide) (fun hc97 => ?_) (fun hc97 => ?_)
    · refine lv_aload_n hx hb d_F_told_104 rfl (lv_at hl 0 rfl) ?_
      refine va_get (D := (dC, dI)) (ci := 2) (v := .ref h2) (C := "FlowNest") (T := T_F) (N := 5) hx hb hts nm_iF hown hK hP 0 rfl rfl 1 (by decide) (hts _ (List.mem_cons_of_mem _ nm_84)) (fun _ h9 => h9) rfl d_F_told_105 ?_
      refine va_get (D := (dC, dI)) (ci := 1) (v := .int (nI x)) (C := "FlowNest$Side") (T := T_S) (N := 10) hx hb hts nm_iS hown hK hP 8 rfl rfl 7 (by decide) (hts _ (List.mem_cons_of_mem _ nm_40)) (fun _ h9 => h9) rfl d_F_told_108 ?_
      exact W.iret (v := nI x) hx hb hr (fun t ht hW => ⟨⟨(nI x), (q1, ab, en, lf, bl, tr, mt, q2, ab2, en2, lf2, bl2, tr2, mt2, q4, bo), rfl, ⟨hI1, hI2, hI4, tl_5 (if_neg (by omega)).symm⟩, by rw [ht]; exact hP, hD⟩, hS.F ht⟩) hS.2.2 d_F_told_111
    · refine lv_iconst (v := -1) hx hb d_F_told_100 (by decide) ?_
      refine lv_goto (tgt := 111) hx hb d_F_told_101 (by decide) ?_
      exact W.iret (v := -1) hx hb hr (fun t ht hW => ⟨⟨(-1), (q1, ab, en, lf, bl, tr, mt, q2, ab2, en2, lf2, bl2, tr2, mt2, q4, bo), rfl, ⟨hI1, hI2, hI4, tl_5 (if_pos (by omega)).symm⟩, by rw [ht]; exact hP, hD⟩, hS.F ht⟩) hS.2.2 d_F_told_111
  refine lv_tableOut (tgt := 112) hx hb d_F_told_1 (tw_out hy0 hy1 hy2 hy3 hy4 hy5) (by decide) ?_
  refine lv_iconst (v := -1) hx hb d_F_told_112 (by decide) ?_
  exact W.iret (v := -1) hx hb hr (fun t ht hW => ⟨⟨(-1), (q1, ab, en, lf, bl, tr, mt, q2, ab2, en2, lf2, bl2, tr2, mt2, q4, bo), rfl, ⟨hI1, hI2, hI4, tl_d hy0 hy1 hy2 hy3 hy4 hy5 rfl⟩, by rw [ht]; exact hP, hD⟩, hS.F ht⟩) hS.2.2 d_F_told_113
