/-! contracts of FlowNest: worked, nested (laid by wip/gen/fnest.py) -/
set_option maxHeartbeats 4000000 in
set_option maxRecDepth 100000 in
theorem c_F_worked_0 (l : Launch) (dC : Nat → ClassId) (dI : Nat → Nat → Nat) (cJ cI : ClassId) (h0 h1 n1 a1 e1 l1 b1 t1 h2 n2 a2 e2 l2 b2 t2 h4 c4 hs : Nat) (ab : Nat → Int64) (en : Nat → Int32) (lf : Nat → Int32) (bl : Nat → Int32) (tr : Nat → Int32) (mt : Int64) (ab2 : Nat → Int64) (en2 : Nat → Int32) (lf2 : Nat → Int32) (bl2 : Nat → Int32) (tr2 : Nat → Int32) (mt2 : Int64) (bo : Nat → Int64) (n r x : Nat) (L : Nat → Int64) (q1 q2 q4 : Bool) (hn : n ≤ 48) (hL : ∀ u v, gf_E n L u v → v < n) (hI1 : fv_S n r L q1 ab en lf bl mt) (hI2 : fv_S n x (gf_T n L) q2 ab2 en2 lf2 bl2 mt2) (hI4 : fv_N n r L q4 bo) : Met l y_F_worked w_F_worked ({ frames := 5, cells := 0, slots := 0, locals := 116 }) (va_Pc [.ref h0, .int (nI 0)] (cw_M (dC, dI) cJ cI (fn_ws cJ cI h0 h1 n1 a1 e1 l1 b1 t1 h2 n2 a2 e2 l2 b2 t2 h4 c4 (nI n) (nI (sp_lc n L)) L ab en lf bl tr (nI n) (nI r) mt (bs_i q1) (gf_T n L) ab2 en2 lf2 bl2 tr2 (nI n) (nI x) mt2 (bs_i q2) bo (bs_i q4)) hs)) (va_Qr (fun (u9 : (Nat → Int64) × (Nat → Int32) × (Nat → Int32) × (Nat → Int32) × (Nat → Int32) × Int64) => match u9 with | (ab9, en9, lf9, bl9, tr9, mt9) => fv_S n r L false ab9 en9 lf9 bl9 mt9) (fun (u9 : (Nat → Int64) × (Nat → Int32) × (Nat → Int32) × (Nat → Int32) × (Nat → Int32) × Int64) (ra : Nat) (t : State) => match u9 with | (ab9, en9, lf9, bl9, tr9, mt9) => ra = h1 ∧ va_P (dC, dI) vwCl (fn_ws cJ cI h0 h1 n1 a1 e1 l1 b1 t1 h2 n2 a2 e2 l2 b2 t2 h4 c4 (nI n) (nI (sp_lc n L)) L ab9 en9 lf9 bl9 tr9 (nI n) (nI r) mt9 (nI 0) (gf_T n L) ab2 en2 lf2 bl2 tr2 (nI n) (nI x) mt2 (bs_i q2) bo (bs_i q4)) t.heap ∧ va_D (va_A (fn_ws cJ cI h0 h1 n1 a1 e1 l1 b1 t1 h2 n2 a2 e2 l2 b2 t2 h4 c4 (nI n) (nI (sp_lc n L)) L ab en lf bl tr (nI n) (nI r) mt (bs_i q1) (gf_T n L) ab2 en2 lf2 bl2 tr2 (nI n) (nI x) mt2 (bs_i q2) bo (bs_i q4)) hs) (fn_ws cJ cI h0 h1 n1 a1 e1 l1 b1 t1 h2 n2 a2 e2 l2 b2 t2 h4 c4 (nI n) (nI (sp_lc n L)) L ab9 en9 lf9 bl9 tr9 (nI n) (nI r) mt9 (nI 0) (gf_T n L) ab2 en2 lf2 bl2 tr2 (nI n) (nI x) mt2 (bs_i q2) bo (bs_i q4))) (va_A (fn_ws cJ cI h0 h1 n1 a1 e1 l1 b1 t1 h2 n2 a2 e2 l2 b2 t2 h4 c4 (nI n) (nI (sp_lc n L)) L ab en lf bl tr (nI n) (nI r) mt (bs_i q1) (gf_T n L) ab2 en2 lf2 bl2 tr2 (nI n) (nI x) mt2 (bs_i q2) bo (bs_i q4)) hs)) 0 0 (va_A (fn_ws cJ cI h0 h1 n1 a1 e1 l1 b1 t1 h2 n2 a2 e2 l2 b2 t2 h4 c4 (nI n) (nI (sp_lc n L)) L ab en lf bl tr (nI n) (nI r) mt (bs_i q1) (gf_T n L) ab2 en2 lf2 bl2 tr2 (nI n) (nI x) mt2 (bs_i q2) bo (bs_i q4)) hs) := by
  refine Met.ofW (cc := b_F_worked) (maxL := 3) (ret := (some (.object "FlowNest$Side"))) (by decide) rfl ?_
  intro p e s m args below meth c s₁ B hml hv9
  obtain ⟨rfl, hsz, ⟨hP, hK, hNw⟩, hD0⟩ := hv9
  have hx := B.exec
  have hb := B.bytes
  have hr := B.returns
  have hts := atoms_spec (ws := w_F_worked) B.pre
  have hown : s.vm.findClass "FlowNest" = some m.cls := findClass_of_methodNamed B.named
  have hlocks := B.notSynchronized
  subst hsz
  have hD := hD0.self (sz := s.heap.size)
  generalize hAe : va_A (fn_ws cJ cI h0 h1 n1 a1 e1 l1 b1 t1 h2 n2 a2 e2 l2 b2 t2 h4 c4 (nI n) (nI (sp_lc n L)) L ab en lf bl tr (nI n) (nI r) mt (bs_i q1) (gf_T n L) ab2 en2 lf2 bl2 tr2 (nI n) (nI x) mt2 (bs_i q2) bo (bs_i q4)) s.heap.size = A at hD ⊢
  have hA : ∀ q : Nat, s.heap.size ≤ q → A q := fun q h => by rw [← hAe]; exact Or.inr h
  have hS : va_S A s.heap s.heap [] := va_S.rf
  have hP : va_P (dC, dI) vwCl (fn_ws cJ cI h0 h1 n1 a1 e1 l1 b1 t1 h2 n2 a2 e2 l2 b2 t2 h4 c4 (nI n) (nI (sp_lc n L)) L ab en lf bl tr (nI n) (nI r) mt (bs_i q1) (gf_T n L) ab2 en2 lf2 bl2 tr2 (nI n) (nI x) mt2 (bs_i q2) bo (bs_i q4)) s.heap := hP
  have hl := lv_entry ([.ref h0, .int (nI 0)]) (n := 3) (Nat.le_of_ble_eq_true rfl)
  rw [lg_entry_eq]
  generalize (lg_sl ([.ref h0, .int (nI 0)]) ++ List.replicate (3 - (lg_sl ([.ref h0, .int (nI 0)])).length) Slot.unset).toArray = ls at hl ⊢
  have hl : lv_has ls 3 [(0, .ref h0), (1, .int (nI 0))] := hl
  refine lv_iload_n hx hb d_F_worked_0 rfl (lv_at hl 1 rfl) ?_
  refine wl_ifeqn (tgt := 11) hx hb (by omega) d_F_worked_1 (by decide) (fun hc1 => ?_) (fun hc1 => ?_)
  · refine lv_aload_n hx hb d_F_worked_11 rfl (lv_at hl 0 rfl) ?_
    refine va_get (D := (dC, dI)) (ci := 2) (v := .ref h1) (C := "FlowNest") (T := T_F) (N := 5) hx hb hts nm_iF hown hK hP 0 rfl rfl 0 (by decide) (hts _ (List.mem_cons_of_mem _ nm_83)) (fun _ h9 => h9) rfl d_F_worked_12 ?_
    refine lv_astore_n (lv' := [(2, .ref h1), (0, .ref h0), (1, .int (nI 0))]) hx hb d_F_worked_15 rfl hl (by decide) rfl (fun ls hl => ?_)
    refine lv_aload_n hx hb d_F_worked_16 rfl (lv_at hl 0 rfl) ?_
    have hPc := hP.sub (ws' := sd_ws cJ cI h1 n1 a1 e1 l1 b1 t1 L ab en lf bl tr (nI n) (nI r) mt (bs_i q1)) [1, 2, 3, 4, 5, 6, 7] rfl
    have hDc := hD.sub (ws' := sd_ws cJ cI h1 n1 a1 e1 l1 b1 t1 L ab en lf bl tr (nI n) (nI r) mt (bs_i q1)) [1, 2, 3, 4, 5, 6, 7] (by decide) rfl
    have hFc := va_free (wc := sd_ws cJ cI h1 n1 a1 e1 l1 b1 t1 L ab en lf bl tr (nI n) (nI r) mt (bs_i q1)) hD hS hA [1, 2, 3, 4, 5, 6, 7] rfl
    refine va_callv (va_runV (C := "FlowNest$Side") (b := h1) (As := []) (rest := []) ⟨hx, hb, hml, hown, hts⟩ (c_S_workOut l dC dI cJ cI h1 n1 a1 e1 l1 b1 t1 s.heap.size L ab en lf bl tr mt n r q1 hn (fv_S_q hI1 hL)) (cwV 0 hts (nm_gV nm_107 nm_108 nm_109 nm_2 nm_c_S_workOut) rfl rfl rfl (by decide +kernel) ⟨Nat.le_of_ble_eq_true rfl, Nat.le_of_ble_eq_true rfl⟩) ⟨cw_blindM, va_recv hK hP (ci := 1) rfl (q0 := 1) rfl, cw_preM hPc hDc hK hNw⟩ rfl rfl hl.1 rfl (lv_room (Nat.le_of_ble_eq_true rfl)) d_F_worked_17 ⟨Nat.zero_le _, Nat.zero_le _⟩) hS (fun q _ h => hFc q h) hFc (fun u9 t H1 locs ht hvm hw2 hB hz1 hk1 hS => ?_)
    obtain ⟨ab3, en4, lf5, bl6, tr7, mt8⟩ := u9
    obtain ⟨hP1, hD1⟩ := hB
    rw [ht] at hP1
    obtain ⟨hP, hD⟩ := va_join (wr := ([0, 8, 9, 10, 11, 12, 13, 14, 15, 16] : List Nat).filterMap (fun (i : Nat) => (fn_ws cJ cI h0 h1 n1 a1 e1 l1 b1 t1 h2 n2 a2 e2 l2 b2 t2 h4 c4 (nI n) (nI (sp_lc n L)) L ab en lf bl tr (nI n) (nI r) mt (bs_i q1) (gf_T n L) ab2 en2 lf2 bl2 tr2 (nI n) (nI x) mt2 (bs_i q2) bo (bs_i q4))[i]?)) (w1 := sd_ws cJ cI h1 n1 a1 e1 l1 b1 t1 L ab3 en4 lf5 bl6 tr7 (nI n) (nI r) mt8 (nI 0)) hP hD [1, 2, 3, 4, 5, 6, 7] [0, 8, 9, 10, 11, 12, 13, 14, 15, 16] rfl rfl (by decide) (by decide) hk1 hFc hP1 hD1
    generalize H1 = H at hP hS ⊢
    have hP : va_P (dC, dI) vwCl (fn_ws cJ cI h0 h1 n1 a1 e1 l1 b1 t1 h2 n2 a2 e2 l2 b2 t2 h4 c4 (nI n) (nI (sp_lc n L)) L ab3 en4 lf5 bl6 tr7 (nI n) (nI r) mt8 (nI 0) (gf_T n L) ab2 en2 lf2 bl2 tr2 (nI n) (nI x) mt2 (bs_i q2) bo (bs_i q4)) H := hP.sub (ws' := fn_ws cJ cI h0 h1 n1 a1 e1 l1 b1 t1 h2 n2 a2 e2 l2 b2 t2 h4 c4 (nI n) (nI (sp_lc n L)) L ab3 en4 lf5 bl6 tr7 (nI n) (nI r) mt8 (nI 0) (gf_T n L) ab2 en2 lf2 bl2 tr2 (nI n) (nI x) mt2 (bs_i q2) bo (bs_i q4)) [0, 10, 11, 12, 13, 14, 15, 16, 1, 2, 3, 4, 5, 6, 7, 8, 9] rfl
    have hD : va_D A (fn_ws cJ cI h0 h1 n1 a1 e1 l1 b1 t1 h2 n2 a2 e2 l2 b2 t2 h4 c4 (nI n) (nI (sp_lc n L)) L ab3 en4 lf5 bl6 tr7 (nI n) (nI r) mt8 (nI 0) (gf_T n L) ab2 en2 lf2 bl2 tr2 (nI n) (nI x) mt2 (bs_i q2) bo (bs_i q4)) := hD.sub (ws' := fn_ws cJ cI h0 h1 n1 a1 e1 l1 b1 t1 h2 n2 a2 e2 l2 b2 t2 h4 c4 (nI n) (nI (sp_lc n L)) L ab3 en4 lf5 bl6 tr7 (nI n) (nI r) mt8 (nI 0) (gf_T n L) ab2 en2 lf2 bl2 tr2 (nI n) (nI x) mt2 (bs_i q2) bo (bs_i q4)) [0, 10, 11, 12, 13, 14, 15, 16, 1, 2, 3, 4, 5, 6, 7, 8, 9] (by decide) rfl
    have hi9 := fv_S_w hI1 hw2
    refine lv_aload_n hx hb d_F_worked_20 rfl (lv_at hl 0 rfl) ?_
    exact W.aret (v := .ref h1) hx hb hr (Or.inl ⟨_, rfl⟩) (Or.inr ⟨_, rfl⟩) (fun t ht hW => ⟨⟨(ab3, en4, lf5, bl6, tr7, mt8), h1, rfl, hi9, rfl, by rw [ht]; exact hP, hD⟩, hS.F ht⟩) hS.2.2 d_F_worked_21
  · exact absurd hc1 (by decide)
set_option maxHeartbeats 4000000 in
set_option maxRecDepth 100000 in
theorem c_F_worked_1 (l : Launch) (dC : Nat → ClassId) (dI : Nat → Nat → Nat) (cJ cI : ClassId) (h0 h1 n1 a1 e1 l1 b1 t1 h2 n2 a2 e2 l2 b2 t2 h4 c4 hs : Nat) (ab : Nat → Int64) (en : Nat → Int32) (lf : Nat → Int32) (bl : Nat → Int32) (tr : Nat → Int32) (mt : Int64) (ab2 : Nat → Int64) (en2 : Nat → Int32) (lf2 : Nat → Int32) (bl2 : Nat → Int32) (tr2 : Nat → Int32) (mt2 : Int64) (bo : Nat → Int64) (n r x : Nat) (L : Nat → Int64) (q1 q2 q4 : Bool) (hn : n ≤ 48) (hL : ∀ u v, gf_E n L u v → v < n) (hI1 : fv_S n r L q1 ab en lf bl mt) (hI2 : fv_S n x (gf_T n L) q2 ab2 en2 lf2 bl2 mt2) (hI4 : fv_N n r L q4 bo) : Met l y_F_worked w_F_worked ({ frames := 5, cells := 0, slots := 0, locals := 116 }) (va_Pc [.ref h0, .int (nI 1)] (cw_M (dC, dI) cJ cI (fn_ws cJ cI h0 h1 n1 a1 e1 l1 b1 t1 h2 n2 a2 e2 l2 b2 t2 h4 c4 (nI n) (nI (sp_lc n L)) L ab en lf bl tr (nI n) (nI r) mt (bs_i q1) (gf_T n L) ab2 en2 lf2 bl2 tr2 (nI n) (nI x) mt2 (bs_i q2) bo (bs_i q4)) hs)) (va_Qr (fun (u9 : (Nat → Int64) × (Nat → Int32) × (Nat → Int32) × (Nat → Int32) × (Nat → Int32) × Int64) => match u9 with | (yb9, yn9, yf9, yl9, yr9, ym9) => fv_S n x (gf_T n L) false yb9 yn9 yf9 yl9 ym9) (fun (u9 : (Nat → Int64) × (Nat → Int32) × (Nat → Int32) × (Nat → Int32) × (Nat → Int32) × Int64) (ra : Nat) (t : State) => match u9 with | (yb9, yn9, yf9, yl9, yr9, ym9) => ra = h2 ∧ va_P (dC, dI) vwCl (fn_ws cJ cI h0 h1 n1 a1 e1 l1 b1 t1 h2 n2 a2 e2 l2 b2 t2 h4 c4 (nI n) (nI (sp_lc n L)) L ab en lf bl tr (nI n) (nI r) mt (bs_i q1) (gf_T n L) yb9 yn9 yf9 yl9 yr9 (nI n) (nI x) ym9 (nI 0) bo (bs_i q4)) t.heap ∧ va_D (va_A (fn_ws cJ cI h0 h1 n1 a1 e1 l1 b1 t1 h2 n2 a2 e2 l2 b2 t2 h4 c4 (nI n) (nI (sp_lc n L)) L ab en lf bl tr (nI n) (nI r) mt (bs_i q1) (gf_T n L) ab2 en2 lf2 bl2 tr2 (nI n) (nI x) mt2 (bs_i q2) bo (bs_i q4)) hs) (fn_ws cJ cI h0 h1 n1 a1 e1 l1 b1 t1 h2 n2 a2 e2 l2 b2 t2 h4 c4 (nI n) (nI (sp_lc n L)) L ab en lf bl tr (nI n) (nI r) mt (bs_i q1) (gf_T n L) yb9 yn9 yf9 yl9 yr9 (nI n) (nI x) ym9 (nI 0) bo (bs_i q4))) (va_A (fn_ws cJ cI h0 h1 n1 a1 e1 l1 b1 t1 h2 n2 a2 e2 l2 b2 t2 h4 c4 (nI n) (nI (sp_lc n L)) L ab en lf bl tr (nI n) (nI r) mt (bs_i q1) (gf_T n L) ab2 en2 lf2 bl2 tr2 (nI n) (nI x) mt2 (bs_i q2) bo (bs_i q4)) hs)) 0 0 (va_A (fn_ws cJ cI h0 h1 n1 a1 e1 l1 b1 t1 h2 n2 a2 e2 l2 b2 t2 h4 c4 (nI n) (nI (sp_lc n L)) L ab en lf bl tr (nI n) (nI r) mt (bs_i q1) (gf_T n L) ab2 en2 lf2 bl2 tr2 (nI n) (nI x) mt2 (bs_i q2) bo (bs_i q4)) hs) := by
  refine Met.ofW (cc := b_F_worked) (maxL := 3) (ret := (some (.object "FlowNest$Side"))) (by decide) rfl ?_
  intro p e s m args below meth c s₁ B hml hv9
  obtain ⟨rfl, hsz, ⟨hP, hK, hNw⟩, hD0⟩ := hv9
  have hx := B.exec
  have hb := B.bytes
  have hr := B.returns
  have hts := atoms_spec (ws := w_F_worked) B.pre
  have hown : s.vm.findClass "FlowNest" = some m.cls := findClass_of_methodNamed B.named
  have hlocks := B.notSynchronized
  subst hsz
  have hD := hD0.self (sz := s.heap.size)
  generalize hAe : va_A (fn_ws cJ cI h0 h1 n1 a1 e1 l1 b1 t1 h2 n2 a2 e2 l2 b2 t2 h4 c4 (nI n) (nI (sp_lc n L)) L ab en lf bl tr (nI n) (nI r) mt (bs_i q1) (gf_T n L) ab2 en2 lf2 bl2 tr2 (nI n) (nI x) mt2 (bs_i q2) bo (bs_i q4)) s.heap.size = A at hD ⊢
  have hA : ∀ q : Nat, s.heap.size ≤ q → A q := fun q h => by rw [← hAe]; exact Or.inr h
  have hS : va_S A s.heap s.heap [] := va_S.rf
  have hP : va_P (dC, dI) vwCl (fn_ws cJ cI h0 h1 n1 a1 e1 l1 b1 t1 h2 n2 a2 e2 l2 b2 t2 h4 c4 (nI n) (nI (sp_lc n L)) L ab en lf bl tr (nI n) (nI r) mt (bs_i q1) (gf_T n L) ab2 en2 lf2 bl2 tr2 (nI n) (nI x) mt2 (bs_i q2) bo (bs_i q4)) s.heap := hP
  have hl := lv_entry ([.ref h0, .int (nI 1)]) (n := 3) (Nat.le_of_ble_eq_true rfl)
  rw [lg_entry_eq]
  generalize (lg_sl ([.ref h0, .int (nI 1)]) ++ List.replicate (3 - (lg_sl ([.ref h0, .int (nI 1)])).length) Slot.unset).toArray = ls at hl ⊢
  have hl : lv_has ls 3 [(0, .ref h0), (1, .int (nI 1))] := hl
  refine lv_iload_n hx hb d_F_worked_0 rfl (lv_at hl 1 rfl) ?_
  refine wl_ifeqn (tgt := 11) hx hb (by omega) d_F_worked_1 (by decide) (fun hc1 => ?_) (fun hc1 => ?_)
  · exact absurd hc1 (by decide)
  · refine lv_aload_n hx hb d_F_worked_4 rfl (lv_at hl 0 rfl) ?_
    refine va_get (D := (dC, dI)) (ci := 2) (v := .ref h2) (C := "FlowNest") (T := T_F) (N := 5) hx hb hts nm_iF hown hK hP 0 rfl rfl 1 (by decide) (hts _ (List.mem_cons_of_mem _ nm_84)) (fun _ h9 => h9) rfl d_F_worked_5 ?_
    refine lv_goto (tgt := 15) hx hb d_F_worked_8 (by decide) ?_
    refine lv_astore_n (lv' := [(2, .ref h2), (0, .ref h0), (1, .int (nI 1))]) hx hb d_F_worked_15 rfl hl (by decide) rfl (fun ls hl => ?_)
    refine lv_aload_n hx hb d_F_worked_16 rfl (lv_at hl 0 rfl) ?_
    have hPc := hP.sub (ws' := sd_ws cJ cI h2 n2 a2 e2 l2 b2 t2 (gf_T n L) ab2 en2 lf2 bl2 tr2 (nI n) (nI x) mt2 (bs_i q2)) [8, 9, 10, 11, 12, 13, 14] rfl
    have hDc := hD.sub (ws' := sd_ws cJ cI h2 n2 a2 e2 l2 b2 t2 (gf_T n L) ab2 en2 lf2 bl2 tr2 (nI n) (nI x) mt2 (bs_i q2)) [8, 9, 10, 11, 12, 13, 14] (by decide) rfl
    have hFc := va_free (wc := sd_ws cJ cI h2 n2 a2 e2 l2 b2 t2 (gf_T n L) ab2 en2 lf2 bl2 tr2 (nI n) (nI x) mt2 (bs_i q2)) hD hS hA [8, 9, 10, 11, 12, 13, 14] rfl
    refine va_callv (va_runV (C := "FlowNest$Side") (b := h2) (As := []) (rest := []) ⟨hx, hb, hml, hown, hts⟩ (c_S_workOut l dC dI cJ cI h2 n2 a2 e2 l2 b2 t2 s.heap.size (gf_T n L) ab2 en2 lf2 bl2 tr2 mt2 n x q2 hn (fv_S_q hI2 (gf_T_L (by omega)))) (cwV 0 hts (nm_gV nm_107 nm_108 nm_109 nm_2 nm_c_S_workOut) rfl rfl rfl (by decide +kernel) ⟨Nat.le_of_ble_eq_true rfl, Nat.le_of_ble_eq_true rfl⟩) ⟨cw_blindM, va_recv hK hP (ci := 1) rfl (q0 := 8) rfl, cw_preM hPc hDc hK hNw⟩ rfl rfl hl.1 rfl (lv_room (Nat.le_of_ble_eq_true rfl)) d_F_worked_17 ⟨Nat.zero_le _, Nat.zero_le _⟩) hS (fun q _ h => hFc q h) hFc (fun u9 t H1 locs ht hvm hw2 hB hz1 hk1 hS => ?_)
    obtain ⟨ab3, en4, lf5, bl6, tr7, mt8⟩ := u9
    obtain ⟨hP1, hD1⟩ := hB
    rw [ht] at hP1
    obtain ⟨hP, hD⟩ := va_join (wr := ([0, 1, 2, 3, 4, 5, 6, 7, 15, 16] : List Nat).filterMap (fun (i : Nat) => (fn_ws cJ cI h0 h1 n1 a1 e1 l1 b1 t1 h2 n2 a2 e2 l2 b2 t2 h4 c4 (nI n) (nI (sp_lc n L)) L ab en lf bl tr (nI n) (nI r) mt (bs_i q1) (gf_T n L) ab2 en2 lf2 bl2 tr2 (nI n) (nI x) mt2 (bs_i q2) bo (bs_i q4))[i]?)) (w1 := sd_ws cJ cI h2 n2 a2 e2 l2 b2 t2 (gf_T n L) ab3 en4 lf5 bl6 tr7 (nI n) (nI x) mt8 (nI 0)) hP hD [8, 9, 10, 11, 12, 13, 14] [0, 1, 2, 3, 4, 5, 6, 7, 15, 16] rfl rfl (by decide) (by decide) hk1 hFc hP1 hD1
    generalize H1 = H at hP hS ⊢
    have hP : va_P (dC, dI) vwCl (fn_ws cJ cI h0 h1 n1 a1 e1 l1 b1 t1 h2 n2 a2 e2 l2 b2 t2 h4 c4 (nI n) (nI (sp_lc n L)) L ab en lf bl tr (nI n) (nI r) mt (bs_i q1) (gf_T n L) ab3 en4 lf5 bl6 tr7 (nI n) (nI x) mt8 (nI 0) bo (bs_i q4)) H := hP.sub (ws' := fn_ws cJ cI h0 h1 n1 a1 e1 l1 b1 t1 h2 n2 a2 e2 l2 b2 t2 h4 c4 (nI n) (nI (sp_lc n L)) L ab en lf bl tr (nI n) (nI r) mt (bs_i q1) (gf_T n L) ab3 en4 lf5 bl6 tr7 (nI n) (nI x) mt8 (nI 0) bo (bs_i q4)) [0, 1, 2, 3, 4, 5, 6, 7, 10, 11, 12, 13, 14, 15, 16, 8, 9] rfl
    have hD : va_D A (fn_ws cJ cI h0 h1 n1 a1 e1 l1 b1 t1 h2 n2 a2 e2 l2 b2 t2 h4 c4 (nI n) (nI (sp_lc n L)) L ab en lf bl tr (nI n) (nI r) mt (bs_i q1) (gf_T n L) ab3 en4 lf5 bl6 tr7 (nI n) (nI x) mt8 (nI 0) bo (bs_i q4)) := hD.sub (ws' := fn_ws cJ cI h0 h1 n1 a1 e1 l1 b1 t1 h2 n2 a2 e2 l2 b2 t2 h4 c4 (nI n) (nI (sp_lc n L)) L ab en lf bl tr (nI n) (nI r) mt (bs_i q1) (gf_T n L) ab3 en4 lf5 bl6 tr7 (nI n) (nI x) mt8 (nI 0) bo (bs_i q4)) [0, 1, 2, 3, 4, 5, 6, 7, 10, 11, 12, 13, 14, 15, 16, 8, 9] (by decide) rfl
    have hi9 := fv_S_w hI2 hw2
    refine lv_aload_n hx hb d_F_worked_20 rfl (lv_at hl 0 rfl) ?_
    exact W.aret (v := .ref h2) hx hb hr (Or.inl ⟨_, rfl⟩) (Or.inr ⟨_, rfl⟩) (fun t ht hW => ⟨⟨(ab3, en4, lf5, bl6, tr7, mt8), h2, rfl, hi9, rfl, by rw [ht]; exact hP, hD⟩, hS.F ht⟩) hS.2.2 d_F_worked_21
set_option maxHeartbeats 4000000 in
set_option maxRecDepth 100000 in
theorem c_F_nested (l : Launch) (dC : Nat → ClassId) (dI : Nat → Nat → Nat) (cJ cI : ClassId) (h0 h1 n1 a1 e1 l1 b1 t1 h2 n2 a2 e2 l2 b2 t2 h4 c4 hs : Nat) (ab : Nat → Int64) (en : Nat → Int32) (lf : Nat → Int32) (bl : Nat → Int32) (tr : Nat → Int32) (mt : Int64) (ab2 : Nat → Int64) (en2 : Nat → Int32) (lf2 : Nat → Int32) (bl2 : Nat → Int32) (tr2 : Nat → Int32) (mt2 : Int64) (bo : Nat → Int64) (n r x : Nat) (L : Nat → Int64) (q1 q2 q4 : Bool) (hn : n ≤ 48) (hL : ∀ u v, gf_E n L u v → v < n) (hI1 : fv_S n r L q1 ab en lf bl mt) (hI2 : fv_S n x (gf_T n L) q2 ab2 en2 lf2 bl2 mt2) (hI4 : fv_N n r L q4 bo) : Met l y_F_nested w_F_nested ({ frames := 5, cells := 0, slots := 0, locals := 129 }) (va_Pc [.ref h0] (cw_M (dC, dI) cJ cI (fn_ws cJ cI h0 h1 n1 a1 e1 l1 b1 t1 h2 n2 a2 e2 l2 b2 t2 h4 c4 (nI n) (nI (sp_lc n L)) L ab en lf bl tr (nI n) (nI r) mt (bs_i q1) (gf_T n L) ab2 en2 lf2 bl2 tr2 (nI n) (nI x) mt2 (bs_i q2) bo (bs_i q4)) hs)) (va_Qr (fun (u9 : (Nat → Int64) × (Nat → Int32) × (Nat → Int32) × (Nat → Int32) × (Nat → Int32) × Int64 × (Nat → Int64)) => match u9 with | (ab9, en9, lf9, bl9, tr9, mt9, bo9) => fv_S n r L false ab9 en9 lf9 bl9 mt9 ∧ fv_N n r L false bo9) (fun (u9 : (Nat → Int64) × (Nat → Int32) × (Nat → Int32) × (Nat → Int32) × (Nat → Int32) × Int64 × (Nat → Int64)) (ra : Nat) (t : State) => match u9 with | (ab9, en9, lf9, bl9, tr9, mt9, bo9) => ra = h4 ∧ va_P (dC, dI) vwCl (fn_ws cJ cI h0 h1 n1 a1 e1 l1 b1 t1 h2 n2 a2 e2 l2 b2 t2 h4 c4 (nI n) (nI (sp_lc n L)) L ab9 en9 lf9 bl9 tr9 (nI n) (nI r) mt9 (nI 0) (gf_T n L) ab2 en2 lf2 bl2 tr2 (nI n) (nI x) mt2 (bs_i q2) bo9 (nI 0)) t.heap ∧ va_D (va_A (fn_ws cJ cI h0 h1 n1 a1 e1 l1 b1 t1 h2 n2 a2 e2 l2 b2 t2 h4 c4 (nI n) (nI (sp_lc n L)) L ab en lf bl tr (nI n) (nI r) mt (bs_i q1) (gf_T n L) ab2 en2 lf2 bl2 tr2 (nI n) (nI x) mt2 (bs_i q2) bo (bs_i q4)) hs) (fn_ws cJ cI h0 h1 n1 a1 e1 l1 b1 t1 h2 n2 a2 e2 l2 b2 t2 h4 c4 (nI n) (nI (sp_lc n L)) L ab9 en9 lf9 bl9 tr9 (nI n) (nI r) mt9 (nI 0) (gf_T n L) ab2 en2 lf2 bl2 tr2 (nI n) (nI x) mt2 (bs_i q2) bo9 (nI 0))) (va_A (fn_ws cJ cI h0 h1 n1 a1 e1 l1 b1 t1 h2 n2 a2 e2 l2 b2 t2 h4 c4 (nI n) (nI (sp_lc n L)) L ab en lf bl tr (nI n) (nI r) mt (bs_i q1) (gf_T n L) ab2 en2 lf2 bl2 tr2 (nI n) (nI x) mt2 (bs_i q2) bo (bs_i q4)) hs)) 0 0 (va_A (fn_ws cJ cI h0 h1 n1 a1 e1 l1 b1 t1 h2 n2 a2 e2 l2 b2 t2 h4 c4 (nI n) (nI (sp_lc n L)) L ab en lf bl tr (nI n) (nI r) mt (bs_i q1) (gf_T n L) ab2 en2 lf2 bl2 tr2 (nI n) (nI x) mt2 (bs_i q2) bo (bs_i q4)) hs) := by
  refine Met.ofW (cc := b_F_nested) (maxL := 1) (ret := (some (.object "FlowNest$Nest"))) (by decide) rfl ?_
  intro p e s m args below meth c s₁ B hml hv9
  obtain ⟨rfl, hsz, ⟨hP, hK, hNw⟩, hD0⟩ := hv9
  have hx := B.exec
  have hb := B.bytes
  have hr := B.returns
  have hts := atoms_spec (ws := w_F_nested) B.pre
  have hown : s.vm.findClass "FlowNest" = some m.cls := findClass_of_methodNamed B.named
  have hlocks := B.notSynchronized
  subst hsz
  have hD := hD0.self (sz := s.heap.size)
  generalize hAe : va_A (fn_ws cJ cI h0 h1 n1 a1 e1 l1 b1 t1 h2 n2 a2 e2 l2 b2 t2 h4 c4 (nI n) (nI (sp_lc n L)) L ab en lf bl tr (nI n) (nI r) mt (bs_i q1) (gf_T n L) ab2 en2 lf2 bl2 tr2 (nI n) (nI x) mt2 (bs_i q2) bo (bs_i q4)) s.heap.size = A at hD ⊢
  have hA : ∀ q : Nat, s.heap.size ≤ q → A q := fun q h => by rw [← hAe]; exact Or.inr h
  have hS : va_S A s.heap s.heap [] := va_S.rf
  have hP : va_P (dC, dI) vwCl (fn_ws cJ cI h0 h1 n1 a1 e1 l1 b1 t1 h2 n2 a2 e2 l2 b2 t2 h4 c4 (nI n) (nI (sp_lc n L)) L ab en lf bl tr (nI n) (nI r) mt (bs_i q1) (gf_T n L) ab2 en2 lf2 bl2 tr2 (nI n) (nI x) mt2 (bs_i q2) bo (bs_i q4)) s.heap := hP
  have hl := lv_entry ([.ref h0]) (n := 1) (Nat.le_of_ble_eq_true rfl)
  rw [lg_entry_eq]
  generalize (lg_sl ([.ref h0]) ++ List.replicate (1 - (lg_sl ([.ref h0])).length) Slot.unset).toArray = ls at hl ⊢
  have hl : lv_has ls 1 [(0, .ref h0)] := hl
  refine lv_aload_n hx hb d_F_nested_0 rfl (lv_at hl 0 rfl) ?_
  refine va_get (D := (dC, dI)) (ci := 2) (v := .ref h1) (C := "FlowNest") (T := T_F) (N := 5) hx hb hts nm_iF hown hK hP 0 rfl rfl 0 (by decide) (hts _ (List.mem_cons_of_mem _ nm_83)) (fun _ h9 => h9) rfl d_F_nested_1 ?_
  have hPc := hP.sub (ws' := sd_ws cJ cI h1 n1 a1 e1 l1 b1 t1 L ab en lf bl tr (nI n) (nI r) mt (bs_i q1)) [1, 2, 3, 4, 5, 6, 7] rfl
  have hDc := hD.sub (ws' := sd_ws cJ cI h1 n1 a1 e1 l1 b1 t1 L ab en lf bl tr (nI n) (nI r) mt (bs_i q1)) [1, 2, 3, 4, 5, 6, 7] (by decide) rfl
  have hFc := va_free (wc := sd_ws cJ cI h1 n1 a1 e1 l1 b1 t1 L ab en lf bl tr (nI n) (nI r) mt (bs_i q1)) hD hS hA [1, 2, 3, 4, 5, 6, 7] rfl
  refine va_callv (va_runV (C := "FlowNest$Side") (b := h1) (As := []) (rest := []) ⟨hx, hb, hml, hown, hts⟩ (c_S_workOut l dC dI cJ cI h1 n1 a1 e1 l1 b1 t1 s.heap.size L ab en lf bl tr mt n r q1 hn (fv_S_q hI1 hL)) (cwV 0 hts (nm_gV nm_107 nm_108 nm_109 nm_2 nm_c_S_workOut) rfl rfl rfl (by decide +kernel) ⟨Nat.le_of_ble_eq_true rfl, Nat.le_of_ble_eq_true rfl⟩) ⟨cw_blindM, va_recv hK hP (ci := 1) rfl (q0 := 1) rfl, cw_preM hPc hDc hK hNw⟩ rfl rfl hl.1 rfl (lv_room (Nat.le_of_ble_eq_true rfl)) d_F_nested_4 ⟨Nat.zero_le _, Nat.zero_le _⟩) hS (fun q _ h => hFc q h) hFc (fun u9 t H1 locs ht hvm hw2 hB hz1 hk1 hS => ?_)
  obtain ⟨ab3, en4, lf5, bl6, tr7, mt8⟩ := u9
  obtain ⟨hP1, hD1⟩ := hB
  rw [ht] at hP1
  obtain ⟨hP, hD⟩ := va_join (wr := ([0, 8, 9, 10, 11, 12, 13, 14, 15, 16] : List Nat).filterMap (fun (i : Nat) => (fn_ws cJ cI h0 h1 n1 a1 e1 l1 b1 t1 h2 n2 a2 e2 l2 b2 t2 h4 c4 (nI n) (nI (sp_lc n L)) L ab en lf bl tr (nI n) (nI r) mt (bs_i q1) (gf_T n L) ab2 en2 lf2 bl2 tr2 (nI n) (nI x) mt2 (bs_i q2) bo (bs_i q4))[i]?)) (w1 := sd_ws cJ cI h1 n1 a1 e1 l1 b1 t1 L ab3 en4 lf5 bl6 tr7 (nI n) (nI r) mt8 (nI 0)) hP hD [1, 2, 3, 4, 5, 6, 7] [0, 8, 9, 10, 11, 12, 13, 14, 15, 16] rfl rfl (by decide) (by decide) hk1 hFc hP1 hD1
  generalize H1 = H at hP hS ⊢
  have hP : va_P (dC, dI) vwCl (fn_ws cJ cI h0 h1 n1 a1 e1 l1 b1 t1 h2 n2 a2 e2 l2 b2 t2 h4 c4 (nI n) (nI (sp_lc n L)) L ab3 en4 lf5 bl6 tr7 (nI n) (nI r) mt8 (nI 0) (gf_T n L) ab2 en2 lf2 bl2 tr2 (nI n) (nI x) mt2 (bs_i q2) bo (bs_i q4)) H := hP.sub (ws' := fn_ws cJ cI h0 h1 n1 a1 e1 l1 b1 t1 h2 n2 a2 e2 l2 b2 t2 h4 c4 (nI n) (nI (sp_lc n L)) L ab3 en4 lf5 bl6 tr7 (nI n) (nI r) mt8 (nI 0) (gf_T n L) ab2 en2 lf2 bl2 tr2 (nI n) (nI x) mt2 (bs_i q2) bo (bs_i q4)) [0, 10, 11, 12, 13, 14, 15, 16, 1, 2, 3, 4, 5, 6, 7, 8, 9] rfl
  have hD : va_D A (fn_ws cJ cI h0 h1 n1 a1 e1 l1 b1 t1 h2 n2 a2 e2 l2 b2 t2 h4 c4 (nI n) (nI (sp_lc n L)) L ab3 en4 lf5 bl6 tr7 (nI n) (nI r) mt8 (nI 0) (gf_T n L) ab2 en2 lf2 bl2 tr2 (nI n) (nI x) mt2 (bs_i q2) bo (bs_i q4)) := hD.sub (ws' := fn_ws cJ cI h0 h1 n1 a1 e1 l1 b1 t1 h2 n2 a2 e2 l2 b2 t2 h4 c4 (nI n) (nI (sp_lc n L)) L ab3 en4 lf5 bl6 tr7 (nI n) (nI r) mt8 (nI 0) (gf_T n L) ab2 en2 lf2 bl2 tr2 (nI n) (nI x) mt2 (bs_i q2) bo (bs_i q4)) [0, 10, 11, 12, 13, 14, 15, 16, 1, 2, 3, 4, 5, 6, 7, 8, 9] (by decide) rfl
  have hi9 := fv_S_w hI1 hw2
  refine lv_aload_n hx hb d_F_nested_7 rfl (lv_at hl 0 rfl) ?_
  refine va_get (D := (dC, dI)) (ci := 2) (v := .ref h4) (C := "FlowNest") (T := T_F) (N := 5) hx hb hts nm_iF hown hK hP 0 rfl rfl 2 (by decide) (hts _ (List.mem_cons_of_mem _ nm_85)) (fun _ h9 => h9) rfl d_F_nested_8 ?_
  refine lv_aload_n hx hb d_F_nested_11 rfl (lv_at hl 0 rfl) ?_
  refine va_get (D := (dC, dI)) (ci := 2) (v := .ref h1) (C := "FlowNest") (T := T_F) (N := 5) hx hb hts nm_iF hown hK hP 0 rfl rfl 0 (by decide) (hts _ (List.mem_cons_of_mem _ nm_83)) (fun _ h9 => h9) rfl d_F_nested_12 ?_
  refine lv_aload_n hx hb d_F_nested_15 rfl (lv_at hl 0 rfl) ?_
  refine va_get (D := (dC, dI)) (ci := 2) (v := .ref h2) (C := "FlowNest") (T := T_F) (N := 5) hx hb hts nm_iF hown hK hP 0 rfl rfl 1 (by decide) (hts _ (List.mem_cons_of_mem _ nm_84)) (fun _ h9 => h9) rfl d_F_nested_16 ?_
  refine va_get (D := (dC, dI)) (ci := 1) (v := .ref n2) (C := "FlowNest$Side") (T := T_S) (N := 10) hx hb hts nm_iS hown hK hP 8 rfl rfl 0 (by decide) (hts _ (List.mem_cons_of_mem _ nm_27)) (fun _ h9 => h9) rfl d_F_nested_19 ?_
  have hPc := hP.sub (ws' := nb_ws cJ cI h4 c4 h1 n1 a1 e1 l1 b1 t1 n2 bo (bs_i q4) L ab3 en4 lf5 bl6 tr7 (nI n) (nI r) mt8 (nI 0) (gf_T n L)) [15, 16, 1, 2, 3, 4, 5, 6, 7, 9] rfl
  have hDc := hD.sub (ws' := nb_ws cJ cI h4 c4 h1 n1 a1 e1 l1 b1 t1 n2 bo (bs_i q4) L ab3 en4 lf5 bl6 tr7 (nI n) (nI r) mt8 (nI 0) (gf_T n L)) [15, 16, 1, 2, 3, 4, 5, 6, 7, 9] (by decide) rfl
  have hFc := va_free (wc := nb_ws cJ cI h4 c4 h1 n1 a1 e1 l1 b1 t1 n2 bo (bs_i q4) L ab3 en4 lf5 bl6 tr7 (nI n) (nI r) mt8 (nI 0) (gf_T n L)) hD hS hA [15, 16, 1, 2, 3, 4, 5, 6, 7, 9] rfl
  refine va_callv (va_runV (C := "FlowNest$Nest") (b := h4) (As := [.ref h1, .ref n2]) (rest := []) ⟨hx, hb, hml, hown, hts⟩ (c_N_workOut l dC dI cJ cI h4 c4 h1 n1 a1 e1 l1 b1 t1 n2 H.size bo L ab3 en4 lf5 bl6 tr7 mt8 (nI 0) (gf_T n L) n r q4 hn (fv_N_q hI4 hi9)) (cwV 2 hts (nm_gV nm_161 nm_162 nm_163 nm_3 nm_c_N_workOut) rfl rfl rfl (by decide +kernel) ⟨Nat.le_of_ble_eq_true rfl, Nat.le_of_ble_eq_true rfl⟩) ⟨cw_blindM, va_recv hK hP (ci := 0) rfl (q0 := 15) rfl, cw_preM hPc hDc hK hNw⟩ rfl rfl hl.1 rfl (lv_room (Nat.le_of_ble_eq_true rfl)) d_F_nested_22 ⟨Nat.zero_le _, Nat.zero_le _⟩) hS (fun q _ h => hFc q h) hFc (fun u9 t H1 locs ht hvm hw11 hB hz1 hk1 hS => ?_)
  obtain ⟨bo12, rfl⟩ : ∃ z, z = u9 := ⟨_, rfl⟩
  obtain ⟨hP1, hD1⟩ := hB
  rw [ht] at hP1
  obtain ⟨hP, hD⟩ := va_join (wr := ([0, 8, 10, 11, 12, 13, 14] : List Nat).filterMap (fun (i : Nat) => (fn_ws cJ cI h0 h1 n1 a1 e1 l1 b1 t1 h2 n2 a2 e2 l2 b2 t2 h4 c4 (nI n) (nI (sp_lc n L)) L ab3 en4 lf5 bl6 tr7 (nI n) (nI r) mt8 (nI 0) (gf_T n L) ab2 en2 lf2 bl2 tr2 (nI n) (nI x) mt2 (bs_i q2) bo (bs_i q4))[i]?)) (w1 := nb_ws cJ cI h4 c4 h1 n1 a1 e1 l1 b1 t1 n2 bo12 (nI 0) L ab3 en4 lf5 bl6 tr7 (nI n) (nI r) mt8 (nI 0) (gf_T n L)) hP hD [15, 16, 1, 2, 3, 4, 5, 6, 7, 9] [0, 8, 10, 11, 12, 13, 14] rfl rfl (by decide) (by decide) hk1 hFc hP1 hD1
  generalize H1 = H at hP hS ⊢
  have hP : va_P (dC, dI) vwCl (fn_ws cJ cI h0 h1 n1 a1 e1 l1 b1 t1 h2 n2 a2 e2 l2 b2 t2 h4 c4 (nI n) (nI (sp_lc n L)) L ab3 en4 lf5 bl6 tr7 (nI n) (nI r) mt8 (nI 0) (gf_T n L) ab2 en2 lf2 bl2 tr2 (nI n) (nI x) mt2 (bs_i q2) bo12 (nI 0)) H := hP.sub (ws' := fn_ws cJ cI h0 h1 n1 a1 e1 l1 b1 t1 h2 n2 a2 e2 l2 b2 t2 h4 c4 (nI n) (nI (sp_lc n L)) L ab3 en4 lf5 bl6 tr7 (nI n) (nI r) mt8 (nI 0) (gf_T n L) ab2 en2 lf2 bl2 tr2 (nI n) (nI x) mt2 (bs_i q2) bo12 (nI 0)) [0, 9, 10, 11, 12, 13, 14, 15, 1, 16, 2, 3, 4, 5, 6, 7, 8] rfl
  have hD : va_D A (fn_ws cJ cI h0 h1 n1 a1 e1 l1 b1 t1 h2 n2 a2 e2 l2 b2 t2 h4 c4 (nI n) (nI (sp_lc n L)) L ab3 en4 lf5 bl6 tr7 (nI n) (nI r) mt8 (nI 0) (gf_T n L) ab2 en2 lf2 bl2 tr2 (nI n) (nI x) mt2 (bs_i q2) bo12 (nI 0)) := hD.sub (ws' := fn_ws cJ cI h0 h1 n1 a1 e1 l1 b1 t1 h2 n2 a2 e2 l2 b2 t2 h4 c4 (nI n) (nI (sp_lc n L)) L ab3 en4 lf5 bl6 tr7 (nI n) (nI r) mt8 (nI 0) (gf_T n L) ab2 en2 lf2 bl2 tr2 (nI n) (nI x) mt2 (bs_i q2) bo12 (nI 0)) [0, 9, 10, 11, 12, 13, 14, 15, 1, 16, 2, 3, 4, 5, 6, 7, 8] (by decide) rfl
  have hi13 := fv_N_w hI4 hw11
  refine lv_aload_n hx hb d_F_nested_25 rfl (lv_at hl 0 rfl) ?_
  refine va_get (D := (dC, dI)) (ci := 2) (v := .ref h4) (C := "FlowNest") (T := T_F) (N := 5) hx hb hts nm_iF hown hK hP 0 rfl rfl 2 (by decide) (hts _ (List.mem_cons_of_mem _ nm_85)) (fun _ h9 => h9) rfl d_F_nested_26 ?_
  exact W.aret (v := .ref h4) hx hb hr (Or.inl ⟨_, rfl⟩) (Or.inr ⟨_, rfl⟩) (fun t ht hW => ⟨⟨(ab3, en4, lf5, bl6, tr7, mt8, bo12), h4, rfl, ⟨hi9, hi13⟩, rfl, by rw [ht]; exact hP, hD⟩, hS.F ht⟩) hS.2.2 d_F_nested_29
