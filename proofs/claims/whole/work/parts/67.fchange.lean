/-! contracts of FlowNest: what changes (laid by wip/gen/thr.py) -/
set_option maxHeartbeats 4000000 in
set_option maxRecDepth 100000 in
theorem c_F_begin (l : Launch) (hl9 : l.stackTraces = false) (dC : Nat → ClassId) (dI : Nat → Nat → Nat) (cJ cI : ClassId) (h0 h1 n1 a1 e1 l1 b1 t1 h2 n2 a2 e2 l2 b2 t2 h4 c4 hs sa sb : Nat) (ab : Nat → Int64) (en : Nat → Int32) (lf : Nat → Int32) (bl : Nat → Int32) (tr : Nat → Int32) (mt : Int64) (ab2 : Nat → Int64) (en2 : Nat → Int32) (lf2 : Nat → Int32) (bl2 : Nat → Int32) (tr2 : Nat → Int32) (mt2 : Int64) (bo : Nat → Int64) (n r x : Nat) (L : Nat → Int64) (q1 q2 q4 : Bool) (v0 : Int32)  : vx_Met l y_F_begin w_F_begin ({ frames := 6, cells := 1, slots := 6, locals := 82 }) (va_Pc [.ref h0, .int v0] (cw_T (dC, dI) cJ cI (fn_ws cJ cI h0 h1 n1 a1 e1 l1 b1 t1 h2 n2 a2 e2 l2 b2 t2 h4 c4 (nI n) (nI (sp_lc n L)) L ab en lf bl tr (nI n) (nI r) mt (bs_i q1) (gf_T n L) ab2 en2 lf2 bl2 tr2 (nI n) (nI x) mt2 (bs_i q2) bo (bs_i q4)) hs sa sb)) (va_Qi (fun (r9 : Int32) (m9 : Nat) => 1 ≤ m9 ∧ m9 ≤ 48 ∧ v0 = nI m9 ∧ r9 = nI n) (fun (m9 : Nat) (t : State) => va_P (dC, dI) vwCl (fn_ws cJ cI h0 h1 n1 a1 e1 l1 b1 t1 h2 n2 a2 e2 l2 b2 t2 h4 c4 (nI m9) (nI 0) (fun _ => 0) ab en lf bl tr (nI m9) (nI 0) mt (nI 1) (fun _ => 0) ab2 en2 lf2 bl2 tr2 (nI m9) (nI (m9 - 1)) mt2 (nI 1) bo (nI 1)) t.heap ∧ va_D (va_A (fn_ws cJ cI h0 h1 n1 a1 e1 l1 b1 t1 h2 n2 a2 e2 l2 b2 t2 h4 c4 (nI n) (nI (sp_lc n L)) L ab en lf bl tr (nI n) (nI r) mt (bs_i q1) (gf_T n L) ab2 en2 lf2 bl2 tr2 (nI n) (nI x) mt2 (bs_i q2) bo (bs_i q4)) hs) (fn_ws cJ cI h0 h1 n1 a1 e1 l1 b1 t1 h2 n2 a2 e2 l2 b2 t2 h4 c4 (nI m9) (nI 0) (fun _ => 0) ab en lf bl tr (nI m9) (nI 0) mt (nI 1) (fun _ => 0) ab2 en2 lf2 bl2 tr2 (nI m9) (nI (m9 - 1)) mt2 (nI 1) bo (nI 1))) (va_A (fn_ws cJ cI h0 h1 n1 a1 e1 l1 b1 t1 h2 n2 a2 e2 l2 b2 t2 h4 c4 (nI n) (nI (sp_lc n L)) L ab en lf bl tr (nI n) (nI r) mt (bs_i q1) (gf_T n L) ab2 en2 lf2 bl2 tr2 (nI n) (nI x) mt2 (bs_i q2) bo (bs_i q4)) hs)) (vx_X (fun (_ : Unit) => ¬ ∃ m, 1 ≤ m ∧ m ≤ 48 ∧ v0 = nI m) (fun E _ _ => E = "java/lang/IllegalArgumentException") (fun q => hs ≤ q)) 1 6 (va_A (fn_ws cJ cI h0 h1 n1 a1 e1 l1 b1 t1 h2 n2 a2 e2 l2 b2 t2 h4 c4 (nI n) (nI (sp_lc n L)) L ab en lf bl tr (nI n) (nI r) mt (bs_i q1) (gf_T n L) ab2 en2 lf2 bl2 tr2 (nI n) (nI x) mt2 (bs_i q2) bo (bs_i q4)) hs) := by
  refine vx_ofW (cc := b_F_begin) (maxL := 3) (ret := (some .int)) (by decide) rfl ?_
  intro p e s m args below meth c s₁ B hml hxt hv9
  obtain ⟨rfl, ⟨hsz, ⟨hP, hK, hNw⟩, hD0⟩, hX⟩ := hv9
  have hx := B.exec
  have hb := B.bytes
  have hr := B.returns
  have hts := atoms_spec (ws := w_F_begin) B.pre
  have hown : s.vm.findClass "FlowNest" = some m.cls := findClass_of_methodNamed B.named
  have hlocks := B.notSynchronized
  subst hsz
  have hU : s.heap.size ≤ s.heap.size ∧ ∀ q : Nat, q < s.heap.size → s.heap[q]? = s.heap[q]? := ⟨Nat.le_refl _, fun _ _ => rfl⟩
  have hD := hD0.self (sz := s.heap.size)
  generalize hAe : va_A (fn_ws cJ cI h0 h1 n1 a1 e1 l1 b1 t1 h2 n2 a2 e2 l2 b2 t2 h4 c4 (nI n) (nI (sp_lc n L)) L ab en lf bl tr (nI n) (nI r) mt (bs_i q1) (gf_T n L) ab2 en2 lf2 bl2 tr2 (nI n) (nI x) mt2 (bs_i q2) bo (bs_i q4)) s.heap.size = A at hD ⊢
  have hA : ∀ q : Nat, s.heap.size ≤ q → A q := fun q h => by rw [← hAe]; exact Or.inr h
  have hS : va_S A s.heap s.heap [] := va_S.rf
  have hP : va_P (dC, dI) vwCl (fn_ws cJ cI h0 h1 n1 a1 e1 l1 b1 t1 h2 n2 a2 e2 l2 b2 t2 h4 c4 (nI n) (nI (sp_lc n L)) L ab en lf bl tr (nI n) (nI r) mt (bs_i q1) (gf_T n L) ab2 en2 lf2 bl2 tr2 (nI n) (nI x) mt2 (bs_i q2) bo (bs_i q4)) s.heap := hP
  have hl := lv_entry ([.ref h0, .int v0]) (n := 3) (Nat.le_of_ble_eq_true rfl)
  rw [lg_entry_eq]
  generalize (lg_sl ([.ref h0, .int v0]) ++ List.replicate (3 - (lg_sl ([.ref h0, .int v0])).length) Slot.unset).toArray = ls at hl ⊢
  have hl : lv_has ls 3 [(0, .ref h0), (1, .int v0)] := hl
  refine lv_iload_n hx hb d_F_begin_0 rfl (lv_at hl 1 rfl) ?_
  refine lv_iconst (v := nI 1) hx hb d_F_begin_1 (by decide) ?_
  refine lv_icmp_lt (tgt := 11) hx hb d_F_begin_2 (by decide) (fun hc2 => ?_) (fun hc2 => ?_)
  · exact vx_throwS (own := "FlowNest") (cls := "java/lang/IllegalArgumentException") (names := ["java/lang/RuntimeException", "java/lang/Exception"]) (ik := 33) (is := 35) (ic := 37) (A := fun q => s.heap.size ≤ q) hx hb hl9 hown (by decide) (by decide) (hts _ (List.mem_cons_of_mem _ nm_199)) (hts _ (List.mem_cons_of_mem _ nm_8)) hX.2.1 (xw_hA hts hX.1) xw_aA3 hX.2.2.2.1 hX.2.2.2.2 (va_S.rf (A := fun q => s.heap.size ≤ q)) (hl.1.trans hml.symm) d_F_begin_11 d_F_begin_14 d_F_begin_15 d_F_begin_17 d_F_begin_20 (fun x hx => (hxt x hx).elim) (show _ + 1 ≤ _ from Nat.le_of_ble_eq_true rfl) (Nat.le_of_ble_eq_true rfl) (Nat.le_of_ble_eq_true rfl) (Nat.le_of_ble_eq_true rfl) hlocks (fun t hv hz hk => ⟨(), bg_no1 hc2, rfl, hz, fun q hq _ => hk q hq⟩) (fun _ h => nomatch h) (Nat.le_of_ble_eq_true rfl) (Nat.le_of_ble_eq_true rfl)
  · refine lv_iload_n hx hb d_F_begin_5 rfl (lv_at hl 1 rfl) ?_
    refine lv_bipush (v := nI 48) hx hb d_F_begin_6 (by decide) ?_
    refine lv_icmp_le (tgt := 21) hx hb d_F_begin_8 (by decide) (fun hc8 => ?_) (fun hc8 => ?_)
    · obtain ⟨m0, hm1, hm2, rfl⟩ := bg_in hc2 hc8
      refine lv_aload_n hx hb d_F_begin_21 rfl (lv_at hl 0 rfl) ?_
      refine va_get (D := (dC, dI)) (ci := 2) (v := .int (nI n)) (C := "FlowNest") (T := T_F) (N := 5) hx hb hts nm_iF hown hK hP 0 rfl rfl 3 (by decide) (hts _ (List.mem_cons_of_mem _ nm_86)) (fun _ h9 => h9) rfl d_F_begin_22 ?_
      refine lv_istore_n (lv' := [(2, .int (nI n)), (0, .ref h0), (1, .int (nI m0))]) hx hb d_F_begin_25 rfl hl (by decide) rfl (fun ls hl => ?_)
      refine lv_aload_n hx hb d_F_begin_26 rfl (lv_at hl 1 rfl) ?_
      refine lv_iload_n hx hb d_F_begin_27 rfl (lv_at hl 2 rfl) ?_
      refine va_put (D := (dC, dI)) (ci := 2) (v := .int (nI m0)) (ty := .int) (C := "FlowNest") (T := T_F) (N := 5) hx hb hts nm_iF t_F t_F_ok nm_F hown hK hP hD hS 0 rfl rfl 3 (by decide) (hts _ (List.mem_cons_of_mem _ nm_86)) (fun _ h9 => h9) rfl (by decide +kernel) (by rfl) (by rfl) (Nat.le_of_ble_eq_true rfl) d_F_begin_28 (fun H locs hP hD hS => ?_)
      have hP : va_P (dC, dI) vwCl (fn_ws cJ cI h0 h1 n1 a1 e1 l1 b1 t1 h2 n2 a2 e2 l2 b2 t2 h4 c4 (nI m0) (nI (sp_lc n L)) L ab en lf bl tr (nI n) (nI r) mt (bs_i q1) (gf_T n L) ab2 en2 lf2 bl2 tr2 (nI n) (nI x) mt2 (bs_i q2) bo (bs_i q4)) H := hP
      have hD : va_D A (fn_ws cJ cI h0 h1 n1 a1 e1 l1 b1 t1 h2 n2 a2 e2 l2 b2 t2 h4 c4 (nI m0) (nI (sp_lc n L)) L ab en lf bl tr (nI n) (nI r) mt (bs_i q1) (gf_T n L) ab2 en2 lf2 bl2 tr2 (nI n) (nI x) mt2 (bs_i q2) bo (bs_i q4)) := hD
      refine lv_aload_n hx hb d_F_begin_31 rfl (lv_at hl 1 rfl) ?_
      refine lv_iconst (v := nI 0) hx hb d_F_begin_32 (by decide) ?_
      refine va_put (D := (dC, dI)) (ci := 2) (v := .int (nI 0)) (ty := .int) (C := "FlowNest") (T := T_F) (N := 5) hx hb hts nm_iF t_F t_F_ok nm_F hown hK hP hD hS 0 rfl rfl 4 (by decide) (hts _ (List.mem_cons_of_mem _ nm_87)) (fun _ h9 => h9) rfl (by decide +kernel) (by rfl) (by rfl) (Nat.le_of_ble_eq_true rfl) d_F_begin_33 (fun H locs hP hD hS => ?_)
      have hP : va_P (dC, dI) vwCl (fn_ws cJ cI h0 h1 n1 a1 e1 l1 b1 t1 h2 n2 a2 e2 l2 b2 t2 h4 c4 (nI m0) (nI 0) L ab en lf bl tr (nI n) (nI r) mt (bs_i q1) (gf_T n L) ab2 en2 lf2 bl2 tr2 (nI n) (nI x) mt2 (bs_i q2) bo (bs_i q4)) H := hP
      have hD : va_D A (fn_ws cJ cI h0 h1 n1 a1 e1 l1 b1 t1 h2 n2 a2 e2 l2 b2 t2 h4 c4 (nI m0) (nI 0) L ab en lf bl tr (nI n) (nI r) mt (bs_i q1) (gf_T n L) ab2 en2 lf2 bl2 tr2 (nI n) (nI x) mt2 (bs_i q2) bo (bs_i q4)) := hD
      refine lv_aload_n hx hb d_F_begin_36 rfl (lv_at hl 1 rfl) ?_
      refine va_get (D := (dC, dI)) (ci := 2) (v := .ref h1) (C := "FlowNest") (T := T_F) (N := 5) hx hb hts nm_iF hown hK hP 0 rfl rfl 0 (by decide) (hts _ (List.mem_cons_of_mem _ nm_83)) (fun _ h9 => h9) rfl d_F_begin_37 ?_
      refine lv_iload_n hx hb d_F_begin_40 rfl (lv_at hl 2 rfl) ?_
      refine lv_iconst (v := nI 0) hx hb d_F_begin_41 (by decide) ?_
      have hPc := hP.sub (ws' := sd_ws cJ cI h1 n1 a1 e1 l1 b1 t1 L ab en lf bl tr (nI n) (nI r) mt (bs_i q1)) [1, 2, 3, 4, 5, 6, 7] rfl
      have hDc := hD.sub (ws' := sd_ws cJ cI h1 n1 a1 e1 l1 b1 t1 L ab en lf bl tr (nI n) (nI r) mt (bs_i q1)) [1, 2, 3, 4, 5, 6, 7] (by decide) rfl
      have hFc := va_free (wc := sd_ws cJ cI h1 n1 a1 e1 l1 b1 t1 L ab en lf bl tr (nI n) (nI r) mt (bs_i q1)) hD hS hA [1, 2, 3, 4, 5, 6, 7] rfl
      refine va_callv (va_runV (C := "FlowNest$Side") (b := h1) (As := [.int (nI m0), .int (nI 0)]) (rest := []) ⟨hx, hb, hml, hown, hts⟩ (c_S_startWith l dC dI cJ cI h1 n1 a1 e1 l1 b1 t1 H.size L ab en lf bl tr (nI n) (nI r) mt (bs_i q1) (nI m0) (nI 0)) (cwV 2 hts (nm_gV nm_266 nm_267 nm_268 nm_2 nm_c_S_startWith) rfl rfl rfl (by decide +kernel) ⟨Nat.le_of_ble_eq_true rfl, Nat.le_of_ble_eq_true rfl⟩) ⟨cw_blindM, va_recv hK hP (ci := 1) rfl (q0 := 1) rfl, cw_preM hPc hDc hK hNw⟩ rfl rfl hl.1 rfl (lv_room (Nat.le_of_ble_eq_true rfl)) d_F_begin_42 ⟨Nat.le_of_ble_eq_true rfl, Nat.le_of_ble_eq_true rfl⟩) hS (fun q _ h => hFc q h) hFc (fun u9 t H1 locs ht hvm hw2 hB hz1 hk1 hS => ?_)
      obtain ⟨hP1, hD1⟩ := hB
      rw [ht] at hP1
      obtain ⟨hP, hD⟩ := va_join (wr := ([0, 8, 9, 10, 11, 12, 13, 14, 15, 16] : List Nat).filterMap (fun (i : Nat) => (fn_ws cJ cI h0 h1 n1 a1 e1 l1 b1 t1 h2 n2 a2 e2 l2 b2 t2 h4 c4 (nI m0) (nI 0) L ab en lf bl tr (nI n) (nI r) mt (bs_i q1) (gf_T n L) ab2 en2 lf2 bl2 tr2 (nI n) (nI x) mt2 (bs_i q2) bo (bs_i q4))[i]?)) (w1 := sd_ws cJ cI h1 n1 a1 e1 l1 b1 t1 (fun _ => 0) ab en lf bl tr (nI m0) (nI 0) mt (nI 1)) hP hD [1, 2, 3, 4, 5, 6, 7] [0, 8, 9, 10, 11, 12, 13, 14, 15, 16] rfl rfl (by decide) (by decide) hk1 hFc hP1 hD1
      generalize H1 = H at hP hS ⊢
      have hP : va_P (dC, dI) vwCl (fn_ws cJ cI h0 h1 n1 a1 e1 l1 b1 t1 h2 n2 a2 e2 l2 b2 t2 h4 c4 (nI m0) (nI 0) (fun _ => 0) ab en lf bl tr (nI m0) (nI 0) mt (nI 1) (gf_T n L) ab2 en2 lf2 bl2 tr2 (nI n) (nI x) mt2 (bs_i q2) bo (bs_i q4)) H := hP.sub (ws' := fn_ws cJ cI h0 h1 n1 a1 e1 l1 b1 t1 h2 n2 a2 e2 l2 b2 t2 h4 c4 (nI m0) (nI 0) (fun _ => 0) ab en lf bl tr (nI m0) (nI 0) mt (nI 1) (gf_T n L) ab2 en2 lf2 bl2 tr2 (nI n) (nI x) mt2 (bs_i q2) bo (bs_i q4)) [0, 10, 11, 12, 13, 14, 15, 16, 1, 2, 3, 4, 5, 6, 7, 8, 9] rfl
      have hD : va_D A (fn_ws cJ cI h0 h1 n1 a1 e1 l1 b1 t1 h2 n2 a2 e2 l2 b2 t2 h4 c4 (nI m0) (nI 0) (fun _ => 0) ab en lf bl tr (nI m0) (nI 0) mt (nI 1) (gf_T n L) ab2 en2 lf2 bl2 tr2 (nI n) (nI x) mt2 (bs_i q2) bo (bs_i q4)) := hD.sub (ws' := fn_ws cJ cI h0 h1 n1 a1 e1 l1 b1 t1 h2 n2 a2 e2 l2 b2 t2 h4 c4 (nI m0) (nI 0) (fun _ => 0) ab en lf bl tr (nI m0) (nI 0) mt (nI 1) (gf_T n L) ab2 en2 lf2 bl2 tr2 (nI n) (nI x) mt2 (bs_i q2) bo (bs_i q4)) [0, 10, 11, 12, 13, 14, 15, 16, 1, 2, 3, 4, 5, 6, 7, 8, 9] (by decide) rfl
      refine lv_aload_n hx hb d_F_begin_45 rfl (lv_at hl 1 rfl) ?_
      refine va_get (D := (dC, dI)) (ci := 2) (v := .ref h2) (C := "FlowNest") (T := T_F) (N := 5) hx hb hts nm_iF hown hK hP 0 rfl rfl 1 (by decide) (hts _ (List.mem_cons_of_mem _ nm_84)) (fun _ h9 => h9) rfl d_F_begin_46 ?_
      refine lv_iload_n hx hb d_F_begin_49 rfl (lv_at hl 2 rfl) ?_
      refine lv_iload_n hx hb d_F_begin_50 rfl (lv_at hl 2 rfl) ?_
      refine lv_iconst (v := nI 1) hx hb d_F_begin_51 (by decide) ?_
      refine wl_isubn hx hb (by omega) d_F_begin_52 ?_
      have hPc := hP.sub (ws' := sd_ws cJ cI h2 n2 a2 e2 l2 b2 t2 (gf_T n L) ab2 en2 lf2 bl2 tr2 (nI n) (nI x) mt2 (bs_i q2)) [8, 9, 10, 11, 12, 13, 14] rfl
      have hDc := hD.sub (ws' := sd_ws cJ cI h2 n2 a2 e2 l2 b2 t2 (gf_T n L) ab2 en2 lf2 bl2 tr2 (nI n) (nI x) mt2 (bs_i q2)) [8, 9, 10, 11, 12, 13, 14] (by decide) rfl
      have hFc := va_free (wc := sd_ws cJ cI h2 n2 a2 e2 l2 b2 t2 (gf_T n L) ab2 en2 lf2 bl2 tr2 (nI n) (nI x) mt2 (bs_i q2)) hD hS hA [8, 9, 10, 11, 12, 13, 14] rfl
      refine va_callv (va_runV (C := "FlowNest$Side") (b := h2) (As := [.int (nI m0), .int (nI (m0 - 1))]) (rest := []) ⟨hx, hb, hml, hown, hts⟩ (c_S_startWith l dC dI cJ cI h2 n2 a2 e2 l2 b2 t2 H.size (gf_T n L) ab2 en2 lf2 bl2 tr2 (nI n) (nI x) mt2 (bs_i q2) (nI m0) (nI (m0 - 1))) (cwV 2 hts (nm_gV nm_266 nm_267 nm_268 nm_2 nm_c_S_startWith) rfl rfl rfl (by decide +kernel) ⟨Nat.le_of_ble_eq_true rfl, Nat.le_of_ble_eq_true rfl⟩) ⟨cw_blindM, va_recv hK hP (ci := 1) rfl (q0 := 8) rfl, cw_preM hPc hDc hK hNw⟩ rfl rfl hl.1 rfl (lv_room (Nat.le_of_ble_eq_true rfl)) d_F_begin_53 ⟨Nat.le_of_ble_eq_true rfl, Nat.le_of_ble_eq_true rfl⟩) hS (fun q _ h => hFc q h) hFc (fun u9 t H1 locs ht hvm hw4 hB hz1 hk1 hS => ?_)
      obtain ⟨hP1, hD1⟩ := hB
      rw [ht] at hP1
      obtain ⟨hP, hD⟩ := va_join (wr := ([0, 1, 2, 3, 4, 5, 6, 7, 15, 16] : List Nat).filterMap (fun (i : Nat) => (fn_ws cJ cI h0 h1 n1 a1 e1 l1 b1 t1 h2 n2 a2 e2 l2 b2 t2 h4 c4 (nI m0) (nI 0) (fun _ => 0) ab en lf bl tr (nI m0) (nI 0) mt (nI 1) (gf_T n L) ab2 en2 lf2 bl2 tr2 (nI n) (nI x) mt2 (bs_i q2) bo (bs_i q4))[i]?)) (w1 := sd_ws cJ cI h2 n2 a2 e2 l2 b2 t2 (fun _ => 0) ab2 en2 lf2 bl2 tr2 (nI m0) (nI (m0 - 1)) mt2 (nI 1)) hP hD [8, 9, 10, 11, 12, 13, 14] [0, 1, 2, 3, 4, 5, 6, 7, 15, 16] rfl rfl (by decide) (by decide) hk1 hFc hP1 hD1
      generalize H1 = H at hP hS ⊢
      have hP : va_P (dC, dI) vwCl (fn_ws cJ cI h0 h1 n1 a1 e1 l1 b1 t1 h2 n2 a2 e2 l2 b2 t2 h4 c4 (nI m0) (nI 0) (fun _ => 0) ab en lf bl tr (nI m0) (nI 0) mt (nI 1) (fun _ => 0) ab2 en2 lf2 bl2 tr2 (nI m0) (nI (m0 - 1)) mt2 (nI 1) bo (bs_i q4)) H := hP.sub (ws' := fn_ws cJ cI h0 h1 n1 a1 e1 l1 b1 t1 h2 n2 a2 e2 l2 b2 t2 h4 c4 (nI m0) (nI 0) (fun _ => 0) ab en lf bl tr (nI m0) (nI 0) mt (nI 1) (fun _ => 0) ab2 en2 lf2 bl2 tr2 (nI m0) (nI (m0 - 1)) mt2 (nI 1) bo (bs_i q4)) [0, 1, 2, 3, 4, 5, 6, 7, 10, 11, 12, 13, 14, 15, 16, 8, 9] rfl
      have hD : va_D A (fn_ws cJ cI h0 h1 n1 a1 e1 l1 b1 t1 h2 n2 a2 e2 l2 b2 t2 h4 c4 (nI m0) (nI 0) (fun _ => 0) ab en lf bl tr (nI m0) (nI 0) mt (nI 1) (fun _ => 0) ab2 en2 lf2 bl2 tr2 (nI m0) (nI (m0 - 1)) mt2 (nI 1) bo (bs_i q4)) := hD.sub (ws' := fn_ws cJ cI h0 h1 n1 a1 e1 l1 b1 t1 h2 n2 a2 e2 l2 b2 t2 h4 c4 (nI m0) (nI 0) (fun _ => 0) ab en lf bl tr (nI m0) (nI 0) mt (nI 1) (fun _ => 0) ab2 en2 lf2 bl2 tr2 (nI m0) (nI (m0 - 1)) mt2 (nI 1) bo (bs_i q4)) [0, 1, 2, 3, 4, 5, 6, 7, 10, 11, 12, 13, 14, 15, 16, 8, 9] (by decide) rfl
      refine lv_aload_n hx hb d_F_begin_56 rfl (lv_at hl 1 rfl) ?_
      refine va_get (D := (dC, dI)) (ci := 2) (v := .ref h4) (C := "FlowNest") (T := T_F) (N := 5) hx hb hts nm_iF hown hK hP 0 rfl rfl 2 (by decide) (hts _ (List.mem_cons_of_mem _ nm_85)) (fun _ h9 => h9) rfl d_F_begin_57 ?_
      refine lv_iconst (v := nI 1) hx hb d_F_begin_60 (by decide) ?_
      refine va_put (D := (dC, dI)) (ci := 0) (v := .int (nI 1)) (ty := .boolean) (C := "FlowNest$Nest") (T := T_N) (N := 2) hx hb hts nm_iN t_N t_N_ok nm_N hown hK hP hD hS 15 rfl rfl 1 (by decide) (hts _ (List.mem_cons_of_mem _ nm_77)) (fun _ h9 => h9) rfl (by decide +kernel) (by rfl) (by rfl) (Nat.le_of_ble_eq_true rfl) d_F_begin_61 (fun H locs hP hD hS => ?_)
      have hP : va_P (dC, dI) vwCl (fn_ws cJ cI h0 h1 n1 a1 e1 l1 b1 t1 h2 n2 a2 e2 l2 b2 t2 h4 c4 (nI m0) (nI 0) (fun _ => 0) ab en lf bl tr (nI m0) (nI 0) mt (nI 1) (fun _ => 0) ab2 en2 lf2 bl2 tr2 (nI m0) (nI (m0 - 1)) mt2 (nI 1) bo (nI 1)) H := hP
      have hD : va_D A (fn_ws cJ cI h0 h1 n1 a1 e1 l1 b1 t1 h2 n2 a2 e2 l2 b2 t2 h4 c4 (nI m0) (nI 0) (fun _ => 0) ab en lf bl tr (nI m0) (nI 0) mt (nI 1) (fun _ => 0) ab2 en2 lf2 bl2 tr2 (nI m0) (nI (m0 - 1)) mt2 (nI 1) bo (nI 1)) := hD
      refine lv_iload_n hx hb d_F_begin_64 rfl (lv_at hl 0 rfl) ?_
      exact vx_ret (W.widen (k := 1) (n := 6) (Nat.le_of_ble_eq_true rfl) (Nat.le_of_ble_eq_true rfl) (W.iret (v := nI n) hx hb hr (fun t ht hW => ⟨⟨(nI n), m0, rfl, ⟨hm1, hm2, rfl, rfl⟩, by rw [ht]; exact hP, hD⟩, hS.F ht⟩) hS.2.2 d_F_begin_65))
    · exact vx_throwS (own := "FlowNest") (cls := "java/lang/IllegalArgumentException") (names := ["java/lang/RuntimeException", "java/lang/Exception"]) (ik := 33) (is := 35) (ic := 37) (A := fun q => s.heap.size ≤ q) hx hb hl9 hown (by decide) (by decide) (hts _ (List.mem_cons_of_mem _ nm_199)) (hts _ (List.mem_cons_of_mem _ nm_8)) hX.2.1 (xw_hA hts hX.1) xw_aA3 hX.2.2.2.1 hX.2.2.2.2 (va_S.rf (A := fun q => s.heap.size ≤ q)) (hl.1.trans hml.symm) d_F_begin_11 d_F_begin_14 d_F_begin_15 d_F_begin_17 d_F_begin_20 (fun x hx => (hxt x hx).elim) (show _ + 1 ≤ _ from Nat.le_of_ble_eq_true rfl) (Nat.le_of_ble_eq_true rfl) (Nat.le_of_ble_eq_true rfl) (Nat.le_of_ble_eq_true rfl) hlocks (fun t hv hz hk => ⟨(), bg_no2 hc8, rfl, hz, fun q hq _ => hk q hq⟩) (fun _ h => nomatch h) (Nat.le_of_ble_eq_true rfl) (Nat.le_of_ble_eq_true rfl)
set_option maxHeartbeats 4000000 in
set_option maxRecDepth 100000 in
theorem c_F_link (l : Launch) (hl9 : l.stackTraces = false) (dC : Nat → ClassId) (dI : Nat → Nat → Nat) (cJ cI : ClassId) (h0 h1 n1 a1 e1 l1 b1 t1 h2 n2 a2 e2 l2 b2 t2 h4 c4 hs sa sb : Nat) (ab : Nat → Int64) (en : Nat → Int32) (lf : Nat → Int32) (bl : Nat → Int32) (tr : Nat → Int32) (mt : Int64) (ab2 : Nat → Int64) (en2 : Nat → Int32) (lf2 : Nat → Int32) (bl2 : Nat → Int32) (tr2 : Nat → Int32) (mt2 : Int64) (bo : Nat → Int64) (n r x : Nat) (L : Nat → Int64) (q1 q2 q4 : Bool) (u0 v0 : Int32) (hn : n ≤ 48) (hL : ∀ u v, gf_E n L u v → v < n) (hI1 : fv_S n r L q1 ab en lf bl mt) (hI2 : fv_S n x (gf_T n L) q2 ab2 en2 lf2 bl2 mt2) (hI4 : fv_N n r L q4 bo) : vx_Met l y_F_link w_F_link ({ frames := 7, cells := 2, slots := 12, locals := 103 }) (va_Pc [.ref h0, .int u0, .int v0] (cw_T (dC, dI) cJ cI (fn_ws cJ cI h0 h1 n1 a1 e1 l1 b1 t1 h2 n2 a2 e2 l2 b2 t2 h4 c4 (nI n) (nI (sp_lc n L)) L ab en lf bl tr (nI n) (nI r) mt (bs_i q1) (gf_T n L) ab2 en2 lf2 bl2 tr2 (nI n) (nI x) mt2 (bs_i q2) bo (bs_i q4)) hs sa sb)) (va_Qi (fun (r9 : Int32) (u9 : (Nat → Int64) × (Nat → Int64) × Int32) => match u9 with | (L9, M9, c9) => ∃ k j, k < n ∧ j < n ∧ u0 = nI k ∧ v0 = nI j ∧ L9 = vp_updL L k (L k ^^^ bs_b j) ∧ M9 = gf_T n L9 ∧ c9 = nI (sp_lc n L9) ∧ r9 = bs_i (!bs_t (L k) j)) (fun (u9 : (Nat → Int64) × (Nat → Int64) × Int32) (t : State) => match u9 with | (L9, M9, c9) => va_P (dC, dI) vwCl (fn_ws cJ cI h0 h1 n1 a1 e1 l1 b1 t1 h2 n2 a2 e2 l2 b2 t2 h4 c4 (nI n) c9 L9 ab en lf bl tr (nI n) (nI r) mt (nI 1) M9 ab2 en2 lf2 bl2 tr2 (nI n) (nI x) mt2 (nI 1) bo (nI 1)) t.heap ∧ va_D (va_A (fn_ws cJ cI h0 h1 n1 a1 e1 l1 b1 t1 h2 n2 a2 e2 l2 b2 t2 h4 c4 (nI n) (nI (sp_lc n L)) L ab en lf bl tr (nI n) (nI r) mt (bs_i q1) (gf_T n L) ab2 en2 lf2 bl2 tr2 (nI n) (nI x) mt2 (bs_i q2) bo (bs_i q4)) hs) (fn_ws cJ cI h0 h1 n1 a1 e1 l1 b1 t1 h2 n2 a2 e2 l2 b2 t2 h4 c4 (nI n) c9 L9 ab en lf bl tr (nI n) (nI r) mt (nI 1) M9 ab2 en2 lf2 bl2 tr2 (nI n) (nI x) mt2 (nI 1) bo (nI 1))) (va_A (fn_ws cJ cI h0 h1 n1 a1 e1 l1 b1 t1 h2 n2 a2 e2 l2 b2 t2 h4 c4 (nI n) (nI (sp_lc n L)) L ab en lf bl tr (nI n) (nI r) mt (bs_i q1) (gf_T n L) ab2 en2 lf2 bl2 tr2 (nI n) (nI x) mt2 (bs_i q2) bo (bs_i q4)) hs)) (vx_X (fun (_ : Unit) => ¬ ((∃ k, k < n ∧ u0 = nI k) ∧ ∃ j, j < n ∧ v0 = nI j)) (fun E _ _ => E = "java/lang/IndexOutOfBoundsException") (fun q => hs ≤ q)) 2 12 (va_A (fn_ws cJ cI h0 h1 n1 a1 e1 l1 b1 t1 h2 n2 a2 e2 l2 b2 t2 h4 c4 (nI n) (nI (sp_lc n L)) L ab en lf bl tr (nI n) (nI r) mt (bs_i q1) (gf_T n L) ab2 en2 lf2 bl2 tr2 (nI n) (nI x) mt2 (bs_i q2) bo (bs_i q4)) hs) := by
  refine vx_ofW (cc := b_F_link) (maxL := 4) (ret := (some .int)) (by decide) rfl ?_
  intro p e s m args below meth c s₁ B hml hxt hv9
  obtain ⟨rfl, ⟨hsz, ⟨hP, hK, hNw⟩, hD0⟩, hX⟩ := hv9
  have hx := B.exec
  have hb := B.bytes
  have hr := B.returns
  have hts := atoms_spec (ws := w_F_link) B.pre
  have hown : s.vm.findClass "FlowNest" = some m.cls := findClass_of_methodNamed B.named
  have hlocks := B.notSynchronized
  subst hsz
  have hU : s.heap.size ≤ s.heap.size ∧ ∀ q : Nat, q < s.heap.size → s.heap[q]? = s.heap[q]? := ⟨Nat.le_refl _, fun _ _ => rfl⟩
  have hD := hD0.self (sz := s.heap.size)
  generalize hAe : va_A (fn_ws cJ cI h0 h1 n1 a1 e1 l1 b1 t1 h2 n2 a2 e2 l2 b2 t2 h4 c4 (nI n) (nI (sp_lc n L)) L ab en lf bl tr (nI n) (nI r) mt (bs_i q1) (gf_T n L) ab2 en2 lf2 bl2 tr2 (nI n) (nI x) mt2 (bs_i q2) bo (bs_i q4)) s.heap.size = A at hD ⊢
  have hA : ∀ q : Nat, s.heap.size ≤ q → A q := fun q h => by rw [← hAe]; exact Or.inr h
  have hS : va_S A s.heap s.heap [] := va_S.rf
  have hP : va_P (dC, dI) vwCl (fn_ws cJ cI h0 h1 n1 a1 e1 l1 b1 t1 h2 n2 a2 e2 l2 b2 t2 h4 c4 (nI n) (nI (sp_lc n L)) L ab en lf bl tr (nI n) (nI r) mt (bs_i q1) (gf_T n L) ab2 en2 lf2 bl2 tr2 (nI n) (nI x) mt2 (bs_i q2) bo (bs_i q4)) s.heap := hP
  have hl := lv_entry ([.ref h0, .int u0, .int v0]) (n := 4) (Nat.le_of_ble_eq_true rfl)
  rw [lg_entry_eq]
  generalize (lg_sl ([.ref h0, .int u0, .int v0]) ++ List.replicate (4 - (lg_sl ([.ref h0, .int u0, .int v0])).length) Slot.unset).toArray = ls at hl ⊢
  have hl : lv_has ls 4 [(0, .ref h0), (1, .int u0), (2, .int v0)] := hl
  refine lv_aload_n hx hb d_F_link_0 rfl (lv_at hl 0 rfl) ?_
  refine lv_iload_n hx hb d_F_link_1 rfl (lv_at hl 1 rfl) ?_
  have hPc := hP.sub (ws' := fo_ws cJ cI h0 h1 h2 h4 (nI n) (nI (sp_lc n L))) [0] rfl
  have hDc := hD.sub (ws' := fo_ws cJ cI h0 h1 h2 h4 (nI n) (nI (sp_lc n L))) [0] (by decide) rfl
  refine vx_callv (vx_runV (C := "FlowNest") (b := h0) (As := [.int u0]) (rest := []) ⟨hx, hb, hml, hown, hts⟩ (c_F_requireVertex l hl9 dC dI cJ cI h0 h1 h2 h4 s.heap.size sa sb (nI (sp_lc n L)) n u0 hn) (cwV 1 hts (nm_gV nm_281 nm_283 nm_s_F_requireVertex nm_1 nm_c_F_requireVertex) rfl rfl rfl (by decide +kernel) ⟨Nat.le_of_ble_eq_true rfl, Nat.le_of_ble_eq_true rfl⟩) ⟨cw_blindT, va_recv hK hP (ci := 2) rfl (q0 := 0) rfl, cw_preT hPc hDc hK hNw hX⟩ rfl rfl hl.1 rfl (lv_room (Nat.le_of_ble_eq_true rfl)) d_F_link_2 ⟨Nat.le_of_ble_eq_true rfl, Nat.le_of_ble_eq_true rfl⟩) hS (fun q h1 h2 => absurd h2 (by omega)) (fun q h => h.elim) (fun q h1 h2 => absurd h2 (by omega)) (fun E ce q9 u t H1 locs1 ht hvm hpx hbx hz1 hk1 hS1 hce hcv hcl => ?_) (fun u t H1 locs ht hvm hw1 hB hz1 hk1 hS => ?_)
  · have hkk : ∀ q : Nat, q < s.heap.size → H1[q]? = s.heap[q]? := fun q h => hk1 q h (by omega)
    exact vx_out (fun x hx => (hxt x hx).elim) hlocks hce hcv hcl (fun t2 ht2 hv2 => ⟨(), fun z => hpx z.1, hbx, by rw [ht2]; exact Nat.le_trans hU.1 hz1, fun q hq _ => by rw [ht2]; exact (hkk q (Nat.lt_of_lt_of_le hq hU.1)).trans (hU.2 q hq)⟩) hS1.2.2 (Nat.le_of_ble_eq_true rfl) (Nat.le_of_ble_eq_true rfl)
  have hkk : ∀ q : Nat, q < s.heap.size → H1[q]? = s.heap[q]? := fun q h => hk1 q h (by omega)
  have hP := va_Pk hP hkk
  have hX := tx_kept hX hz1 hkk
  have hU : s.heap.size ≤ H1.size ∧ ∀ q : Nat, q < s.heap.size → H1[q]? = s.heap[q]? := ⟨Nat.le_trans hU.1 hz1, fun q h => (hkk q (Nat.lt_of_lt_of_le h hU.1)).trans (hU.2 q h)⟩
  clear hkk hk1 hz1 hPc hDc ht
  generalize H1 = H at hP hS hX hU ⊢
  obtain ⟨k, hk_k, rfl⟩ := hw1
  refine lv_aload_n hx hb d_F_link_5 rfl (lv_at hl 0 rfl) ?_
  refine lv_iload_n hx hb d_F_link_6 rfl (lv_at hl 2 rfl) ?_
  have hPc := hP.sub (ws' := fo_ws cJ cI h0 h1 h2 h4 (nI n) (nI (sp_lc n L))) [0] rfl
  have hDc := hD.sub (ws' := fo_ws cJ cI h0 h1 h2 h4 (nI n) (nI (sp_lc n L))) [0] (by decide) rfl
  refine vx_callv (vx_runV (C := "FlowNest") (b := h0) (As := [.int v0]) (rest := []) ⟨hx, hb, hml, hown, hts⟩ (c_F_requireVertex l hl9 dC dI cJ cI h0 h1 h2 h4 H.size sa sb (nI (sp_lc n L)) n v0 hn) (cwV 1 hts (nm_gV nm_281 nm_283 nm_s_F_requireVertex nm_1 nm_c_F_requireVertex) rfl rfl rfl (by decide +kernel) ⟨Nat.le_of_ble_eq_true rfl, Nat.le_of_ble_eq_true rfl⟩) ⟨cw_blindT, va_recv hK hP (ci := 2) rfl (q0 := 0) rfl, cw_preT hPc hDc hK hNw hX⟩ rfl rfl hl.1 rfl (lv_room (Nat.le_of_ble_eq_true rfl)) d_F_link_7 ⟨Nat.le_of_ble_eq_true rfl, Nat.le_of_ble_eq_true rfl⟩) hS (fun q h1 h2 => absurd h2 (by omega)) (fun q h => h.elim) (fun q h1 h2 => absurd h2 (by omega)) (fun E ce q9 u t H1 locs1 ht hvm hpx hbx hz1 hk1 hS1 hce hcv hcl => ?_) (fun u t H1 locs ht hvm hw2 hB hz1 hk1 hS => ?_)
  · have hkk : ∀ q : Nat, q < H.size → H1[q]? = H[q]? := fun q h => hk1 q h (by omega)
    exact vx_out (fun x hx => (hxt x hx).elim) hlocks hce hcv hcl (fun t2 ht2 hv2 => ⟨(), fun z => hpx z.2, hbx, by rw [ht2]; exact Nat.le_trans hU.1 hz1, fun q hq _ => by rw [ht2]; exact (hkk q (Nat.lt_of_lt_of_le hq hU.1)).trans (hU.2 q hq)⟩) hS1.2.2 (Nat.le_of_ble_eq_true rfl) (Nat.le_of_ble_eq_true rfl)
  have hkk : ∀ q : Nat, q < H.size → H1[q]? = H[q]? := fun q h => hk1 q h (by omega)
  have hP := va_Pk hP hkk
  have hX := tx_kept hX hz1 hkk
  have hU : s.heap.size ≤ H1.size ∧ ∀ q : Nat, q < s.heap.size → H1[q]? = s.heap[q]? := ⟨Nat.le_trans hU.1 hz1, fun q h => (hkk q (Nat.lt_of_lt_of_le h hU.1)).trans (hU.2 q h)⟩
  clear hkk hk1 hz1 hPc hDc ht
  generalize H1 = H at hP hS hX hU ⊢
  obtain ⟨j, hk_j, rfl⟩ := hw2
  refine lv_aload_n hx hb d_F_link_10 rfl (lv_at hl 0 rfl) ?_
  refine va_get (D := (dC, dI)) (ci := 2) (v := .ref h1) (C := "FlowNest") (T := T_F) (N := 5) hx hb hts nm_iF hown hK hP 0 rfl rfl 0 (by decide) (hts _ (List.mem_cons_of_mem _ nm_83)) (fun _ h9 => h9) rfl d_F_link_11 ?_
  refine lv_iload_n hx hb d_F_link_14 rfl (lv_at hl 1 rfl) ?_
  refine lv_iload_n hx hb d_F_link_15 rfl (lv_at hl 2 rfl) ?_
  have hPc := hP.sub (ws' := sd_ws cJ cI h1 n1 a1 e1 l1 b1 t1 L ab en lf bl tr (nI n) (nI r) mt (bs_i q1)) [1, 2, 3, 4, 5, 6, 7] rfl
  have hDc := hD.sub (ws' := sd_ws cJ cI h1 n1 a1 e1 l1 b1 t1 L ab en lf bl tr (nI n) (nI r) mt (bs_i q1)) [1, 2, 3, 4, 5, 6, 7] (by decide) rfl
  have hFc := va_free (wc := sd_ws cJ cI h1 n1 a1 e1 l1 b1 t1 L ab en lf bl tr (nI n) (nI r) mt (bs_i q1)) hD hS hA [1, 2, 3, 4, 5, 6, 7] rfl
  refine va_callv (va_runV (C := "FlowNest$Side") (b := h1) (As := [.int (nI k), .int (nI j)]) (rest := []) ⟨hx, hb, hml, hown, hts⟩ (c_S_turn l dC dI cJ cI h1 n1 a1 e1 l1 b1 t1 H.size L ab en lf bl tr (nI n) (nI r) mt (bs_i q1) k j (by omega)) (cwV 2 hts (nm_gV nm_301 nm_302 nm_303 nm_2 nm_c_S_turn) rfl rfl rfl (by decide +kernel) ⟨Nat.le_of_ble_eq_true rfl, Nat.le_of_ble_eq_true rfl⟩) ⟨cw_blindM, va_recv hK hP (ci := 1) rfl (q0 := 1) rfl, cw_preM hPc hDc hK hNw⟩ rfl rfl hl.1 rfl (lv_room (Nat.le_of_ble_eq_true rfl)) d_F_link_16 ⟨Nat.le_of_ble_eq_true rfl, Nat.le_of_ble_eq_true rfl⟩) hS (fun q _ h => hFc q h) hFc (fun u9 t H1 locs ht hvm hw4 hB hz1 hk1 hS => ?_)
  obtain ⟨hP1, hD1⟩ := hB
  rw [ht] at hP1
  obtain ⟨hP, hD⟩ := va_join (wr := ([0, 8, 9, 10, 11, 12, 13, 14, 15, 16] : List Nat).filterMap (fun (i : Nat) => (fn_ws cJ cI h0 h1 n1 a1 e1 l1 b1 t1 h2 n2 a2 e2 l2 b2 t2 h4 c4 (nI n) (nI (sp_lc n L)) L ab en lf bl tr (nI n) (nI r) mt (bs_i q1) (gf_T n L) ab2 en2 lf2 bl2 tr2 (nI n) (nI x) mt2 (bs_i q2) bo (bs_i q4))[i]?)) (w1 := sd_ws cJ cI h1 n1 a1 e1 l1 b1 t1 (vp_updL L k (L k ^^^ bs_b j)) ab en lf bl tr (nI n) (nI r) mt (nI 1)) hP hD [1, 2, 3, 4, 5, 6, 7] [0, 8, 9, 10, 11, 12, 13, 14, 15, 16] rfl rfl (by decide) (by decide) hk1 hFc hP1 hD1
  generalize H1 = H at hP hS ⊢
  have hP : va_P (dC, dI) vwCl (fn_ws cJ cI h0 h1 n1 a1 e1 l1 b1 t1 h2 n2 a2 e2 l2 b2 t2 h4 c4 (nI n) (nI (sp_lc n L)) (vp_updL L k (L k ^^^ bs_b j)) ab en lf bl tr (nI n) (nI r) mt (nI 1) (gf_T n L) ab2 en2 lf2 bl2 tr2 (nI n) (nI x) mt2 (bs_i q2) bo (bs_i q4)) H := hP.sub (ws' := fn_ws cJ cI h0 h1 n1 a1 e1 l1 b1 t1 h2 n2 a2 e2 l2 b2 t2 h4 c4 (nI n) (nI (sp_lc n L)) (vp_updL L k (L k ^^^ bs_b j)) ab en lf bl tr (nI n) (nI r) mt (nI 1) (gf_T n L) ab2 en2 lf2 bl2 tr2 (nI n) (nI x) mt2 (bs_i q2) bo (bs_i q4)) [0, 10, 11, 12, 13, 14, 15, 16, 1, 2, 3, 4, 5, 6, 7, 8, 9] rfl
  have hD : va_D A (fn_ws cJ cI h0 h1 n1 a1 e1 l1 b1 t1 h2 n2 a2 e2 l2 b2 t2 h4 c4 (nI n) (nI (sp_lc n L)) (vp_updL L k (L k ^^^ bs_b j)) ab en lf bl tr (nI n) (nI r) mt (nI 1) (gf_T n L) ab2 en2 lf2 bl2 tr2 (nI n) (nI x) mt2 (bs_i q2) bo (bs_i q4)) := hD.sub (ws' := fn_ws cJ cI h0 h1 n1 a1 e1 l1 b1 t1 h2 n2 a2 e2 l2 b2 t2 h4 c4 (nI n) (nI (sp_lc n L)) (vp_updL L k (L k ^^^ bs_b j)) ab en lf bl tr (nI n) (nI r) mt (nI 1) (gf_T n L) ab2 en2 lf2 bl2 tr2 (nI n) (nI x) mt2 (bs_i q2) bo (bs_i q4)) [0, 10, 11, 12, 13, 14, 15, 16, 1, 2, 3, 4, 5, 6, 7, 8, 9] (by decide) rfl
  refine lv_aload_n hx hb d_F_link_19 rfl (lv_at hl 0 rfl) ?_
  refine va_get (D := (dC, dI)) (ci := 2) (v := .ref h2) (C := "FlowNest") (T := T_F) (N := 5) hx hb hts nm_iF hown hK hP 0 rfl rfl 1 (by decide) (hts _ (List.mem_cons_of_mem _ nm_84)) (fun _ h9 => h9) rfl d_F_link_20 ?_
  refine lv_iload_n hx hb d_F_link_23 rfl (lv_at hl 2 rfl) ?_
  refine lv_iload_n hx hb d_F_link_24 rfl (lv_at hl 1 rfl) ?_
  have hPc := hP.sub (ws' := sd_ws cJ cI h2 n2 a2 e2 l2 b2 t2 (gf_T n L) ab2 en2 lf2 bl2 tr2 (nI n) (nI x) mt2 (bs_i q2)) [8, 9, 10, 11, 12, 13, 14] rfl
  have hDc := hD.sub (ws' := sd_ws cJ cI h2 n2 a2 e2 l2 b2 t2 (gf_T n L) ab2 en2 lf2 bl2 tr2 (nI n) (nI x) mt2 (bs_i q2)) [8, 9, 10, 11, 12, 13, 14] (by decide) rfl
  have hFc := va_free (wc := sd_ws cJ cI h2 n2 a2 e2 l2 b2 t2 (gf_T n L) ab2 en2 lf2 bl2 tr2 (nI n) (nI x) mt2 (bs_i q2)) hD hS hA [8, 9, 10, 11, 12, 13, 14] rfl
  refine va_callv (va_runV (C := "FlowNest$Side") (b := h2) (As := [.int (nI j), .int (nI k)]) (rest := []) ⟨hx, hb, hml, hown, hts⟩ (c_S_turn l dC dI cJ cI h2 n2 a2 e2 l2 b2 t2 H.size (gf_T n L) ab2 en2 lf2 bl2 tr2 (nI n) (nI x) mt2 (bs_i q2) j k (by omega)) (cwV 2 hts (nm_gV nm_301 nm_302 nm_303 nm_2 nm_c_S_turn) rfl rfl rfl (by decide +kernel) ⟨Nat.le_of_ble_eq_true rfl, Nat.le_of_ble_eq_true rfl⟩) ⟨cw_blindM, va_recv hK hP (ci := 1) rfl (q0 := 8) rfl, cw_preM hPc hDc hK hNw⟩ rfl rfl hl.1 rfl (lv_room (Nat.le_of_ble_eq_true rfl)) d_F_link_25 ⟨Nat.le_of_ble_eq_true rfl, Nat.le_of_ble_eq_true rfl⟩) hS (fun q _ h => hFc q h) hFc (fun u9 t H1 locs ht hvm hw6 hB hz1 hk1 hS => ?_)
  obtain ⟨hP1, hD1⟩ := hB
  rw [ht] at hP1
  obtain ⟨hP, hD⟩ := va_join (wr := ([0, 1, 2, 3, 4, 5, 6, 7, 15, 16] : List Nat).filterMap (fun (i : Nat) => (fn_ws cJ cI h0 h1 n1 a1 e1 l1 b1 t1 h2 n2 a2 e2 l2 b2 t2 h4 c4 (nI n) (nI (sp_lc n L)) (vp_updL L k (L k ^^^ bs_b j)) ab en lf bl tr (nI n) (nI r) mt (nI 1) (gf_T n L) ab2 en2 lf2 bl2 tr2 (nI n) (nI x) mt2 (bs_i q2) bo (bs_i q4))[i]?)) (w1 := sd_ws cJ cI h2 n2 a2 e2 l2 b2 t2 (vp_updL (gf_T n L) j ((gf_T n L) j ^^^ bs_b k)) ab2 en2 lf2 bl2 tr2 (nI n) (nI x) mt2 (nI 1)) hP hD [8, 9, 10, 11, 12, 13, 14] [0, 1, 2, 3, 4, 5, 6, 7, 15, 16] rfl rfl (by decide) (by decide) hk1 hFc hP1 hD1
  generalize H1 = H at hP hS ⊢
  have hP : va_P (dC, dI) vwCl (fn_ws cJ cI h0 h1 n1 a1 e1 l1 b1 t1 h2 n2 a2 e2 l2 b2 t2 h4 c4 (nI n) (nI (sp_lc n L)) (vp_updL L k (L k ^^^ bs_b j)) ab en lf bl tr (nI n) (nI r) mt (nI 1) (vp_updL (gf_T n L) j ((gf_T n L) j ^^^ bs_b k)) ab2 en2 lf2 bl2 tr2 (nI n) (nI x) mt2 (nI 1) bo (bs_i q4)) H := hP.sub (ws' := fn_ws cJ cI h0 h1 n1 a1 e1 l1 b1 t1 h2 n2 a2 e2 l2 b2 t2 h4 c4 (nI n) (nI (sp_lc n L)) (vp_updL L k (L k ^^^ bs_b j)) ab en lf bl tr (nI n) (nI r) mt (nI 1) (vp_updL (gf_T n L) j ((gf_T n L) j ^^^ bs_b k)) ab2 en2 lf2 bl2 tr2 (nI n) (nI x) mt2 (nI 1) bo (bs_i q4)) [0, 1, 2, 3, 4, 5, 6, 7, 10, 11, 12, 13, 14, 15, 16, 8, 9] rfl
  have hD : va_D A (fn_ws cJ cI h0 h1 n1 a1 e1 l1 b1 t1 h2 n2 a2 e2 l2 b2 t2 h4 c4 (nI n) (nI (sp_lc n L)) (vp_updL L k (L k ^^^ bs_b j)) ab en lf bl tr (nI n) (nI r) mt (nI 1) (vp_updL (gf_T n L) j ((gf_T n L) j ^^^ bs_b k)) ab2 en2 lf2 bl2 tr2 (nI n) (nI x) mt2 (nI 1) bo (bs_i q4)) := hD.sub (ws' := fn_ws cJ cI h0 h1 n1 a1 e1 l1 b1 t1 h2 n2 a2 e2 l2 b2 t2 h4 c4 (nI n) (nI (sp_lc n L)) (vp_updL L k (L k ^^^ bs_b j)) ab en lf bl tr (nI n) (nI r) mt (nI 1) (vp_updL (gf_T n L) j ((gf_T n L) j ^^^ bs_b k)) ab2 en2 lf2 bl2 tr2 (nI n) (nI x) mt2 (nI 1) bo (bs_i q4)) [0, 1, 2, 3, 4, 5, 6, 7, 10, 11, 12, 13, 14, 15, 16, 8, 9] (by decide) rfl
  refine lv_aload_n hx hb d_F_link_28 rfl (lv_at hl 0 rfl) ?_
  refine va_get (D := (dC, dI)) (ci := 2) (v := .ref h4) (C := "FlowNest") (T := T_F) (N := 5) hx hb hts nm_iF hown hK hP 0 rfl rfl 2 (by decide) (hts _ (List.mem_cons_of_mem _ nm_85)) (fun _ h9 => h9) rfl d_F_link_29 ?_
  refine lv_iconst (v := nI 1) hx hb d_F_link_32 (by decide) ?_
  refine va_put (D := (dC, dI)) (ci := 0) (v := .int (nI 1)) (ty := .boolean) (C := "FlowNest$Nest") (T := T_N) (N := 2) hx hb hts nm_iN t_N t_N_ok nm_N hown hK hP hD hS 15 rfl rfl 1 (by decide) (hts _ (List.mem_cons_of_mem _ nm_77)) (fun _ h9 => h9) rfl (by decide +kernel) (by rfl) (by rfl) (Nat.le_of_ble_eq_true rfl) d_F_link_33 (fun H locs hP hD hS => ?_)
  have hP : va_P (dC, dI) vwCl (fn_ws cJ cI h0 h1 n1 a1 e1 l1 b1 t1 h2 n2 a2 e2 l2 b2 t2 h4 c4 (nI n) (nI (sp_lc n L)) (vp_updL L k (L k ^^^ bs_b j)) ab en lf bl tr (nI n) (nI r) mt (nI 1) (vp_updL (gf_T n L) j ((gf_T n L) j ^^^ bs_b k)) ab2 en2 lf2 bl2 tr2 (nI n) (nI x) mt2 (nI 1) bo (nI 1)) H := hP
  have hD : va_D A (fn_ws cJ cI h0 h1 n1 a1 e1 l1 b1 t1 h2 n2 a2 e2 l2 b2 t2 h4 c4 (nI n) (nI (sp_lc n L)) (vp_updL L k (L k ^^^ bs_b j)) ab en lf bl tr (nI n) (nI r) mt (nI 1) (vp_updL (gf_T n L) j ((gf_T n L) j ^^^ bs_b k)) ab2 en2 lf2 bl2 tr2 (nI n) (nI x) mt2 (nI 1) bo (nI 1)) := hD
  refine lv_aload_n hx hb d_F_link_36 rfl (lv_at hl 0 rfl) ?_
  refine va_get (D := (dC, dI)) (ci := 2) (v := .ref h1) (C := "FlowNest") (T := T_F) (N := 5) hx hb hts nm_iF hown hK hP 0 rfl rfl 0 (by decide) (hts _ (List.mem_cons_of_mem _ nm_83)) (fun _ h9 => h9) rfl d_F_link_37 ?_
  refine va_get (D := (dC, dI)) (ci := 1) (v := .ref n1) (C := "FlowNest$Side") (T := T_S) (N := 10) hx hb hts nm_iS hown hK hP 1 rfl rfl 0 (by decide) (hts _ (List.mem_cons_of_mem _ nm_27)) (fun _ h9 => h9) rfl d_F_link_40 ?_
  refine lv_iload_n hx hb d_F_link_43 rfl (lv_at hl 1 rfl) ?_
  refine wl_lald (i := k) hx hb hK hP 2 0 rfl rfl (by omega) (by decide) d_F_link_44 ?_
  rw [show (vp_updL L k (L k ^^^ bs_b j)) k = L k ^^^ bs_b j from pk_uLs]
  refine lv_iload_n hx hb d_F_link_45 rfl (lv_at hl 2 rfl) ?_
  refine vp_callSi (va_Run.run (va_runS (As := [.long (L k ^^^ bs_b j), .int (nI j)]) (rest := []) ⟨hx, hb, hml, hown, hts⟩ (c_F_has l (L k ^^^ bs_b j) j (by omega)) (va_cwS 2 hts (nm_gS nm_305 nm_137 nm_1 nm_c_F_has) rfl rfl rfl (by decide +kernel) ⟨Nat.le_of_ble_eq_true rfl, Nat.le_of_ble_eq_true rfl⟩) ⟨fun _ _ _ _ q => ⟨q.1, trivial⟩, fun U hU hW => ⟨rfl, trivial⟩⟩ rfl rfl hl.1 rfl (lv_room (Nat.le_of_ble_eq_true rfl)) d_F_link_46 ⟨Nat.le_of_ble_eq_true rfl, Nat.le_of_ble_eq_true rfl⟩)) (fun r hr => ?_)
  subst hr
  refine wl_ifeqb (tgt := 56) hx hb d_F_link_49 (by decide) (fun hc49 => ?_) (fun hc49 => ?_)
  · refine lv_iconst (v := nI 0) hx hb d_F_link_56 (by decide) ?_
    refine lv_istore_n (lv' := [(3, .int (nI 0)), (0, .ref h0), (1, .int (nI k)), (2, .int (nI j))]) hx hb d_F_link_57 rfl hl (by decide) rfl (fun ls hl => ?_)
    refine lv_aload_n hx hb d_F_link_58 rfl (lv_at hl 1 rfl) ?_
    refine lv_dup hx hb d_F_link_59 rfl ?_
    refine va_get (D := (dC, dI)) (ci := 2) (v := .int (nI (sp_lc n L))) (C := "FlowNest") (T := T_F) (N := 5) hx hb hts nm_iF hown hK hP 0 rfl rfl 4 (by decide) (hts _ (List.mem_cons_of_mem _ nm_87)) (fun _ h9 => h9) rfl d_F_link_60 ?_
    refine lv_iload_n hx hb d_F_link_63 rfl (lv_at hl 0 rfl) ?_
    refine lv_iconst (v := nI 1) hx hb d_F_link_64 (by decide) ?_
    refine wl_ine (tgt := 72) hx hb (by omega) (by omega) d_F_link_65 (by decide) (fun hc65 => ?_) (fun hc65 => ?_)
    · refine lv_iconst (v := -1) hx hb d_F_link_72 (by decide) ?_
      refine lv_iadd hx hb d_F_link_73 ?_
      refine va_put (D := (dC, dI)) (ci := 2) (v := .int ((nI (sp_lc n L)) + (-1))) (ty := .int) (C := "FlowNest") (T := T_F) (N := 5) hx hb hts nm_iF t_F t_F_ok nm_F hown hK hP hD hS 0 rfl rfl 4 (by decide) (hts _ (List.mem_cons_of_mem _ nm_87)) (fun _ h9 => h9) rfl (by decide +kernel) (by rfl) (by rfl) (Nat.le_of_ble_eq_true rfl) d_F_link_74 (fun H locs hP hD hS => ?_)
      have hP : va_P (dC, dI) vwCl (fn_ws cJ cI h0 h1 n1 a1 e1 l1 b1 t1 h2 n2 a2 e2 l2 b2 t2 h4 c4 (nI n) ((nI (sp_lc n L)) + (-1)) (vp_updL L k (L k ^^^ bs_b j)) ab en lf bl tr (nI n) (nI r) mt (nI 1) (vp_updL (gf_T n L) j ((gf_T n L) j ^^^ bs_b k)) ab2 en2 lf2 bl2 tr2 (nI n) (nI x) mt2 (nI 1) bo (nI 1)) H := hP
      have hD : va_D A (fn_ws cJ cI h0 h1 n1 a1 e1 l1 b1 t1 h2 n2 a2 e2 l2 b2 t2 h4 c4 (nI n) ((nI (sp_lc n L)) + (-1)) (vp_updL L k (L k ^^^ bs_b j)) ab en lf bl tr (nI n) (nI r) mt (nI 1) (vp_updL (gf_T n L) j ((gf_T n L) j ^^^ bs_b k)) ab2 en2 lf2 bl2 tr2 (nI n) (nI x) mt2 (nI 1) bo (nI 1)) := hD
      refine lv_iload_n hx hb d_F_link_77 rfl (lv_at hl 0 rfl) ?_
      exact vx_ret (W.widen (k := 2) (n := 12) (Nat.le_of_ble_eq_true rfl) (Nat.le_of_ble_eq_true rfl) (W.iret (v := nI 0) hx hb hr (fun t ht hW => ⟨⟨(nI 0), (vp_updL L k (L k ^^^ bs_b j), vp_updL (gf_T n L) j ((gf_T n L) j ^^^ bs_b k), (nI (sp_lc n L)) + (-1)), rfl, ⟨k, j, hk_k, hk_j, rfl, rfl, rfl, (gf_T_tog (by omega) L hk_k (by omega)).symm, lc_off1 hk_k (by omega) hc49, tg_0 (by omega) hc49⟩, by rw [ht]; exact hP, hD⟩, hS.F ht⟩) hS.2.2 d_F_link_78))
    · exact absurd hc65 (by decide)
  · refine lv_iconst (v := nI 1) hx hb d_F_link_52 (by decide) ?_
    refine lv_goto (tgt := 57) hx hb d_F_link_53 (by decide) ?_
    refine lv_istore_n (lv' := [(3, .int (nI 1)), (0, .ref h0), (1, .int (nI k)), (2, .int (nI j))]) hx hb d_F_link_57 rfl hl (by decide) rfl (fun ls hl => ?_)
    refine lv_aload_n hx hb d_F_link_58 rfl (lv_at hl 1 rfl) ?_
    refine lv_dup hx hb d_F_link_59 rfl ?_
    refine va_get (D := (dC, dI)) (ci := 2) (v := .int (nI (sp_lc n L))) (C := "FlowNest") (T := T_F) (N := 5) hx hb hts nm_iF hown hK hP 0 rfl rfl 4 (by decide) (hts _ (List.mem_cons_of_mem _ nm_87)) (fun _ h9 => h9) rfl d_F_link_60 ?_
    refine lv_iload_n hx hb d_F_link_63 rfl (lv_at hl 0 rfl) ?_
    refine lv_iconst (v := nI 1) hx hb d_F_link_64 (by decide) ?_
    refine wl_ine (tgt := 72) hx hb (by omega) (by omega) d_F_link_65 (by decide) (fun hc65 => ?_) (fun hc65 => ?_)
    · exact absurd rfl hc65
    · refine lv_iconst (v := nI 1) hx hb d_F_link_68 (by decide) ?_
      refine lv_goto (tgt := 73) hx hb d_F_link_69 (by decide) ?_
      refine wl_iaddn hx hb d_F_link_73 ?_
      refine va_put (D := (dC, dI)) (ci := 2) (v := .int (nI ((sp_lc n L) + 1))) (ty := .int) (C := "FlowNest") (T := T_F) (N := 5) hx hb hts nm_iF t_F t_F_ok nm_F hown hK hP hD hS 0 rfl rfl 4 (by decide) (hts _ (List.mem_cons_of_mem _ nm_87)) (fun _ h9 => h9) rfl (by decide +kernel) (by rfl) (by rfl) (Nat.le_of_ble_eq_true rfl) d_F_link_74 (fun H locs hP hD hS => ?_)
      have hP : va_P (dC, dI) vwCl (fn_ws cJ cI h0 h1 n1 a1 e1 l1 b1 t1 h2 n2 a2 e2 l2 b2 t2 h4 c4 (nI n) (nI ((sp_lc n L) + 1)) (vp_updL L k (L k ^^^ bs_b j)) ab en lf bl tr (nI n) (nI r) mt (nI 1) (vp_updL (gf_T n L) j ((gf_T n L) j ^^^ bs_b k)) ab2 en2 lf2 bl2 tr2 (nI n) (nI x) mt2 (nI 1) bo (nI 1)) H := hP
      have hD : va_D A (fn_ws cJ cI h0 h1 n1 a1 e1 l1 b1 t1 h2 n2 a2 e2 l2 b2 t2 h4 c4 (nI n) (nI ((sp_lc n L) + 1)) (vp_updL L k (L k ^^^ bs_b j)) ab en lf bl tr (nI n) (nI r) mt (nI 1) (vp_updL (gf_T n L) j ((gf_T n L) j ^^^ bs_b k)) ab2 en2 lf2 bl2 tr2 (nI n) (nI x) mt2 (nI 1) bo (nI 1)) := hD
      refine lv_iload_n hx hb d_F_link_77 rfl (lv_at hl 0 rfl) ?_
      exact vx_ret (W.widen (k := 2) (n := 12) (Nat.le_of_ble_eq_true rfl) (Nat.le_of_ble_eq_true rfl) (W.iret (v := nI 1) hx hb hr (fun t ht hW => ⟨⟨(nI 1), (vp_updL L k (L k ^^^ bs_b j), vp_updL (gf_T n L) j ((gf_T n L) j ^^^ bs_b k), nI ((sp_lc n L) + 1)), rfl, ⟨k, j, hk_k, hk_j, rfl, rfl, rfl, (gf_T_tog (by omega) L hk_k (by omega)).symm, lc_on1 hk_k (by omega) hc49, tg_1 (by omega) hc49⟩, by rw [ht]; exact hP, hD⟩, hS.F ht⟩) hS.2.2 d_F_link_78))
set_option maxHeartbeats 4000000 in
set_option maxRecDepth 100000 in
theorem c_F_place_0 (l : Launch) (hl9 : l.stackTraces = false) (dC : Nat → ClassId) (dI : Nat → Nat → Nat) (cJ cI : ClassId) (h0 h1 n1 a1 e1 l1 b1 t1 h2 n2 a2 e2 l2 b2 t2 h4 c4 hs sa sb : Nat) (ab : Nat → Int64) (en : Nat → Int32) (lf : Nat → Int32) (bl : Nat → Int32) (tr : Nat → Int32) (mt : Int64) (ab2 : Nat → Int64) (en2 : Nat → Int32) (lf2 : Nat → Int32) (bl2 : Nat → Int32) (tr2 : Nat → Int32) (mt2 : Int64) (bo : Nat → Int64) (n r x : Nat) (L : Nat → Int64) (q1 q2 q4 : Bool) (v0 : Int32) (hn : n ≤ 48) (hL : ∀ u v, gf_E n L u v → v < n) (hI1 : fv_S n r L q1 ab en lf bl mt) (hI2 : fv_S n x (gf_T n L) q2 ab2 en2 lf2 bl2 mt2) (hI4 : fv_N n r L q4 bo) : vx_Met l y_F_place w_F_place ({ frames := 7, cells := 1, slots := 6, locals := 103 }) (va_Pc [.ref h0, .int v0, .int (nI 0)] (cw_T (dC, dI) cJ cI (fn_ws cJ cI h0 h1 n1 a1 e1 l1 b1 t1 h2 n2 a2 e2 l2 b2 t2 h4 c4 (nI n) (nI (sp_lc n L)) L ab en lf bl tr (nI n) (nI r) mt (bs_i q1) (gf_T n L) ab2 en2 lf2 bl2 tr2 (nI n) (nI x) mt2 (bs_i q2) bo (bs_i q4)) hs sa sb)) (va_Qi (fun (r9 : Int32) (u9 : Int32 × Int32 × Bool × Bool) => match u9 with | (y9, x9, p9, s9) => ∃ k, k < n ∧ v0 = nI k ∧ y9 = (if false = true then nI r else nI k) ∧ x9 = (if false = true then nI k else nI x) ∧ p9 = (if false = true then q1 else true) ∧ s9 = (if false = true then true else q2) ∧ r9 = if false = true then nI x else nI r) (fun (u9 : Int32 × Int32 × Bool × Bool) (t : State) => match u9 with | (y9, x9, p9, s9) => va_P (dC, dI) vwCl (fn_ws cJ cI h0 h1 n1 a1 e1 l1 b1 t1 h2 n2 a2 e2 l2 b2 t2 h4 c4 (nI n) (nI (sp_lc n L)) L ab en lf bl tr (nI n) y9 mt (bs_i p9) (gf_T n L) ab2 en2 lf2 bl2 tr2 (nI n) x9 mt2 (bs_i s9) bo (nI 1)) t.heap ∧ va_D (va_A (fn_ws cJ cI h0 h1 n1 a1 e1 l1 b1 t1 h2 n2 a2 e2 l2 b2 t2 h4 c4 (nI n) (nI (sp_lc n L)) L ab en lf bl tr (nI n) (nI r) mt (bs_i q1) (gf_T n L) ab2 en2 lf2 bl2 tr2 (nI n) (nI x) mt2 (bs_i q2) bo (bs_i q4)) hs) (fn_ws cJ cI h0 h1 n1 a1 e1 l1 b1 t1 h2 n2 a2 e2 l2 b2 t2 h4 c4 (nI n) (nI (sp_lc n L)) L ab en lf bl tr (nI n) y9 mt (bs_i p9) (gf_T n L) ab2 en2 lf2 bl2 tr2 (nI n) x9 mt2 (bs_i s9) bo (nI 1))) (va_A (fn_ws cJ cI h0 h1 n1 a1 e1 l1 b1 t1 h2 n2 a2 e2 l2 b2 t2 h4 c4 (nI n) (nI (sp_lc n L)) L ab en lf bl tr (nI n) (nI r) mt (bs_i q1) (gf_T n L) ab2 en2 lf2 bl2 tr2 (nI n) (nI x) mt2 (bs_i q2) bo (bs_i q4)) hs)) (vx_X (fun (_ : Unit) => ¬ ∃ k, k < n ∧ v0 = nI k) (fun E _ _ => E = "java/lang/IndexOutOfBoundsException") (fun q => hs ≤ q)) 1 6 (va_A (fn_ws cJ cI h0 h1 n1 a1 e1 l1 b1 t1 h2 n2 a2 e2 l2 b2 t2 h4 c4 (nI n) (nI (sp_lc n L)) L ab en lf bl tr (nI n) (nI r) mt (bs_i q1) (gf_T n L) ab2 en2 lf2 bl2 tr2 (nI n) (nI x) mt2 (bs_i q2) bo (bs_i q4)) hs) := by
  refine vx_ofW (cc := b_F_place) (maxL := 3) (ret := (some .int)) (by decide) rfl ?_
  intro p e s m args below meth c s₁ B hml hxt hv9
  obtain ⟨rfl, ⟨hsz, ⟨hP, hK, hNw⟩, hD0⟩, hX⟩ := hv9
  have hx := B.exec
  have hb := B.bytes
  have hr := B.returns
  have hts := atoms_spec (ws := w_F_place) B.pre
  have hown : s.vm.findClass "FlowNest" = some m.cls := findClass_of_methodNamed B.named
  have hlocks := B.notSynchronized
  subst hsz
  have hU : s.heap.size ≤ s.heap.size ∧ ∀ q : Nat, q < s.heap.size → s.heap[q]? = s.heap[q]? := ⟨Nat.le_refl _, fun _ _ => rfl⟩
  have hD := hD0.self (sz := s.heap.size)
  generalize hAe : va_A (fn_ws cJ cI h0 h1 n1 a1 e1 l1 b1 t1 h2 n2 a2 e2 l2 b2 t2 h4 c4 (nI n) (nI (sp_lc n L)) L ab en lf bl tr (nI n) (nI r) mt (bs_i q1) (gf_T n L) ab2 en2 lf2 bl2 tr2 (nI n) (nI x) mt2 (bs_i q2) bo (bs_i q4)) s.heap.size = A at hD ⊢
  have hA : ∀ q : Nat, s.heap.size ≤ q → A q := fun q h => by rw [← hAe]; exact Or.inr h
  have hS : va_S A s.heap s.heap [] := va_S.rf
  have hP : va_P (dC, dI) vwCl (fn_ws cJ cI h0 h1 n1 a1 e1 l1 b1 t1 h2 n2 a2 e2 l2 b2 t2 h4 c4 (nI n) (nI (sp_lc n L)) L ab en lf bl tr (nI n) (nI r) mt (bs_i q1) (gf_T n L) ab2 en2 lf2 bl2 tr2 (nI n) (nI x) mt2 (bs_i q2) bo (bs_i q4)) s.heap := hP
  have hl := lv_entry ([.ref h0, .int v0, .int (nI 0)]) (n := 3) (Nat.le_of_ble_eq_true rfl)
  rw [lg_entry_eq]
  generalize (lg_sl ([.ref h0, .int v0, .int (nI 0)]) ++ List.replicate (3 - (lg_sl ([.ref h0, .int v0, .int (nI 0)])).length) Slot.unset).toArray = ls at hl ⊢
  have hl : lv_has ls 3 [(0, .ref h0), (1, .int v0), (2, .int (nI 0))] := hl
  refine lv_aload_n hx hb d_F_place_0 rfl (lv_at hl 0 rfl) ?_
  refine lv_iload_n hx hb d_F_place_1 rfl (lv_at hl 1 rfl) ?_
  have hPc := hP.sub (ws' := fo_ws cJ cI h0 h1 h2 h4 (nI n) (nI (sp_lc n L))) [0] rfl
  have hDc := hD.sub (ws' := fo_ws cJ cI h0 h1 h2 h4 (nI n) (nI (sp_lc n L))) [0] (by decide) rfl
  refine vx_callv (vx_runV (C := "FlowNest") (b := h0) (As := [.int v0]) (rest := []) ⟨hx, hb, hml, hown, hts⟩ (c_F_requireVertex l hl9 dC dI cJ cI h0 h1 h2 h4 s.heap.size sa sb (nI (sp_lc n L)) n v0 hn) (cwV 1 hts (nm_gV nm_281 nm_283 nm_s_F_requireVertex nm_1 nm_c_F_requireVertex) rfl rfl rfl (by decide +kernel) ⟨Nat.le_of_ble_eq_true rfl, Nat.le_of_ble_eq_true rfl⟩) ⟨cw_blindT, va_recv hK hP (ci := 2) rfl (q0 := 0) rfl, cw_preT hPc hDc hK hNw hX⟩ rfl rfl hl.1 rfl (lv_room (Nat.le_of_ble_eq_true rfl)) d_F_place_2 ⟨Nat.le_of_ble_eq_true rfl, Nat.le_of_ble_eq_true rfl⟩) hS (fun q h1 h2 => absurd h2 (by omega)) (fun q h => h.elim) (fun q h1 h2 => absurd h2 (by omega)) (fun E ce q9 u t H1 locs1 ht hvm hpx hbx hz1 hk1 hS1 hce hcv hcl => ?_) (fun u t H1 locs ht hvm hw1 hB hz1 hk1 hS => ?_)
  · have hkk : ∀ q : Nat, q < s.heap.size → H1[q]? = s.heap[q]? := fun q h => hk1 q h (by omega)
    exact vx_out (fun x hx => (hxt x hx).elim) hlocks hce hcv hcl (fun t2 ht2 hv2 => ⟨(), hpx, hbx, by rw [ht2]; exact Nat.le_trans hU.1 hz1, fun q hq _ => by rw [ht2]; exact (hkk q (Nat.lt_of_lt_of_le hq hU.1)).trans (hU.2 q hq)⟩) hS1.2.2 (Nat.le_of_ble_eq_true rfl) (Nat.le_of_ble_eq_true rfl)
  have hkk : ∀ q : Nat, q < s.heap.size → H1[q]? = s.heap[q]? := fun q h => hk1 q h (by omega)
  have hP := va_Pk hP hkk
  have hX := tx_kept hX hz1 hkk
  have hU : s.heap.size ≤ H1.size ∧ ∀ q : Nat, q < s.heap.size → H1[q]? = s.heap[q]? := ⟨Nat.le_trans hU.1 hz1, fun q h => (hkk q (Nat.lt_of_lt_of_le h hU.1)).trans (hU.2 q h)⟩
  clear hkk hk1 hz1 hPc hDc ht
  generalize H1 = H at hP hS hX hU ⊢
  obtain ⟨k, hk_k, rfl⟩ := hw1
  refine lv_aload_n hx hb d_F_place_5 rfl (lv_at hl 0 rfl) ?_
  refine va_get (D := (dC, dI)) (ci := 2) (v := .ref h4) (C := "FlowNest") (T := T_F) (N := 5) hx hb hts nm_iF hown hK hP 0 rfl rfl 2 (by decide) (hts _ (List.mem_cons_of_mem _ nm_85)) (fun _ h9 => h9) rfl d_F_place_6 ?_
  refine lv_iconst (v := nI 1) hx hb d_F_place_9 (by decide) ?_
  refine va_put (D := (dC, dI)) (ci := 0) (v := .int (nI 1)) (ty := .boolean) (C := "FlowNest$Nest") (T := T_N) (N := 2) hx hb hts nm_iN t_N t_N_ok nm_N hown hK hP hD hS 15 rfl rfl 1 (by decide) (hts _ (List.mem_cons_of_mem _ nm_77)) (fun _ h9 => h9) rfl (by decide +kernel) (by rfl) (by rfl) (Nat.le_of_ble_eq_true rfl) d_F_place_10 (fun H locs hP hD hS => ?_)
  have hP : va_P (dC, dI) vwCl (fn_ws cJ cI h0 h1 n1 a1 e1 l1 b1 t1 h2 n2 a2 e2 l2 b2 t2 h4 c4 (nI n) (nI (sp_lc n L)) L ab en lf bl tr (nI n) (nI r) mt (bs_i q1) (gf_T n L) ab2 en2 lf2 bl2 tr2 (nI n) (nI x) mt2 (bs_i q2) bo (nI 1)) H := hP
  have hD : va_D A (fn_ws cJ cI h0 h1 n1 a1 e1 l1 b1 t1 h2 n2 a2 e2 l2 b2 t2 h4 c4 (nI n) (nI (sp_lc n L)) L ab en lf bl tr (nI n) (nI r) mt (bs_i q1) (gf_T n L) ab2 en2 lf2 bl2 tr2 (nI n) (nI x) mt2 (bs_i q2) bo (nI 1)) := hD
  refine lv_iload_n hx hb d_F_place_13 rfl (lv_at hl 2 rfl) ?_
  refine wl_ifeqn (tgt := 28) hx hb (by omega) d_F_place_14 (by decide) (fun hc14 => ?_) (fun hc14 => ?_)
  · refine lv_aload_n hx hb d_F_place_28 rfl (lv_at hl 0 rfl) ?_
    refine va_get (D := (dC, dI)) (ci := 2) (v := .ref h1) (C := "FlowNest") (T := T_F) (N := 5) hx hb hts nm_iF hown hK hP 0 rfl rfl 0 (by decide) (hts _ (List.mem_cons_of_mem _ nm_83)) (fun _ h9 => h9) rfl d_F_place_29 ?_
    refine lv_iload_n hx hb d_F_place_32 rfl (lv_at hl 1 rfl) ?_
    have hPc := hP.sub (ws' := sd_ws cJ cI h1 n1 a1 e1 l1 b1 t1 L ab en lf bl tr (nI n) (nI r) mt (bs_i q1)) [1, 2, 3, 4, 5, 6, 7] rfl
    have hDc := hD.sub (ws' := sd_ws cJ cI h1 n1 a1 e1 l1 b1 t1 L ab en lf bl tr (nI n) (nI r) mt (bs_i q1)) [1, 2, 3, 4, 5, 6, 7] (by decide) rfl
    have hFc := va_free (wc := sd_ws cJ cI h1 n1 a1 e1 l1 b1 t1 L ab en lf bl tr (nI n) (nI r) mt (bs_i q1)) hD hS hA [1, 2, 3, 4, 5, 6, 7] rfl
    refine va_calli (va_runV (C := "FlowNest$Side") (b := h1) (As := [.int (nI k)]) (rest := []) ⟨hx, hb, hml, hown, hts⟩ (c_S_moveRoot l dC dI cJ cI h1 n1 a1 e1 l1 b1 t1 H.size L ab en lf bl tr (nI n) (nI r) mt (bs_i q1) (nI k)) (cwV 1 hts (nm_gV nm_313 nm_314 nm_315 nm_2 nm_c_S_moveRoot) rfl rfl rfl (by decide +kernel) ⟨Nat.le_of_ble_eq_true rfl, Nat.le_of_ble_eq_true rfl⟩) ⟨cw_blindM, va_recv hK hP (ci := 1) rfl (q0 := 1) rfl, cw_preM hPc hDc hK hNw⟩ rfl rfl hl.1 rfl (lv_room (Nat.le_of_ble_eq_true rfl)) d_F_place_33 ⟨Nat.le_of_ble_eq_true rfl, Nat.le_of_ble_eq_true rfl⟩) hS (fun q _ h => hFc q h) hFc (fun r2 u9 t H1 locs ht hvm hw3 hB hz1 hk1 hS => ?_)
    obtain ⟨hP1, hD1⟩ := hB
    rw [ht] at hP1
    obtain ⟨hP, hD⟩ := va_join (wr := ([0, 8, 9, 10, 11, 12, 13, 14, 15, 16] : List Nat).filterMap (fun (i : Nat) => (fn_ws cJ cI h0 h1 n1 a1 e1 l1 b1 t1 h2 n2 a2 e2 l2 b2 t2 h4 c4 (nI n) (nI (sp_lc n L)) L ab en lf bl tr (nI n) (nI r) mt (bs_i q1) (gf_T n L) ab2 en2 lf2 bl2 tr2 (nI n) (nI x) mt2 (bs_i q2) bo (nI 1))[i]?)) (w1 := sd_ws cJ cI h1 n1 a1 e1 l1 b1 t1 L ab en lf bl tr (nI n) (nI k) mt (nI 1)) hP hD [1, 2, 3, 4, 5, 6, 7] [0, 8, 9, 10, 11, 12, 13, 14, 15, 16] rfl rfl (by decide) (by decide) hk1 hFc hP1 hD1
    generalize H1 = H at hP hS ⊢
    have hP : va_P (dC, dI) vwCl (fn_ws cJ cI h0 h1 n1 a1 e1 l1 b1 t1 h2 n2 a2 e2 l2 b2 t2 h4 c4 (nI n) (nI (sp_lc n L)) L ab en lf bl tr (nI n) (nI k) mt (nI 1) (gf_T n L) ab2 en2 lf2 bl2 tr2 (nI n) (nI x) mt2 (bs_i q2) bo (nI 1)) H := hP.sub (ws' := fn_ws cJ cI h0 h1 n1 a1 e1 l1 b1 t1 h2 n2 a2 e2 l2 b2 t2 h4 c4 (nI n) (nI (sp_lc n L)) L ab en lf bl tr (nI n) (nI k) mt (nI 1) (gf_T n L) ab2 en2 lf2 bl2 tr2 (nI n) (nI x) mt2 (bs_i q2) bo (nI 1)) [0, 10, 11, 12, 13, 14, 15, 16, 1, 2, 3, 4, 5, 6, 7, 8, 9] rfl
    have hD : va_D A (fn_ws cJ cI h0 h1 n1 a1 e1 l1 b1 t1 h2 n2 a2 e2 l2 b2 t2 h4 c4 (nI n) (nI (sp_lc n L)) L ab en lf bl tr (nI n) (nI k) mt (nI 1) (gf_T n L) ab2 en2 lf2 bl2 tr2 (nI n) (nI x) mt2 (bs_i q2) bo (nI 1)) := hD.sub (ws' := fn_ws cJ cI h0 h1 n1 a1 e1 l1 b1 t1 h2 n2 a2 e2 l2 b2 t2 h4 c4 (nI n) (nI (sp_lc n L)) L ab en lf bl tr (nI n) (nI k) mt (nI 1) (gf_T n L) ab2 en2 lf2 bl2 tr2 (nI n) (nI x) mt2 (bs_i q2) bo (nI 1)) [0, 10, 11, 12, 13, 14, 15, 16, 1, 2, 3, 4, 5, 6, 7, 8, 9] (by decide) rfl
    exact vx_ret (W.widen (k := 1) (n := 6) (Nat.le_of_ble_eq_true rfl) (Nat.le_of_ble_eq_true rfl) (W.iret (v := r2) hx hb hr (fun t ht hW => ⟨⟨r2, (nI k, nI x, true, q2), rfl, ⟨k, hk_k, rfl, rfl, rfl, rfl, rfl, hw3⟩, by rw [ht]; exact hP, hD⟩, hS.F ht⟩) hS.2.2 d_F_place_36))
  · exact absurd hc14 (by decide)
set_option maxHeartbeats 4000000 in
set_option maxRecDepth 100000 in
theorem c_F_place_1 (l : Launch) (hl9 : l.stackTraces = false) (dC : Nat → ClassId) (dI : Nat → Nat → Nat) (cJ cI : ClassId) (h0 h1 n1 a1 e1 l1 b1 t1 h2 n2 a2 e2 l2 b2 t2 h4 c4 hs sa sb : Nat) (ab : Nat → Int64) (en : Nat → Int32) (lf : Nat → Int32) (bl : Nat → Int32) (tr : Nat → Int32) (mt : Int64) (ab2 : Nat → Int64) (en2 : Nat → Int32) (lf2 : Nat → Int32) (bl2 : Nat → Int32) (tr2 : Nat → Int32) (mt2 : Int64) (bo : Nat → Int64) (n r x : Nat) (L : Nat → Int64) (q1 q2 q4 : Bool) (v0 : Int32) (hn : n ≤ 48) (hL : ∀ u v, gf_E n L u v → v < n) (hI1 : fv_S n r L q1 ab en lf bl mt) (hI2 : fv_S n x (gf_T n L) q2 ab2 en2 lf2 bl2 mt2) (hI4 : fv_N n r L q4 bo) : vx_Met l y_F_place w_F_place ({ frames := 7, cells := 1, slots := 6, locals := 103 }) (va_Pc [.ref h0, .int v0, .int (nI 1)] (cw_T (dC, dI) cJ cI (fn_ws cJ cI h0 h1 n1 a1 e1 l1 b1 t1 h2 n2 a2 e2 l2 b2 t2 h4 c4 (nI n) (nI (sp_lc n L)) L ab en lf bl tr (nI n) (nI r) mt (bs_i q1) (gf_T n L) ab2 en2 lf2 bl2 tr2 (nI n) (nI x) mt2 (bs_i q2) bo (bs_i q4)) hs sa sb)) (va_Qi (fun (r9 : Int32) (u9 : Int32 × Int32 × Bool × Bool) => match u9 with | (y9, x9, p9, s9) => ∃ k, k < n ∧ v0 = nI k ∧ y9 = (if true = true then nI r else nI k) ∧ x9 = (if true = true then nI k else nI x) ∧ p9 = (if true = true then q1 else true) ∧ s9 = (if true = true then true else q2) ∧ r9 = if true = true then nI x else nI r) (fun (u9 : Int32 × Int32 × Bool × Bool) (t : State) => match u9 with | (y9, x9, p9, s9) => va_P (dC, dI) vwCl (fn_ws cJ cI h0 h1 n1 a1 e1 l1 b1 t1 h2 n2 a2 e2 l2 b2 t2 h4 c4 (nI n) (nI (sp_lc n L)) L ab en lf bl tr (nI n) y9 mt (bs_i p9) (gf_T n L) ab2 en2 lf2 bl2 tr2 (nI n) x9 mt2 (bs_i s9) bo (nI 1)) t.heap ∧ va_D (va_A (fn_ws cJ cI h0 h1 n1 a1 e1 l1 b1 t1 h2 n2 a2 e2 l2 b2 t2 h4 c4 (nI n) (nI (sp_lc n L)) L ab en lf bl tr (nI n) (nI r) mt (bs_i q1) (gf_T n L) ab2 en2 lf2 bl2 tr2 (nI n) (nI x) mt2 (bs_i q2) bo (bs_i q4)) hs) (fn_ws cJ cI h0 h1 n1 a1 e1 l1 b1 t1 h2 n2 a2 e2 l2 b2 t2 h4 c4 (nI n) (nI (sp_lc n L)) L ab en lf bl tr (nI n) y9 mt (bs_i p9) (gf_T n L) ab2 en2 lf2 bl2 tr2 (nI n) x9 mt2 (bs_i s9) bo (nI 1))) (va_A (fn_ws cJ cI h0 h1 n1 a1 e1 l1 b1 t1 h2 n2 a2 e2 l2 b2 t2 h4 c4 (nI n) (nI (sp_lc n L)) L ab en lf bl tr (nI n) (nI r) mt (bs_i q1) (gf_T n L) ab2 en2 lf2 bl2 tr2 (nI n) (nI x) mt2 (bs_i q2) bo (bs_i q4)) hs)) (vx_X (fun (_ : Unit) => ¬ ∃ k, k < n ∧ v0 = nI k) (fun E _ _ => E = "java/lang/IndexOutOfBoundsException") (fun q => hs ≤ q)) 1 6 (va_A (fn_ws cJ cI h0 h1 n1 a1 e1 l1 b1 t1 h2 n2 a2 e2 l2 b2 t2 h4 c4 (nI n) (nI (sp_lc n L)) L ab en lf bl tr (nI n) (nI r) mt (bs_i q1) (gf_T n L) ab2 en2 lf2 bl2 tr2 (nI n) (nI x) mt2 (bs_i q2) bo (bs_i q4)) hs) := by
  refine vx_ofW (cc := b_F_place) (maxL := 3) (ret := (some .int)) (by decide) rfl ?_
  intro p e s m args below meth c s₁ B hml hxt hv9
  obtain ⟨rfl, ⟨hsz, ⟨hP, hK, hNw⟩, hD0⟩, hX⟩ := hv9
  have hx := B.exec
  have hb := B.bytes
  have hr := B.returns
  have hts := atoms_spec (ws := w_F_place) B.pre
  have hown : s.vm.findClass "FlowNest" = some m.cls := findClass_of_methodNamed B.named
  have hlocks := B.notSynchronized
  subst hsz
  have hU : s.heap.size ≤ s.heap.size ∧ ∀ q : Nat, q < s.heap.size → s.heap[q]? = s.heap[q]? := ⟨Nat.le_refl _, fun _ _ => rfl⟩
  have hD := hD0.self (sz := s.heap.size)
  generalize hAe : va_A (fn_ws cJ cI h0 h1 n1 a1 e1 l1 b1 t1 h2 n2 a2 e2 l2 b2 t2 h4 c4 (nI n) (nI (sp_lc n L)) L ab en lf bl tr (nI n) (nI r) mt (bs_i q1) (gf_T n L) ab2 en2 lf2 bl2 tr2 (nI n) (nI x) mt2 (bs_i q2) bo (bs_i q4)) s.heap.size = A at hD ⊢
  have hA : ∀ q : Nat, s.heap.size ≤ q → A q := fun q h => by rw [← hAe]; exact Or.inr h
  have hS : va_S A s.heap s.heap [] := va_S.rf
  have hP : va_P (dC, dI) vwCl (fn_ws cJ cI h0 h1 n1 a1 e1 l1 b1 t1 h2 n2 a2 e2 l2 b2 t2 h4 c4 (nI n) (nI (sp_lc n L)) L ab en lf bl tr (nI n) (nI r) mt (bs_i q1) (gf_T n L) ab2 en2 lf2 bl2 tr2 (nI n) (nI x) mt2 (bs_i q2) bo (bs_i q4)) s.heap := hP
  have hl := lv_entry ([.ref h0, .int v0, .int (nI 1)]) (n := 3) (Nat.le_of_ble_eq_true rfl)
  rw [lg_entry_eq]
  generalize (lg_sl ([.ref h0, .int v0, .int (nI 1)]) ++ List.replicate (3 - (lg_sl ([.ref h0, .int v0, .int (nI 1)])).length) Slot.unset).toArray = ls at hl ⊢
  have hl : lv_has ls 3 [(0, .ref h0), (1, .int v0), (2, .int (nI 1))] := hl
  refine lv_aload_n hx hb d_F_place_0 rfl (lv_at hl 0 rfl) ?_
  refine lv_iload_n hx hb d_F_place_1 rfl (lv_at hl 1 rfl) ?_
  have hPc := hP.sub (ws' := fo_ws cJ cI h0 h1 h2 h4 (nI n) (nI (sp_lc n L))) [0] rfl
  have hDc := hD.sub (ws' := fo_ws cJ cI h0 h1 h2 h4 (nI n) (nI (sp_lc n L))) [0] (by decide) rfl
  refine vx_callv (vx_runV (C := "FlowNest") (b := h0) (As := [.int v0]) (rest := []) ⟨hx, hb, hml, hown, hts⟩ (c_F_requireVertex l hl9 dC dI cJ cI h0 h1 h2 h4 s.heap.size sa sb (nI (sp_lc n L)) n v0 hn) (cwV 1 hts (nm_gV nm_281 nm_283 nm_s_F_requireVertex nm_1 nm_c_F_requireVertex) rfl rfl rfl (by decide +kernel) ⟨Nat.le_of_ble_eq_true rfl, Nat.le_of_ble_eq_true rfl⟩) ⟨cw_blindT, va_recv hK hP (ci := 2) rfl (q0 := 0) rfl, cw_preT hPc hDc hK hNw hX⟩ rfl rfl hl.1 rfl (lv_room (Nat.le_of_ble_eq_true rfl)) d_F_place_2 ⟨Nat.le_of_ble_eq_true rfl, Nat.le_of_ble_eq_true rfl⟩) hS (fun q h1 h2 => absurd h2 (by omega)) (fun q h => h.elim) (fun q h1 h2 => absurd h2 (by omega)) (fun E ce q9 u t H1 locs1 ht hvm hpx hbx hz1 hk1 hS1 hce hcv hcl => ?_) (fun u t H1 locs ht hvm hw1 hB hz1 hk1 hS => ?_)
  · have hkk : ∀ q : Nat, q < s.heap.size → H1[q]? = s.heap[q]? := fun q h => hk1 q h (by omega)
    exact vx_out (fun x hx => (hxt x hx).elim) hlocks hce hcv hcl (fun t2 ht2 hv2 => ⟨(), hpx, hbx, by rw [ht2]; exact Nat.le_trans hU.1 hz1, fun q hq _ => by rw [ht2]; exact (hkk q (Nat.lt_of_lt_of_le hq hU.1)).trans (hU.2 q hq)⟩) hS1.2.2 (Nat.le_of_ble_eq_true rfl) (Nat.le_of_ble_eq_true rfl)
  have hkk : ∀ q : Nat, q < s.heap.size → H1[q]? = s.heap[q]? := fun q h => hk1 q h (by omega)
  have hP := va_Pk hP hkk
  have hX := tx_kept hX hz1 hkk
  have hU : s.heap.size ≤ H1.size ∧ ∀ q : Nat, q < s.heap.size → H1[q]? = s.heap[q]? := ⟨Nat.le_trans hU.1 hz1, fun q h => (hkk q (Nat.lt_of_lt_of_le h hU.1)).trans (hU.2 q h)⟩
  clear hkk hk1 hz1 hPc hDc ht
  generalize H1 = H at hP hS hX hU ⊢
  obtain ⟨k, hk_k, rfl⟩ := hw1
  refine lv_aload_n hx hb d_F_place_5 rfl (lv_at hl 0 rfl) ?_
  refine va_get (D := (dC, dI)) (ci := 2) (v := .ref h4) (C := "FlowNest") (T := T_F) (N := 5) hx hb hts nm_iF hown hK hP 0 rfl rfl 2 (by decide) (hts _ (List.mem_cons_of_mem _ nm_85)) (fun _ h9 => h9) rfl d_F_place_6 ?_
  refine lv_iconst (v := nI 1) hx hb d_F_place_9 (by decide) ?_
  refine va_put (D := (dC, dI)) (ci := 0) (v := .int (nI 1)) (ty := .boolean) (C := "FlowNest$Nest") (T := T_N) (N := 2) hx hb hts nm_iN t_N t_N_ok nm_N hown hK hP hD hS 15 rfl rfl 1 (by decide) (hts _ (List.mem_cons_of_mem _ nm_77)) (fun _ h9 => h9) rfl (by decide +kernel) (by rfl) (by rfl) (Nat.le_of_ble_eq_true rfl) d_F_place_10 (fun H locs hP hD hS => ?_)
  have hP : va_P (dC, dI) vwCl (fn_ws cJ cI h0 h1 n1 a1 e1 l1 b1 t1 h2 n2 a2 e2 l2 b2 t2 h4 c4 (nI n) (nI (sp_lc n L)) L ab en lf bl tr (nI n) (nI r) mt (bs_i q1) (gf_T n L) ab2 en2 lf2 bl2 tr2 (nI n) (nI x) mt2 (bs_i q2) bo (nI 1)) H := hP
  have hD : va_D A (fn_ws cJ cI h0 h1 n1 a1 e1 l1 b1 t1 h2 n2 a2 e2 l2 b2 t2 h4 c4 (nI n) (nI (sp_lc n L)) L ab en lf bl tr (nI n) (nI r) mt (bs_i q1) (gf_T n L) ab2 en2 lf2 bl2 tr2 (nI n) (nI x) mt2 (bs_i q2) bo (nI 1)) := hD
  refine lv_iload_n hx hb d_F_place_13 rfl (lv_at hl 2 rfl) ?_
  refine wl_ifeqn (tgt := 28) hx hb (by omega) d_F_place_14 (by decide) (fun hc14 => ?_) (fun hc14 => ?_)
  · exact absurd hc14 (by decide)
  · refine lv_aload_n hx hb d_F_place_17 rfl (lv_at hl 0 rfl) ?_
    refine va_get (D := (dC, dI)) (ci := 2) (v := .ref h2) (C := "FlowNest") (T := T_F) (N := 5) hx hb hts nm_iF hown hK hP 0 rfl rfl 1 (by decide) (hts _ (List.mem_cons_of_mem _ nm_84)) (fun _ h9 => h9) rfl d_F_place_18 ?_
    refine lv_iload_n hx hb d_F_place_21 rfl (lv_at hl 1 rfl) ?_
    have hPc := hP.sub (ws' := sd_ws cJ cI h2 n2 a2 e2 l2 b2 t2 (gf_T n L) ab2 en2 lf2 bl2 tr2 (nI n) (nI x) mt2 (bs_i q2)) [8, 9, 10, 11, 12, 13, 14] rfl
    have hDc := hD.sub (ws' := sd_ws cJ cI h2 n2 a2 e2 l2 b2 t2 (gf_T n L) ab2 en2 lf2 bl2 tr2 (nI n) (nI x) mt2 (bs_i q2)) [8, 9, 10, 11, 12, 13, 14] (by decide) rfl
    have hFc := va_free (wc := sd_ws cJ cI h2 n2 a2 e2 l2 b2 t2 (gf_T n L) ab2 en2 lf2 bl2 tr2 (nI n) (nI x) mt2 (bs_i q2)) hD hS hA [8, 9, 10, 11, 12, 13, 14] rfl
    refine va_calli (va_runV (C := "FlowNest$Side") (b := h2) (As := [.int (nI k)]) (rest := []) ⟨hx, hb, hml, hown, hts⟩ (c_S_moveRoot l dC dI cJ cI h2 n2 a2 e2 l2 b2 t2 H.size (gf_T n L) ab2 en2 lf2 bl2 tr2 (nI n) (nI x) mt2 (bs_i q2) (nI k)) (cwV 1 hts (nm_gV nm_313 nm_314 nm_315 nm_2 nm_c_S_moveRoot) rfl rfl rfl (by decide +kernel) ⟨Nat.le_of_ble_eq_true rfl, Nat.le_of_ble_eq_true rfl⟩) ⟨cw_blindM, va_recv hK hP (ci := 1) rfl (q0 := 8) rfl, cw_preM hPc hDc hK hNw⟩ rfl rfl hl.1 rfl (lv_room (Nat.le_of_ble_eq_true rfl)) d_F_place_22 ⟨Nat.le_of_ble_eq_true rfl, Nat.le_of_ble_eq_true rfl⟩) hS (fun q _ h => hFc q h) hFc (fun r2 u9 t H1 locs ht hvm hw3 hB hz1 hk1 hS => ?_)
    obtain ⟨hP1, hD1⟩ := hB
    rw [ht] at hP1
    obtain ⟨hP, hD⟩ := va_join (wr := ([0, 1, 2, 3, 4, 5, 6, 7, 15, 16] : List Nat).filterMap (fun (i : Nat) => (fn_ws cJ cI h0 h1 n1 a1 e1 l1 b1 t1 h2 n2 a2 e2 l2 b2 t2 h4 c4 (nI n) (nI (sp_lc n L)) L ab en lf bl tr (nI n) (nI r) mt (bs_i q1) (gf_T n L) ab2 en2 lf2 bl2 tr2 (nI n) (nI x) mt2 (bs_i q2) bo (nI 1))[i]?)) (w1 := sd_ws cJ cI h2 n2 a2 e2 l2 b2 t2 (gf_T n L) ab2 en2 lf2 bl2 tr2 (nI n) (nI k) mt2 (nI 1)) hP hD [8, 9, 10, 11, 12, 13, 14] [0, 1, 2, 3, 4, 5, 6, 7, 15, 16] rfl rfl (by decide) (by decide) hk1 hFc hP1 hD1
    generalize H1 = H at hP hS ⊢
    have hP : va_P (dC, dI) vwCl (fn_ws cJ cI h0 h1 n1 a1 e1 l1 b1 t1 h2 n2 a2 e2 l2 b2 t2 h4 c4 (nI n) (nI (sp_lc n L)) L ab en lf bl tr (nI n) (nI r) mt (bs_i q1) (gf_T n L) ab2 en2 lf2 bl2 tr2 (nI n) (nI k) mt2 (nI 1) bo (nI 1)) H := hP.sub (ws' := fn_ws cJ cI h0 h1 n1 a1 e1 l1 b1 t1 h2 n2 a2 e2 l2 b2 t2 h4 c4 (nI n) (nI (sp_lc n L)) L ab en lf bl tr (nI n) (nI r) mt (bs_i q1) (gf_T n L) ab2 en2 lf2 bl2 tr2 (nI n) (nI k) mt2 (nI 1) bo (nI 1)) [0, 1, 2, 3, 4, 5, 6, 7, 10, 11, 12, 13, 14, 15, 16, 8, 9] rfl
    have hD : va_D A (fn_ws cJ cI h0 h1 n1 a1 e1 l1 b1 t1 h2 n2 a2 e2 l2 b2 t2 h4 c4 (nI n) (nI (sp_lc n L)) L ab en lf bl tr (nI n) (nI r) mt (bs_i q1) (gf_T n L) ab2 en2 lf2 bl2 tr2 (nI n) (nI k) mt2 (nI 1) bo (nI 1)) := hD.sub (ws' := fn_ws cJ cI h0 h1 n1 a1 e1 l1 b1 t1 h2 n2 a2 e2 l2 b2 t2 h4 c4 (nI n) (nI (sp_lc n L)) L ab en lf bl tr (nI n) (nI r) mt (bs_i q1) (gf_T n L) ab2 en2 lf2 bl2 tr2 (nI n) (nI k) mt2 (nI 1) bo (nI 1)) [0, 1, 2, 3, 4, 5, 6, 7, 10, 11, 12, 13, 14, 15, 16, 8, 9] (by decide) rfl
    refine lv_goto (tgt := 36) hx hb d_F_place_25 (by decide) ?_
    exact vx_ret (W.widen (k := 1) (n := 6) (Nat.le_of_ble_eq_true rfl) (Nat.le_of_ble_eq_true rfl) (W.iret (v := r2) hx hb hr (fun t ht hW => ⟨⟨r2, (nI r, nI k, q1, true), rfl, ⟨k, hk_k, rfl, rfl, rfl, rfl, rfl, hw3⟩, by rw [ht]; exact hP, hD⟩, hS.F ht⟩) hS.2.2 d_F_place_36))
set_option maxHeartbeats 4000000 in
theorem c_F_place (l : Launch) (hl9 : l.stackTraces = false) (dC : Nat → ClassId) (dI : Nat → Nat → Nat) (cJ cI : ClassId) (h0 h1 n1 a1 e1 l1 b1 t1 h2 n2 a2 e2 l2 b2 t2 h4 c4 hs sa sb : Nat) (ab : Nat → Int64) (en : Nat → Int32) (lf : Nat → Int32) (bl : Nat → Int32) (tr : Nat → Int32) (mt : Int64) (ab2 : Nat → Int64) (en2 : Nat → Int32) (lf2 : Nat → Int32) (bl2 : Nat → Int32) (tr2 : Nat → Int32) (mt2 : Int64) (bo : Nat → Int64) (n r x : Nat) (L : Nat → Int64) (q1 q2 q4 : Bool) (v0 : Int32) (e9 : Bool) (hn : n ≤ 48) (hL : ∀ u v, gf_E n L u v → v < n) (hI1 : fv_S n r L q1 ab en lf bl mt) (hI2 : fv_S n x (gf_T n L) q2 ab2 en2 lf2 bl2 mt2) (hI4 : fv_N n r L q4 bo) : vx_Met l y_F_place w_F_place ({ frames := 7, cells := 1, slots := 6, locals := 103 }) (va_Pc [.ref h0, .int v0, .int (bs_i e9)] (cw_T (dC, dI) cJ cI (fn_ws cJ cI h0 h1 n1 a1 e1 l1 b1 t1 h2 n2 a2 e2 l2 b2 t2 h4 c4 (nI n) (nI (sp_lc n L)) L ab en lf bl tr (nI n) (nI r) mt (bs_i q1) (gf_T n L) ab2 en2 lf2 bl2 tr2 (nI n) (nI x) mt2 (bs_i q2) bo (bs_i q4)) hs sa sb)) (va_Qi (fun (r9 : Int32) (u9 : Int32 × Int32 × Bool × Bool) => match u9 with | (y9, x9, p9, s9) => ∃ k, k < n ∧ v0 = nI k ∧ y9 = (if e9 = true then nI r else nI k) ∧ x9 = (if e9 = true then nI k else nI x) ∧ p9 = (if e9 = true then q1 else true) ∧ s9 = (if e9 = true then true else q2) ∧ r9 = if e9 = true then nI x else nI r) (fun (u9 : Int32 × Int32 × Bool × Bool) (t : State) => match u9 with | (y9, x9, p9, s9) => va_P (dC, dI) vwCl (fn_ws cJ cI h0 h1 n1 a1 e1 l1 b1 t1 h2 n2 a2 e2 l2 b2 t2 h4 c4 (nI n) (nI (sp_lc n L)) L ab en lf bl tr (nI n) y9 mt (bs_i p9) (gf_T n L) ab2 en2 lf2 bl2 tr2 (nI n) x9 mt2 (bs_i s9) bo (nI 1)) t.heap ∧ va_D (va_A (fn_ws cJ cI h0 h1 n1 a1 e1 l1 b1 t1 h2 n2 a2 e2 l2 b2 t2 h4 c4 (nI n) (nI (sp_lc n L)) L ab en lf bl tr (nI n) (nI r) mt (bs_i q1) (gf_T n L) ab2 en2 lf2 bl2 tr2 (nI n) (nI x) mt2 (bs_i q2) bo (bs_i q4)) hs) (fn_ws cJ cI h0 h1 n1 a1 e1 l1 b1 t1 h2 n2 a2 e2 l2 b2 t2 h4 c4 (nI n) (nI (sp_lc n L)) L ab en lf bl tr (nI n) y9 mt (bs_i p9) (gf_T n L) ab2 en2 lf2 bl2 tr2 (nI n) x9 mt2 (bs_i s9) bo (nI 1))) (va_A (fn_ws cJ cI h0 h1 n1 a1 e1 l1 b1 t1 h2 n2 a2 e2 l2 b2 t2 h4 c4 (nI n) (nI (sp_lc n L)) L ab en lf bl tr (nI n) (nI r) mt (bs_i q1) (gf_T n L) ab2 en2 lf2 bl2 tr2 (nI n) (nI x) mt2 (bs_i q2) bo (bs_i q4)) hs)) (vx_X (fun (_ : Unit) => ¬ ∃ k, k < n ∧ v0 = nI k) (fun E _ _ => E = "java/lang/IndexOutOfBoundsException") (fun q => hs ≤ q)) 1 6 (va_A (fn_ws cJ cI h0 h1 n1 a1 e1 l1 b1 t1 h2 n2 a2 e2 l2 b2 t2 h4 c4 (nI n) (nI (sp_lc n L)) L ab en lf bl tr (nI n) (nI r) mt (bs_i q1) (gf_T n L) ab2 en2 lf2 bl2 tr2 (nI n) (nI x) mt2 (bs_i q2) bo (bs_i q4)) hs) := by
  cases e9
  · exact c_F_place_0 l hl9 dC dI cJ cI h0 h1 n1 a1 e1 l1 b1 t1 h2 n2 a2 e2 l2 b2 t2 h4 c4 hs sa sb ab en lf bl tr mt ab2 en2 lf2 bl2 tr2 mt2 bo n r x L q1 q2 q4 v0 hn hL hI1 hI2 hI4
  · exact c_F_place_1 l hl9 dC dI cJ cI h0 h1 n1 a1 e1 l1 b1 t1 h2 n2 a2 e2 l2 b2 t2 h4 c4 hs sa sb ab en lf bl tr mt ab2 en2 lf2 bl2 tr2 mt2 bo n r x L q1 q2 q4 v0 hn hL hI1 hI2 hI4
