/-! contracts of the reference's depth, header, dominator, controls (laid by wip/gen/query2.py) -/
set_option maxHeartbeats 4000000 in
set_option maxRecDepth 100000 in
theorem c_M_depth (l : Launch) (dC : Nat → ClassId) (dI : Nat → Nat → Nat) (cJ cI : ClassId) (h3 k3 o3 w3 v3 p3 e3 f3 q3 hs : Nat) (cd : Int32) (ey : Int32) (ex : Int32) (rc : Int64) (eg : Int64) (li : Nat → Int64) (so : Nat → Int64) (wi : Nat → Int64) (ew : Nat → Int64) (lo : Nat → Int64) (en : Nat → Int32) (le : Nat → Int32) (pi : Nat → Int32) (n r x : Nat) (q : Bool) (v0 : Int32)  (hn : n ≤ 48) (hz : 0 < n → ey = nI r ∧ ex = nI x ∧ r < n ∧ x < n) (hL : ∀ u v, gf_E n li u v → v < n) (hq : q = true → md_G n r x li rc eg so wi ew lo en le) : Met l y_M_depth w_M_depth ({ frames := 6, cells := 0, slots := 0, locals := 136 }) (va_Pc [.ref h3, .int v0] (cw_M (dC, dI) cJ cI (md_ws cJ cI h3 k3 o3 w3 v3 p3 e3 f3 q3 cd (nI n) ey ex (bs_i q) rc eg li so wi ew lo en le pi) hs)) (va_Qi (fun (r9 : Int32) (u9 : Int64 × Int64 × (Nat → Int64) × (Nat → Int64) × (Nat → Int64) × (Nat → Int64) × (Nat → Int32) × (Nat → Int32) × (Nat → Int32) × Bool × Bool) => match u9 with | (rc9, eg9, so9, wi9, ew9, lo9, en9, le9, pi9, b, k9) => (b = true ↔ ∃ k, k < n ∧ v0 = nI k) ∧ (k9 = true → md_G n r x li rc9 eg9 so9 wi9 ew9 lo9 en9 le9) ∧ (b = true → ∃ k, k < n ∧ v0 = nI k ∧ r9 = nI (ct_n (fun i => bs_t (sp_lp n li r i) k) n))) (fun (u9 : Int64 × Int64 × (Nat → Int64) × (Nat → Int64) × (Nat → Int64) × (Nat → Int64) × (Nat → Int32) × (Nat → Int32) × (Nat → Int32) × Bool × Bool) (t : State) => match u9 with | (rc9, eg9, so9, wi9, ew9, lo9, en9, le9, pi9, b, k9) => va_P (dC, dI) vwCl (md_ws cJ cI h3 k3 o3 w3 v3 p3 e3 f3 q3 (bs_i (!b)) (nI n) ey ex (bs_i k9) rc9 eg9 li so9 wi9 ew9 lo9 en9 le9 pi9) t.heap ∧ va_D (va_A (md_ws cJ cI h3 k3 o3 w3 v3 p3 e3 f3 q3 cd (nI n) ey ex (bs_i q) rc eg li so wi ew lo en le pi) hs) (md_ws cJ cI h3 k3 o3 w3 v3 p3 e3 f3 q3 (bs_i (!b)) (nI n) ey ex (bs_i k9) rc9 eg9 li so9 wi9 ew9 lo9 en9 le9 pi9)) (va_A (md_ws cJ cI h3 k3 o3 w3 v3 p3 e3 f3 q3 cd (nI n) ey ex (bs_i q) rc eg li so wi ew lo en le pi) hs)) 0 0 (va_A (md_ws cJ cI h3 k3 o3 w3 v3 p3 e3 f3 q3 cd (nI n) ey ex (bs_i q) rc eg li so wi ew lo en le pi) hs) := by
  refine Met.ofW (cc := b_M_depth) (maxL := 4) (ret := (some .int)) (by decide) rfl ?_
  intro p e s m args below meth c s₁ B hml hv9
  obtain ⟨rfl, hsz, ⟨hP, hK, hNw⟩, hD0⟩ := hv9
  have hx := B.exec
  have hb := B.bytes
  have hr := B.returns
  have hts := atoms_spec (ws := w_M_depth) B.pre
  have hown : s.vm.findClass "FlowNestModel" = some m.cls := findClass_of_methodNamed B.named
  have hlocks := B.notSynchronized
  subst hsz
  have hD := hD0.self (sz := s.heap.size)
  generalize hAe : va_A (md_ws cJ cI h3 k3 o3 w3 v3 p3 e3 f3 q3 cd (nI n) ey ex (bs_i q) rc eg li so wi ew lo en le pi) s.heap.size = A at hD ⊢
  have hA : ∀ q : Nat, s.heap.size ≤ q → A q := fun q h => by rw [← hAe]; exact Or.inr h
  have hS : va_S A s.heap s.heap [] := va_S.rf
  have hP : va_P (dC, dI) vwCl (md_ws cJ cI h3 k3 o3 w3 v3 p3 e3 f3 q3 cd (nI n) ey ex (bs_i q) rc eg li so wi ew lo en le pi) s.heap := hP
  have hl := lv_entry ([.ref h3, .int v0]) (n := 4) (Nat.le_of_ble_eq_true rfl)
  rw [lg_entry_eq]
  generalize (lg_sl ([.ref h3, .int v0]) ++ List.replicate (4 - (lg_sl ([.ref h3, .int v0])).length) Slot.unset).toArray = ls at hl ⊢
  have hl : lv_has ls 4 [(0, .ref h3), (1, .int v0)] := hl
  refine lv_aload_n hx hb d_M_depth_0 rfl (lv_at hl 0 rfl) ?_
  refine lv_iload_n hx hb d_M_depth_1 rfl (lv_at hl 1 rfl) ?_
  have hPc := hP.sub (ws' := md_ws cJ cI h3 k3 o3 w3 v3 p3 e3 f3 q3 cd (nI n) ey ex (bs_i q) rc eg li so wi ew lo en le pi) [0, 1, 2, 3, 4, 5, 6, 7, 8] rfl
  have hDc := hD.sub (ws' := md_ws cJ cI h3 k3 o3 w3 v3 p3 e3 f3 q3 cd (nI n) ey ex (bs_i q) rc eg li so wi ew lo en le pi) [0, 1, 2, 3, 4, 5, 6, 7, 8] (by decide) rfl
  have hFc := va_free (wc := md_ws cJ cI h3 k3 o3 w3 v3 p3 e3 f3 q3 cd (nI n) ey ex (bs_i q) rc eg li so wi ew lo en le pi) hD hS hA [0, 1, 2, 3, 4, 5, 6, 7, 8] rfl
  refine va_calli (va_runV (C := "FlowNestModel") (b := h3) (As := [.int v0]) (rest := []) ⟨hx, hb, hml, hown, hts⟩ (c_M_looks l dC dI cJ cI h3 k3 o3 w3 v3 p3 e3 f3 q3 s.heap.size cd ey ex rc eg li so wi ew lo en le pi n r x q v0 hn hz hL hq) (cwV 1 hts (nm_gV nm_488 nm_490 nm_s_M_looks nm_4 nm_c_M_looks) rfl rfl rfl (by decide +kernel) ⟨Nat.le_of_ble_eq_true rfl, Nat.le_of_ble_eq_true rfl⟩) ⟨cw_blindM, va_recv hK hP (ci := 3) rfl (q0 := 0) rfl, cw_preM hPc hDc hK hNw⟩ rfl rfl hl.1 rfl (lv_room (Nat.le_of_ble_eq_true rfl)) d_M_depth_2 ⟨Nat.zero_le _, Nat.zero_le _⟩) hS (fun q _ h => hFc q h) hFc (fun r1 u9 t H1 locs ht hvm hw2 hB hz1 hk1 hS => ?_)
  obtain ⟨rc3, eg4, so5, wi6, ew7, lo8, en9, le10, pi11, b12, k13⟩ := u9
  obtain ⟨hP1, hD1⟩ := hB
  rw [ht] at hP1
  obtain ⟨hP, hD⟩ := va_join (wr := ([] : List Nat).filterMap (fun (i : Nat) => (md_ws cJ cI h3 k3 o3 w3 v3 p3 e3 f3 q3 cd (nI n) ey ex (bs_i q) rc eg li so wi ew lo en le pi)[i]?)) (w1 := md_ws cJ cI h3 k3 o3 w3 v3 p3 e3 f3 q3 (bs_i (!b12)) (nI n) ey ex (bs_i k13) rc3 eg4 li so5 wi6 ew7 lo8 en9 le10 pi11) hP hD [0, 1, 2, 3, 4, 5, 6, 7, 8] [] rfl rfl (by decide) (by decide) hk1 hFc hP1 hD1
  generalize H1 = H at hP hS ⊢
  have hP : va_P (dC, dI) vwCl (md_ws cJ cI h3 k3 o3 w3 v3 p3 e3 f3 q3 (bs_i (!b12)) (nI n) ey ex (bs_i k13) rc3 eg4 li so5 wi6 ew7 lo8 en9 le10 pi11) H := hP.sub (ws' := md_ws cJ cI h3 k3 o3 w3 v3 p3 e3 f3 q3 (bs_i (!b12)) (nI n) ey ex (bs_i k13) rc3 eg4 li so5 wi6 ew7 lo8 en9 le10 pi11) [0, 1, 2, 3, 4, 5, 6, 7, 8] rfl
  have hD : va_D A (md_ws cJ cI h3 k3 o3 w3 v3 p3 e3 f3 q3 (bs_i (!b12)) (nI n) ey ex (bs_i k13) rc3 eg4 li so5 wi6 ew7 lo8 en9 le10 pi11) := hD.sub (ws' := md_ws cJ cI h3 k3 o3 w3 v3 p3 e3 f3 q3 (bs_i (!b12)) (nI n) ey ex (bs_i k13) rc3 eg4 li so5 wi6 ew7 lo8 en9 le10 pi11) [0, 1, 2, 3, 4, 5, 6, 7, 8] (by decide) rfl
  obtain ⟨rfl, hb_0, hG_0, hk_0⟩ := hw2
  refine wl_ifneb (tgt := 10) hx hb d_M_depth_5 (by decide) (fun hc5 => ?_) (fun hc5 => ?_)
  · obtain ⟨k, hk_k, rfl⟩ := hb_0.mp hc5
    have hG9 := hG_0 (hk_0 hc5)
    obtain ⟨rfl, rfl, hr9, hx9⟩ := hz (by omega)
    have hP : va_P (dC, dI) vwCl (md_ws cJ cI h3 k3 o3 w3 v3 p3 e3 f3 q3 (bs_i (!b12)) (nI n) (nI r) (nI x) (bs_i k13) rc3 eg4 li so5 wi6 ew7 lo8 en9 le10 pi11) H := hP
    have hD : va_D A (md_ws cJ cI h3 k3 o3 w3 v3 p3 e3 f3 q3 (bs_i (!b12)) (nI n) (nI r) (nI x) (bs_i k13) rc3 eg4 li so5 wi6 ew7 lo8 en9 le10 pi11) := hD
    refine lv_iconst (v := nI 0) hx hb d_M_depth_10 (by decide) ?_
    refine lv_istore_n (lv' := [(2, .int (nI 0)), (0, .ref h3), (1, .int (nI k))]) hx hb d_M_depth_11 rfl hl (by decide) rfl (fun ls hl => ?_)
    refine lv_iconst (v := nI 0) hx hb d_M_depth_12 (by decide) ?_
    refine lv_istore_n (lv' := [(3, .int (nI 0)), (2, .int (nI 0)), (0, .ref h3), (1, .int (nI k))]) hx hb d_M_depth_13 rfl hl (by decide) rfl (fun ls hl => ?_)
    refine wl_loop (σ := Nat) (dC, dI) vwCl A 14 4 (fun (h : Nat) => [(0, .ref h3), (1, .int (nI k)), (2, .int (nI (ct_n (fun i => bs_t (lo8 i) k) h))), (3, .int (nI h))]) (fun (h : Nat) => md_ws cJ cI h3 k3 o3 w3 v3 p3 e3 f3 q3 (bs_i (!b12)) (nI n) (nI r) (nI x) (bs_i k13) rc3 eg4 li so5 wi6 ew7 lo8 en9 le10 pi11) (fun (h : Nat) => h ≤ n) (fun (h : Nat) => n - h) ?_ 0 (Nat.zero_le n) hP hD hS (lv_sub hl [2, 3, 1, 0] rfl)
    intro h hI ih H locs ls hP hD hS hl
    have hI : h ≤ n := hI
    have hP : va_P (dC, dI) vwCl (md_ws cJ cI h3 k3 o3 w3 v3 p3 e3 f3 q3 (bs_i (!b12)) (nI n) (nI r) (nI x) (bs_i k13) rc3 eg4 li so5 wi6 ew7 lo8 en9 le10 pi11) H := hP
    have hD : va_D A (md_ws cJ cI h3 k3 o3 w3 v3 p3 e3 f3 q3 (bs_i (!b12)) (nI n) (nI r) (nI x) (bs_i k13) rc3 eg4 li so5 wi6 ew7 lo8 en9 le10 pi11) := hD
    have hl : lv_has ls 4 [(0, .ref h3), (1, .int (nI k)), (2, .int (nI (ct_n (fun i => bs_t (lo8 i) k) h))), (3, .int (nI h))] := hl
    refine lv_iload_n hx hb d_M_depth_14 rfl (lv_at hl 3 rfl) ?_
    refine lv_aload_n hx hb d_M_depth_15 rfl (lv_at hl 0 rfl) ?_
    refine va_get (D := (dC, dI)) (ci := 3) (v := .int (nI n)) (C := "FlowNestModel") (T := T_M) (N := 15) hx hb hts nm_iM hown hK hP 0 rfl rfl 1 (by decide) (hts _ (List.mem_cons_of_mem _ nm_415)) (fun _ h9 => h9) rfl d_M_depth_16 ?_
    refine wl_ige (tgt := 49) hx hb (by omega) (by omega) d_M_depth_19 (by decide) (fun hc19 => ?_) (fun hc19 => ?_)
    · refine lv_iload_n hx hb d_M_depth_49 rfl (lv_at hl 2 rfl) ?_
      exact W.iret (v := nI (ct_n (fun i => bs_t (lo8 i) k) h)) hx hb hr (fun t ht hW => ⟨⟨(nI (ct_n (fun i => bs_t (lo8 i) k) h)), (rc3, eg4, so5, wi6, ew7, lo8, en9, le10, pi11, b12, k13), rfl, ⟨⟨fun _ => ⟨k, hk_k, rfl⟩, fun _ => hc5⟩, hG_0, fun _ => ⟨k, hk_k, rfl, by rw [show h = n by omega]; exact congrArg nI (ct_congr (fun i hi => by rw [hG9.2.2.2.2.2.1 i hi]))⟩⟩, by rw [ht]; exact hP, hD⟩, hS.F ht⟩) hS.2.2 d_M_depth_50
    · refine lv_iload_n hx hb d_M_depth_22 rfl (lv_at hl 2 rfl) ?_
      refine lv_aload_n hx hb d_M_depth_23 rfl (lv_at hl 0 rfl) ?_
      refine va_get (D := (dC, dI)) (ci := 3) (v := .ref p3) (C := "FlowNestModel") (T := T_M) (N := 15) hx hb hts nm_iM hown hK hP 0 rfl rfl 11 (by decide) (hts _ (List.mem_cons_of_mem _ nm_425)) (fun _ h9 => h9) rfl d_M_depth_24 ?_
      refine lv_iload_n hx hb d_M_depth_27 rfl (lv_at hl 3 rfl) ?_
      refine wl_lald (i := h) hx hb hK hP 5 0 rfl rfl (by omega) (by decide) d_M_depth_28 ?_
      refine lv_iload_n hx hb d_M_depth_29 rfl (lv_at hl 1 rfl) ?_
      refine vp_callSi (va_Run.run (va_runS (As := [.long (lo8 h), .int (nI k)]) (rest := [.int (nI (ct_n (fun i => bs_t (lo8 i) k) h))]) ⟨hx, hb, hml, hown, hts⟩ (c_M_has l (lo8 h) k (by omega)) (va_cwS 2 hts (nm_gS nm_476 nm_477 nm_4 nm_c_M_has) rfl rfl rfl (by decide +kernel) ⟨Nat.le_of_ble_eq_true rfl, Nat.le_of_ble_eq_true rfl⟩) ⟨fun _ _ _ _ q => ⟨q.1, trivial⟩, fun U hU hW => ⟨rfl, trivial⟩⟩ rfl rfl hl.1 rfl (lv_room (Nat.le_of_ble_eq_true rfl)) d_M_depth_30 ⟨Nat.zero_le _, Nat.zero_le _⟩)) (fun r hr => ?_)
      subst hr
      refine wl_ifeqb (tgt := 40) hx hb d_M_depth_33 (by decide) (fun hc33 => ?_) (fun hc33 => ?_)
      · refine lv_iconst (v := nI 0) hx hb d_M_depth_40 (by decide) ?_
        refine wl_iaddn hx hb d_M_depth_41 ?_
        refine lv_istore_n (lv' := [(2, .int (nI ((ct_n (fun i => bs_t (lo8 i) k) h) + 0))), (0, .ref h3), (1, .int (nI k)), (3, .int (nI h))]) hx hb d_M_depth_42 rfl hl (by decide) rfl (fun ls hl => ?_)
        refine lv_iinc (lv' := [(3, .int (nI (h + 1))), (2, .int (nI ((ct_n (fun i => bs_t (lo8 i) k) h) + 0))), (0, .ref h3), (1, .int (nI k))]) (k := 3) (v := nI (h + 1)) hx hb d_M_depth_43 hl rfl (nI_1 h) (by decide) rfl (fun ls hl => ?_)
        refine lv_goto (tgt := 14) hx hb d_M_depth_46 (by decide) ?_
        rw [show ct_n (fun i => bs_t (lo8 i) k) h + 0 = ct_n (fun i => bs_t (lo8 i) k) (h + 1) from ct_s0 (p := fun i => bs_t (lo8 i) k) hc33] at hl
        exact ih (h + 1) (show h + 1 ≤ n by omega) (show n - (h + 1) < n - h by omega) _ _ _ hP hD hS (lv_sub hl [2, 3, 1, 0] rfl)
      · refine lv_iconst (v := nI 1) hx hb d_M_depth_36 (by decide) ?_
        refine lv_goto (tgt := 41) hx hb d_M_depth_37 (by decide) ?_
        refine wl_iaddn hx hb d_M_depth_41 ?_
        refine lv_istore_n (lv' := [(2, .int (nI ((ct_n (fun i => bs_t (lo8 i) k) h) + 1))), (0, .ref h3), (1, .int (nI k)), (3, .int (nI h))]) hx hb d_M_depth_42 rfl hl (by decide) rfl (fun ls hl => ?_)
        refine lv_iinc (lv' := [(3, .int (nI (h + 1))), (2, .int (nI ((ct_n (fun i => bs_t (lo8 i) k) h) + 1))), (0, .ref h3), (1, .int (nI k))]) (k := 3) (v := nI (h + 1)) hx hb d_M_depth_43 hl rfl (nI_1 h) (by decide) rfl (fun ls hl => ?_)
        refine lv_goto (tgt := 14) hx hb d_M_depth_46 (by decide) ?_
        rw [show ct_n (fun i => bs_t (lo8 i) k) h + 1 = ct_n (fun i => bs_t (lo8 i) k) (h + 1) from ct_s1 (p := fun i => bs_t (lo8 i) k) hc33] at hl
        exact ih (h + 1) (show h + 1 ≤ n by omega) (show n - (h + 1) < n - h by omega) _ _ _ hP hD hS (lv_sub hl [2, 3, 1, 0] rfl)
  · refine lv_iconst (v := nI 0) hx hb d_M_depth_8 (by decide) ?_
    exact W.iret (v := nI 0) hx hb hr (fun t ht hW => ⟨⟨(nI 0), (rc3, eg4, so5, wi6, ew7, lo8, en9, le10, pi11, b12, k13), rfl, ⟨hb_0, hG_0, fun h => by rw [hc5] at h; cases h⟩, by rw [ht]; exact hP, hD⟩, hS.F ht⟩) hS.2.2 d_M_depth_9
set_option maxHeartbeats 4000000 in
set_option maxRecDepth 100000 in
theorem c_M_header (l : Launch) (dC : Nat → ClassId) (dI : Nat → Nat → Nat) (cJ cI : ClassId) (h3 k3 o3 w3 v3 p3 e3 f3 q3 hs : Nat) (cd : Int32) (ey : Int32) (ex : Int32) (rc : Int64) (eg : Int64) (li : Nat → Int64) (so : Nat → Int64) (wi : Nat → Int64) (ew : Nat → Int64) (lo : Nat → Int64) (en : Nat → Int32) (le : Nat → Int32) (pi : Nat → Int32) (n r x : Nat) (q : Bool) (v0 : Int32) (ot : Bool) (hn : n ≤ 48) (hz : 0 < n → ey = nI r ∧ ex = nI x ∧ r < n ∧ x < n) (hL : ∀ u v, gf_E n li u v → v < n) (hq : q = true → md_G n r x li rc eg so wi ew lo en le) : Met l y_M_header w_M_header ({ frames := 6, cells := 0, slots := 0, locals := 136 }) (va_Pc [.ref h3, .int v0, .int (bs_i ot)] (cw_M (dC, dI) cJ cI (md_ws cJ cI h3 k3 o3 w3 v3 p3 e3 f3 q3 cd (nI n) ey ex (bs_i q) rc eg li so wi ew lo en le pi) hs)) (va_Qi (fun (r9 : Int32) (u9 : Int64 × Int64 × (Nat → Int64) × (Nat → Int64) × (Nat → Int64) × (Nat → Int64) × (Nat → Int32) × (Nat → Int32) × (Nat → Int32) × Bool × Bool) => match u9 with | (rc9, eg9, so9, wi9, ew9, lo9, en9, le9, pi9, b, k9) => (b = true ↔ ∃ k, k < n ∧ v0 = nI k) ∧ (k9 = true → md_G n r x li rc9 eg9 so9 wi9 ew9 lo9 en9 le9) ∧ (b = true → ∃ k, k < n ∧ v0 = nI k ∧ r9 = sp_hi (sp_hd (sp_lp n li r) (fun i => bs_t (sp_lp n li r i) k && !(ot && decide (i = k))) n))) (fun (u9 : Int64 × Int64 × (Nat → Int64) × (Nat → Int64) × (Nat → Int64) × (Nat → Int64) × (Nat → Int32) × (Nat → Int32) × (Nat → Int32) × Bool × Bool) (t : State) => match u9 with | (rc9, eg9, so9, wi9, ew9, lo9, en9, le9, pi9, b, k9) => va_P (dC, dI) vwCl (md_ws cJ cI h3 k3 o3 w3 v3 p3 e3 f3 q3 (bs_i (!b)) (nI n) ey ex (bs_i k9) rc9 eg9 li so9 wi9 ew9 lo9 en9 le9 pi9) t.heap ∧ va_D (va_A (md_ws cJ cI h3 k3 o3 w3 v3 p3 e3 f3 q3 cd (nI n) ey ex (bs_i q) rc eg li so wi ew lo en le pi) hs) (md_ws cJ cI h3 k3 o3 w3 v3 p3 e3 f3 q3 (bs_i (!b)) (nI n) ey ex (bs_i k9) rc9 eg9 li so9 wi9 ew9 lo9 en9 le9 pi9)) (va_A (md_ws cJ cI h3 k3 o3 w3 v3 p3 e3 f3 q3 cd (nI n) ey ex (bs_i q) rc eg li so wi ew lo en le pi) hs)) 0 0 (va_A (md_ws cJ cI h3 k3 o3 w3 v3 p3 e3 f3 q3 cd (nI n) ey ex (bs_i q) rc eg li so wi ew lo en le pi) hs) := by
  refine Met.ofW (cc := b_M_header) (maxL := 6) (ret := (some .int)) (by decide) rfl ?_
  intro p e s m args below meth c s₁ B hml hv9
  obtain ⟨rfl, hsz, ⟨hP, hK, hNw⟩, hD0⟩ := hv9
  have hx := B.exec
  have hb := B.bytes
  have hr := B.returns
  have hts := atoms_spec (ws := w_M_header) B.pre
  have hown : s.vm.findClass "FlowNestModel" = some m.cls := findClass_of_methodNamed B.named
  have hlocks := B.notSynchronized
  subst hsz
  have hD := hD0.self (sz := s.heap.size)
  generalize hAe : va_A (md_ws cJ cI h3 k3 o3 w3 v3 p3 e3 f3 q3 cd (nI n) ey ex (bs_i q) rc eg li so wi ew lo en le pi) s.heap.size = A at hD ⊢
  have hA : ∀ q : Nat, s.heap.size ≤ q → A q := fun q h => by rw [← hAe]; exact Or.inr h
  have hS : va_S A s.heap s.heap [] := va_S.rf
  have hP : va_P (dC, dI) vwCl (md_ws cJ cI h3 k3 o3 w3 v3 p3 e3 f3 q3 cd (nI n) ey ex (bs_i q) rc eg li so wi ew lo en le pi) s.heap := hP
  have hl := lv_entry ([.ref h3, .int v0, .int (bs_i ot)]) (n := 6) (Nat.le_of_ble_eq_true rfl)
  rw [lg_entry_eq]
  generalize (lg_sl ([.ref h3, .int v0, .int (bs_i ot)]) ++ List.replicate (6 - (lg_sl ([.ref h3, .int v0, .int (bs_i ot)])).length) Slot.unset).toArray = ls at hl ⊢
  have hl : lv_has ls 6 [(0, .ref h3), (1, .int v0), (2, .int (bs_i ot))] := hl
  refine lv_aload_n hx hb d_M_header_0 rfl (lv_at hl 0 rfl) ?_
  refine lv_iload_n hx hb d_M_header_1 rfl (lv_at hl 1 rfl) ?_
  have hPc := hP.sub (ws' := md_ws cJ cI h3 k3 o3 w3 v3 p3 e3 f3 q3 cd (nI n) ey ex (bs_i q) rc eg li so wi ew lo en le pi) [0, 1, 2, 3, 4, 5, 6, 7, 8] rfl
  have hDc := hD.sub (ws' := md_ws cJ cI h3 k3 o3 w3 v3 p3 e3 f3 q3 cd (nI n) ey ex (bs_i q) rc eg li so wi ew lo en le pi) [0, 1, 2, 3, 4, 5, 6, 7, 8] (by decide) rfl
  have hFc := va_free (wc := md_ws cJ cI h3 k3 o3 w3 v3 p3 e3 f3 q3 cd (nI n) ey ex (bs_i q) rc eg li so wi ew lo en le pi) hD hS hA [0, 1, 2, 3, 4, 5, 6, 7, 8] rfl
  refine va_calli (va_runV (C := "FlowNestModel") (b := h3) (As := [.int v0]) (rest := []) ⟨hx, hb, hml, hown, hts⟩ (c_M_looks l dC dI cJ cI h3 k3 o3 w3 v3 p3 e3 f3 q3 s.heap.size cd ey ex rc eg li so wi ew lo en le pi n r x q v0 hn hz hL hq) (cwV 1 hts (nm_gV nm_488 nm_490 nm_s_M_looks nm_4 nm_c_M_looks) rfl rfl rfl (by decide +kernel) ⟨Nat.le_of_ble_eq_true rfl, Nat.le_of_ble_eq_true rfl⟩) ⟨cw_blindM, va_recv hK hP (ci := 3) rfl (q0 := 0) rfl, cw_preM hPc hDc hK hNw⟩ rfl rfl hl.1 rfl (lv_room (Nat.le_of_ble_eq_true rfl)) d_M_header_2 ⟨Nat.zero_le _, Nat.zero_le _⟩) hS (fun q _ h => hFc q h) hFc (fun r1 u9 t H1 locs ht hvm hw2 hB hz1 hk1 hS => ?_)
  obtain ⟨rc3, eg4, so5, wi6, ew7, lo8, en9, le10, pi11, b12, k13⟩ := u9
  obtain ⟨hP1, hD1⟩ := hB
  rw [ht] at hP1
  obtain ⟨hP, hD⟩ := va_join (wr := ([] : List Nat).filterMap (fun (i : Nat) => (md_ws cJ cI h3 k3 o3 w3 v3 p3 e3 f3 q3 cd (nI n) ey ex (bs_i q) rc eg li so wi ew lo en le pi)[i]?)) (w1 := md_ws cJ cI h3 k3 o3 w3 v3 p3 e3 f3 q3 (bs_i (!b12)) (nI n) ey ex (bs_i k13) rc3 eg4 li so5 wi6 ew7 lo8 en9 le10 pi11) hP hD [0, 1, 2, 3, 4, 5, 6, 7, 8] [] rfl rfl (by decide) (by decide) hk1 hFc hP1 hD1
  generalize H1 = H at hP hS ⊢
  have hP : va_P (dC, dI) vwCl (md_ws cJ cI h3 k3 o3 w3 v3 p3 e3 f3 q3 (bs_i (!b12)) (nI n) ey ex (bs_i k13) rc3 eg4 li so5 wi6 ew7 lo8 en9 le10 pi11) H := hP.sub (ws' := md_ws cJ cI h3 k3 o3 w3 v3 p3 e3 f3 q3 (bs_i (!b12)) (nI n) ey ex (bs_i k13) rc3 eg4 li so5 wi6 ew7 lo8 en9 le10 pi11) [0, 1, 2, 3, 4, 5, 6, 7, 8] rfl
  have hD : va_D A (md_ws cJ cI h3 k3 o3 w3 v3 p3 e3 f3 q3 (bs_i (!b12)) (nI n) ey ex (bs_i k13) rc3 eg4 li so5 wi6 ew7 lo8 en9 le10 pi11) := hD.sub (ws' := md_ws cJ cI h3 k3 o3 w3 v3 p3 e3 f3 q3 (bs_i (!b12)) (nI n) ey ex (bs_i k13) rc3 eg4 li so5 wi6 ew7 lo8 en9 le10 pi11) [0, 1, 2, 3, 4, 5, 6, 7, 8] (by decide) rfl
  obtain ⟨rfl, hb_0, hG_0, hk_0⟩ := hw2
  refine wl_ifneb (tgt := 10) hx hb d_M_header_5 (by decide) (fun hc5 => ?_) (fun hc5 => ?_)
  · obtain ⟨k, hk_k, rfl⟩ := hb_0.mp hc5
    have hG9 := hG_0 (hk_0 hc5)
    obtain ⟨rfl, rfl, hr9, hx9⟩ := hz (by omega)
    have hP : va_P (dC, dI) vwCl (md_ws cJ cI h3 k3 o3 w3 v3 p3 e3 f3 q3 (bs_i (!b12)) (nI n) (nI r) (nI x) (bs_i k13) rc3 eg4 li so5 wi6 ew7 lo8 en9 le10 pi11) H := hP
    have hD : va_D A (md_ws cJ cI h3 k3 o3 w3 v3 p3 e3 f3 q3 (bs_i (!b12)) (nI n) (nI r) (nI x) (bs_i k13) rc3 eg4 li so5 wi6 ew7 lo8 en9 le10 pi11) := hD
    refine lv_iconst (v := -1) hx hb d_M_header_10 (by decide) ?_
    refine lv_istore_n (lv' := [(3, .int (-1)), (0, .ref h3), (1, .int (nI k)), (2, .int (bs_i ot))]) hx hb d_M_header_11 rfl hl (by decide) rfl (fun ls hl => ?_)
    refine lv_iconst (v := nI 0) hx hb d_M_header_12 (by decide) ?_
    refine lv_istore (lv' := [(4, .int (nI 0)), (3, .int (-1)), (0, .ref h3), (1, .int (nI k)), (2, .int (bs_i ot))]) hx hb d_M_header_13 hl (by decide) rfl (fun ls hl => ?_)
    refine wl_loop (σ := Nat) (dC, dI) vwCl A 15 6 (fun (h : Nat) => [(0, .ref h3), (1, .int (nI k)), (2, .int (bs_i ot)), (3, .int (sp_hi (sp_hd lo8 (fun i => bs_t (lo8 i) k && !(ot && decide (i = k))) h))), (4, .int (nI h))]) (fun (h : Nat) => md_ws cJ cI h3 k3 o3 w3 v3 p3 e3 f3 q3 (bs_i (!b12)) (nI n) (nI r) (nI x) (bs_i k13) rc3 eg4 li so5 wi6 ew7 lo8 en9 le10 pi11) (fun (h : Nat) => h ≤ n) (fun (h : Nat) => n - h) ?_ 0 (Nat.zero_le n) hP hD hS (lv_sub hl [2, 3, 4, 1, 0] rfl)
    intro h hI ih H locs ls hP hD hS hl
    have hI : h ≤ n := hI
    have hP : va_P (dC, dI) vwCl (md_ws cJ cI h3 k3 o3 w3 v3 p3 e3 f3 q3 (bs_i (!b12)) (nI n) (nI r) (nI x) (bs_i k13) rc3 eg4 li so5 wi6 ew7 lo8 en9 le10 pi11) H := hP
    have hD : va_D A (md_ws cJ cI h3 k3 o3 w3 v3 p3 e3 f3 q3 (bs_i (!b12)) (nI n) (nI r) (nI x) (bs_i k13) rc3 eg4 li so5 wi6 ew7 lo8 en9 le10 pi11) := hD
    have hl : lv_has ls 6 [(0, .ref h3), (1, .int (nI k)), (2, .int (bs_i ot)), (3, .int (sp_hi (sp_hd lo8 (fun i => bs_t (lo8 i) k && !(ot && decide (i = k))) h))), (4, .int (nI h))] := hl
    refine lv_iload hx hb d_M_header_15 (lv_at hl 4 rfl) ?_
    refine lv_aload_n hx hb d_M_header_17 rfl (lv_at hl 0 rfl) ?_
    refine va_get (D := (dC, dI)) (ci := 3) (v := .int (nI n)) (C := "FlowNestModel") (T := T_M) (N := 15) hx hb hts nm_iM hown hK hP 0 rfl rfl 1 (by decide) (hts _ (List.mem_cons_of_mem _ nm_415)) (fun _ h9 => h9) rfl d_M_header_18 ?_
    refine wl_ige (tgt := 101) hx hb (by omega) (by omega) d_M_header_21 (by decide) (fun hc21 => ?_) (fun hc21 => ?_)
    · refine lv_iload_n hx hb d_M_header_101 rfl (lv_at hl 3 rfl) ?_
      exact W.iret (v := sp_hi (sp_hd lo8 (fun i => bs_t (lo8 i) k && !(ot && decide (i = k))) h)) hx hb hr (fun t ht hW => ⟨⟨(sp_hi (sp_hd lo8 (fun i => bs_t (lo8 i) k && !(ot && decide (i = k))) h)), (rc3, eg4, so5, wi6, ew7, lo8, en9, le10, pi11, b12, k13), rfl, ⟨⟨fun _ => ⟨k, hk_k, rfl⟩, fun _ => hc5⟩, hG_0, fun _ => ⟨k, hk_k, rfl, by rw [show h = n by omega]; exact congrArg sp_hi (sp_hd_congr (fun i hi => hG9.2.2.2.2.2.1 i hi) (fun i hi => by rw [hG9.2.2.2.2.2.1 i hi]))⟩⟩, by rw [ht]; exact hP, hD⟩, hS.F ht⟩) hS.2.2 d_M_header_102
    · refine lv_aload_n hx hb d_M_header_24 rfl (lv_at hl 0 rfl) ?_
      refine va_get (D := (dC, dI)) (ci := 3) (v := .ref p3) (C := "FlowNestModel") (T := T_M) (N := 15) hx hb hts nm_iM hown hK hP 0 rfl rfl 11 (by decide) (hts _ (List.mem_cons_of_mem _ nm_425)) (fun _ h9 => h9) rfl d_M_header_25 ?_
      refine lv_iload hx hb d_M_header_28 (lv_at hl 4 rfl) ?_
      refine wl_lald (i := h) hx hb hK hP 5 0 rfl rfl (by omega) (by decide) d_M_header_30 ?_
      refine lv_iload_n hx hb d_M_header_31 rfl (lv_at hl 1 rfl) ?_
      refine vp_callSi (va_Run.run (va_runS (As := [.long (lo8 h), .int (nI k)]) (rest := []) ⟨hx, hb, hml, hown, hts⟩ (c_M_has l (lo8 h) k (by omega)) (va_cwS 2 hts (nm_gS nm_476 nm_477 nm_4 nm_c_M_has) rfl rfl rfl (by decide +kernel) ⟨Nat.le_of_ble_eq_true rfl, Nat.le_of_ble_eq_true rfl⟩) ⟨fun _ _ _ _ q => ⟨q.1, trivial⟩, fun U hU hW => ⟨rfl, trivial⟩⟩ rfl rfl hl.1 rfl (lv_room (Nat.le_of_ble_eq_true rfl)) d_M_header_32 ⟨Nat.zero_le _, Nat.zero_le _⟩)) (fun r hr => ?_)
      subst hr
      refine wl_ifeqb (tgt := 52) hx hb d_M_header_35 (by decide) (fun hc35 => ?_) (fun hc35 => ?_)
      · refine lv_iconst (v := nI 0) hx hb d_M_header_52 (by decide) ?_
        refine lv_istore (lv' := [(5, .int (nI 0)), (0, .ref h3), (1, .int (nI k)), (2, .int (bs_i ot)), (3, .int (sp_hi (sp_hd lo8 (fun i => bs_t (lo8 i) k && !(ot && decide (i = k))) h))), (4, .int (nI h))]) hx hb d_M_header_53 hl (by decide) rfl (fun ls hl => ?_)
        refine lv_iload hx hb d_M_header_55 (lv_at hl 0 rfl) ?_
        refine wl_ifeqn (tgt := 93) hx hb (by omega) d_M_header_57 (by decide) (fun hc57 => ?_) (fun hc57 => ?_)
        · refine lv_iload_n hx hb d_M_header_93 rfl (lv_at hl 4 rfl) ?_
          refine lv_istore_n (lv' := [(3, .int (sp_hi (sp_hd lo8 (fun i => bs_t (lo8 i) k && !(ot && decide (i = k))) h))), (5, .int (nI 0)), (0, .ref h3), (1, .int (nI k)), (2, .int (bs_i ot)), (4, .int (nI h))]) hx hb d_M_header_94 rfl hl (by decide) rfl (fun ls hl => ?_)
          refine lv_iinc (lv' := [(4, .int (nI (h + 1))), (3, .int (sp_hi (sp_hd lo8 (fun i => bs_t (lo8 i) k && !(ot && decide (i = k))) h))), (5, .int (nI 0)), (0, .ref h3), (1, .int (nI k)), (2, .int (bs_i ot))]) (k := 5) (v := nI (h + 1)) hx hb d_M_header_95 hl rfl (nI_1 h) (by decide) rfl (fun ls hl => ?_)
          refine lv_goto (tgt := 15) hx hb d_M_header_98 (by decide) ?_
          have hk9 : sp_hd lo8 (fun i => bs_t (lo8 i) k && !(ot && decide (i = k))) (h + 1) = sp_hd lo8 (fun i => bs_t (lo8 i) k && !(ot && decide (i = k))) h := sp_hd_keep (fun q => by have := q.1; simp [hc35] at this)
          rw [← hk9] at hl
          exact ih (h + 1) (show h + 1 ≤ n by omega) (show n - (h + 1) < n - h by omega) _ _ _ hP hD hS (lv_sub hl [3, 4, 5, 1, 0] rfl)
        · exact absurd hc57 (by decide)
      · refine lv_iload_n hx hb d_M_header_38 rfl (lv_at hl 2 rfl) ?_
        refine wl_ifeqb (tgt := 48) hx hb d_M_header_39 (by decide) (fun hc39 => ?_) (fun hc39 => ?_)
        · refine lv_iconst (v := nI 1) hx hb d_M_header_48 (by decide) ?_
          refine lv_goto (tgt := 53) hx hb d_M_header_49 (by decide) ?_
          refine lv_istore (lv' := [(5, .int (nI 1)), (0, .ref h3), (1, .int (nI k)), (2, .int (bs_i ot)), (3, .int (sp_hi (sp_hd lo8 (fun i => bs_t (lo8 i) k && !(ot && decide (i = k))) h))), (4, .int (nI h))]) hx hb d_M_header_53 hl (by decide) rfl (fun ls hl => ?_)
          refine lv_iload hx hb d_M_header_55 (lv_at hl 0 rfl) ?_
          refine wl_ifeqn (tgt := 93) hx hb (by omega) d_M_header_57 (by decide) (fun hc57 => ?_) (fun hc57 => ?_)
          · exact absurd hc57 (by decide)
          · refine lv_iload_n hx hb d_M_header_60 rfl (lv_at hl 4 rfl) ?_
            refine lv_if_lt (tgt := 88) hx hb d_M_header_61 (by decide) (fun hc61 => ?_) (fun hc61 => ?_)
            · refine lv_iload hx hb d_M_header_88 (lv_at hl 5 rfl) ?_
              refine lv_goto (tgt := 94) hx hb d_M_header_90 (by decide) ?_
              refine lv_istore_n (lv' := [(3, .int (nI h)), (5, .int (nI 1)), (0, .ref h3), (1, .int (nI k)), (2, .int (bs_i ot)), (4, .int (nI h))]) hx hb d_M_header_94 rfl hl (by decide) rfl (fun ls hl => ?_)
              refine lv_iinc (lv' := [(4, .int (nI (h + 1))), (3, .int (nI h)), (5, .int (nI 1)), (0, .ref h3), (1, .int (nI k)), (2, .int (bs_i ot))]) (k := 5) (v := nI (h + 1)) hx hb d_M_header_95 hl rfl (nI_1 h) (by decide) rfl (fun ls hl => ?_)
              refine lv_goto (tgt := 15) hx hb d_M_header_98 (by decide) ?_
              rw [show nI h = sp_hi (sp_hd lo8 (fun i => bs_t (lo8 i) k && !(ot && decide (i = k))) (h + 1)) from by rw [sp_hd_set (by simp [hc35, hc39]) (Or.inl (sp_hi_lt hc61 (by rcases sp_hd_lt lo8 (fun i => bs_t (lo8 i) k && !(ot && decide (i = k))) h with q | q <;> omega)))]; exact (sp_hi_nat (by omega)).symm] at hl
              exact ih (h + 1) (show h + 1 ≤ n by omega) (show n - (h + 1) < n - h by omega) _ _ _ hP hD hS (lv_sub hl [3, 4, 5, 1, 0] rfl)
            · have hX := (sp_hd_lt lo8 (fun i => bs_t (lo8 i) k && !(ot && decide (i = k))) h).resolve_left (sp_hi_nlt hc61)
              rw [sp_hi_nat (show sp_hd lo8 (fun i => bs_t (lo8 i) k && !(ot && decide (i = k))) h < 64 by omega)] at hl
              refine lv_aload_n hx hb d_M_header_64 rfl (lv_at hl 1 rfl) ?_
              refine lv_aload_n hx hb d_M_header_65 rfl (lv_at hl 1 rfl) ?_
              refine va_get (D := (dC, dI)) (ci := 3) (v := .ref p3) (C := "FlowNestModel") (T := T_M) (N := 15) hx hb hts nm_iM hown hK hP 0 rfl rfl 11 (by decide) (hts _ (List.mem_cons_of_mem _ nm_425)) (fun _ h9 => h9) rfl d_M_header_66 ?_
              refine lv_iload hx hb d_M_header_69 (lv_at hl 5 rfl) ?_
              refine wl_lald (i := h) hx hb hK hP 5 0 rfl rfl (by omega) (by decide) d_M_header_71 ?_
              refine vp_callSi (va_Run.run (va_runV (C := "FlowNestModel") (b := h3) (As := [.long (lo8 h)]) (rest := []) ⟨hx, hb, hml, hown, hts⟩ (c_M_sizeOf l dC dI cJ cI h3 k3 o3 w3 v3 p3 e3 f3 q3 (bs_i (!b12)) (nI r) (nI x) (bs_i k13) rc3 eg4 li so5 wi6 ew7 lo8 en9 le10 pi11 n (lo8 h) hn) (cwV 1 hts (nm_gV nm_568 nm_570 nm_s_M_sizeOf nm_4 nm_c_M_sizeOf) rfl rfl rfl (by decide +kernel) ⟨Nat.le_of_ble_eq_true rfl, Nat.le_of_ble_eq_true rfl⟩) ⟨cw_blind, va_recv hK hP (ci := 3) rfl (q0 := 0) rfl, cw_pre hP hK hNw⟩ rfl rfl hl.1 rfl (lv_room (Nat.le_of_ble_eq_true rfl)) d_M_header_72 ⟨Nat.zero_le _, Nat.zero_le _⟩)) (fun r14 hr15 => ?_)
              subst hr15
              refine lv_aload_n hx hb d_M_header_75 rfl (lv_at hl 1 rfl) ?_
              refine lv_aload_n hx hb d_M_header_76 rfl (lv_at hl 1 rfl) ?_
              refine va_get (D := (dC, dI)) (ci := 3) (v := .ref p3) (C := "FlowNestModel") (T := T_M) (N := 15) hx hb hts nm_iM hown hK hP 0 rfl rfl 11 (by decide) (hts _ (List.mem_cons_of_mem _ nm_425)) (fun _ h9 => h9) rfl d_M_header_77 ?_
              refine lv_iload_n hx hb d_M_header_80 rfl (lv_at hl 4 rfl) ?_
              refine wl_lald (i := (sp_hd lo8 (fun i => bs_t (lo8 i) k && !(ot && decide (i = k))) h)) hx hb hK hP 5 0 rfl rfl (by omega) (by decide) d_M_header_81 ?_
              refine vp_callSi (va_Run.run (va_runV (C := "FlowNestModel") (b := h3) (As := [.long (lo8 (sp_hd lo8 (fun i => bs_t (lo8 i) k && !(ot && decide (i = k))) h))]) (rest := [.int (nI (ct_n (bs_t (lo8 h)) n))]) ⟨hx, hb, hml, hown, hts⟩ (c_M_sizeOf l dC dI cJ cI h3 k3 o3 w3 v3 p3 e3 f3 q3 (bs_i (!b12)) (nI r) (nI x) (bs_i k13) rc3 eg4 li so5 wi6 ew7 lo8 en9 le10 pi11 n (lo8 (sp_hd lo8 (fun i => bs_t (lo8 i) k && !(ot && decide (i = k))) h)) hn) (cwV 1 hts (nm_gV nm_568 nm_570 nm_s_M_sizeOf nm_4 nm_c_M_sizeOf) rfl rfl rfl (by decide +kernel) ⟨Nat.le_of_ble_eq_true rfl, Nat.le_of_ble_eq_true rfl⟩) ⟨cw_blind, va_recv hK hP (ci := 3) rfl (q0 := 0) rfl, cw_pre hP hK hNw⟩ rfl rfl hl.1 rfl (lv_room (Nat.le_of_ble_eq_true rfl)) d_M_header_82 ⟨Nat.zero_le _, Nat.zero_le _⟩)) (fun r16 hr17 => ?_)
              subst hr17
              have hcA : ct_n (bs_t (lo8 h)) n = bs_c (lo8 h) := bs_c_n (by omega) (by rw [hG9.2.2.2.2.2.1 _ (by omega)]; exact sp_lp_n hL hr9 (by omega))
              have hcB : ct_n (bs_t (lo8 (sp_hd lo8 (fun i => bs_t (lo8 i) k && !(ot && decide (i = k))) h))) n = bs_c (lo8 (sp_hd lo8 (fun i => bs_t (lo8 i) k && !(ot && decide (i = k))) h)) := bs_c_n (by omega) (by rw [hG9.2.2.2.2.2.1 _ (by omega)]; exact sp_lp_n hL hr9 (by omega))
              have hcC := bs_c_le (lo8 h)
              have hcD := bs_c_le (lo8 (sp_hd lo8 (fun i => bs_t (lo8 i) k && !(ot && decide (i = k))) h))
              rw [hcA, hcB]
              refine wl_ige (tgt := 93) hx hb (by omega) (by omega) d_M_header_85 (by decide) (fun hc85 => ?_) (fun hc85 => ?_)
              · refine lv_iload_n hx hb d_M_header_93 rfl (lv_at hl 4 rfl) ?_
                refine lv_istore_n (lv' := [(3, .int (nI (sp_hd lo8 (fun i => bs_t (lo8 i) k && !(ot && decide (i = k))) h))), (5, .int (nI 1)), (0, .ref h3), (1, .int (nI k)), (2, .int (bs_i ot)), (4, .int (nI h))]) hx hb d_M_header_94 rfl hl (by decide) rfl (fun ls hl => ?_)
                refine lv_iinc (lv' := [(4, .int (nI (h + 1))), (3, .int (nI (sp_hd lo8 (fun i => bs_t (lo8 i) k && !(ot && decide (i = k))) h))), (5, .int (nI 1)), (0, .ref h3), (1, .int (nI k)), (2, .int (bs_i ot))]) (k := 5) (v := nI (h + 1)) hx hb d_M_header_95 hl rfl (nI_1 h) (by decide) rfl (fun ls hl => ?_)
                refine lv_goto (tgt := 15) hx hb d_M_header_98 (by decide) ?_
                have hk9 : sp_hd lo8 (fun i => bs_t (lo8 i) k && !(ot && decide (i = k))) (h + 1) = sp_hd lo8 (fun i => bs_t (lo8 i) k && !(ot && decide (i = k))) h := sp_hd_keep (fun q => q.2.elim (fun z => by omega) (fun z => by omega))
                rw [← sp_hi_nat (show sp_hd lo8 (fun i => bs_t (lo8 i) k && !(ot && decide (i = k))) h < 64 by omega), ← hk9] at hl
                exact ih (h + 1) (show h + 1 ≤ n by omega) (show n - (h + 1) < n - h by omega) _ _ _ hP hD hS (lv_sub hl [3, 4, 5, 1, 0] rfl)
              · refine lv_iload hx hb d_M_header_88 (lv_at hl 5 rfl) ?_
                refine lv_goto (tgt := 94) hx hb d_M_header_90 (by decide) ?_
                refine lv_istore_n (lv' := [(3, .int (nI h)), (5, .int (nI 1)), (0, .ref h3), (1, .int (nI k)), (2, .int (bs_i ot)), (4, .int (nI h))]) hx hb d_M_header_94 rfl hl (by decide) rfl (fun ls hl => ?_)
                refine lv_iinc (lv' := [(4, .int (nI (h + 1))), (3, .int (nI h)), (5, .int (nI 1)), (0, .ref h3), (1, .int (nI k)), (2, .int (bs_i ot))]) (k := 5) (v := nI (h + 1)) hx hb d_M_header_95 hl rfl (nI_1 h) (by decide) rfl (fun ls hl => ?_)
                refine lv_goto (tgt := 15) hx hb d_M_header_98 (by decide) ?_
                rw [show nI h = sp_hi (sp_hd lo8 (fun i => bs_t (lo8 i) k && !(ot && decide (i = k))) (h + 1)) from by rw [sp_hd_set (by simp [hc35, hc39]) (Or.inr hc85)]; exact (sp_hi_nat (by omega)).symm] at hl
                exact ih (h + 1) (show h + 1 ≤ n by omega) (show n - (h + 1) < n - h by omega) _ _ _ hP hD hS (lv_sub hl [3, 4, 5, 1, 0] rfl)
        · refine lv_iload hx hb d_M_header_42 (lv_at hl 4 rfl) ?_
          refine lv_iload_n hx hb d_M_header_44 rfl (lv_at hl 1 rfl) ?_
          refine wl_ieq (tgt := 52) hx hb (by omega) (by omega) d_M_header_45 (by decide) (fun hc45 => ?_) (fun hc45 => ?_)
          · refine lv_iconst (v := nI 0) hx hb d_M_header_52 (by decide) ?_
            refine lv_istore (lv' := [(5, .int (nI 0)), (0, .ref h3), (1, .int (nI k)), (2, .int (bs_i ot)), (3, .int (sp_hi (sp_hd lo8 (fun i => bs_t (lo8 i) k && !(ot && decide (i = k))) h))), (4, .int (nI h))]) hx hb d_M_header_53 hl (by decide) rfl (fun ls hl => ?_)
            refine lv_iload hx hb d_M_header_55 (lv_at hl 0 rfl) ?_
            refine wl_ifeqn (tgt := 93) hx hb (by omega) d_M_header_57 (by decide) (fun hc57 => ?_) (fun hc57 => ?_)
            · refine lv_iload_n hx hb d_M_header_93 rfl (lv_at hl 4 rfl) ?_
              refine lv_istore_n (lv' := [(3, .int (sp_hi (sp_hd lo8 (fun i => bs_t (lo8 i) k && !(ot && decide (i = k))) h))), (5, .int (nI 0)), (0, .ref h3), (1, .int (nI k)), (2, .int (bs_i ot)), (4, .int (nI h))]) hx hb d_M_header_94 rfl hl (by decide) rfl (fun ls hl => ?_)
              refine lv_iinc (lv' := [(4, .int (nI (h + 1))), (3, .int (sp_hi (sp_hd lo8 (fun i => bs_t (lo8 i) k && !(ot && decide (i = k))) h))), (5, .int (nI 0)), (0, .ref h3), (1, .int (nI k)), (2, .int (bs_i ot))]) (k := 5) (v := nI (h + 1)) hx hb d_M_header_95 hl rfl (nI_1 h) (by decide) rfl (fun ls hl => ?_)
              refine lv_goto (tgt := 15) hx hb d_M_header_98 (by decide) ?_
              have hk9 : sp_hd lo8 (fun i => bs_t (lo8 i) k && !(ot && decide (i = k))) (h + 1) = sp_hd lo8 (fun i => bs_t (lo8 i) k && !(ot && decide (i = k))) h := sp_hd_keep (fun q => by have := q.1; simp [hc39, hc45] at this)
              rw [← hk9] at hl
              exact ih (h + 1) (show h + 1 ≤ n by omega) (show n - (h + 1) < n - h by omega) _ _ _ hP hD hS (lv_sub hl [3, 4, 5, 1, 0] rfl)
            · exact absurd hc57 (by decide)
          · refine lv_iconst (v := nI 1) hx hb d_M_header_48 (by decide) ?_
            refine lv_goto (tgt := 53) hx hb d_M_header_49 (by decide) ?_
            refine lv_istore (lv' := [(5, .int (nI 1)), (0, .ref h3), (1, .int (nI k)), (2, .int (bs_i ot)), (3, .int (sp_hi (sp_hd lo8 (fun i => bs_t (lo8 i) k && !(ot && decide (i = k))) h))), (4, .int (nI h))]) hx hb d_M_header_53 hl (by decide) rfl (fun ls hl => ?_)
            refine lv_iload hx hb d_M_header_55 (lv_at hl 0 rfl) ?_
            refine wl_ifeqn (tgt := 93) hx hb (by omega) d_M_header_57 (by decide) (fun hc57 => ?_) (fun hc57 => ?_)
            · exact absurd hc57 (by decide)
            · refine lv_iload_n hx hb d_M_header_60 rfl (lv_at hl 4 rfl) ?_
              refine lv_if_lt (tgt := 88) hx hb d_M_header_61 (by decide) (fun hc61 => ?_) (fun hc61 => ?_)
              · refine lv_iload hx hb d_M_header_88 (lv_at hl 5 rfl) ?_
                refine lv_goto (tgt := 94) hx hb d_M_header_90 (by decide) ?_
                refine lv_istore_n (lv' := [(3, .int (nI h)), (5, .int (nI 1)), (0, .ref h3), (1, .int (nI k)), (2, .int (bs_i ot)), (4, .int (nI h))]) hx hb d_M_header_94 rfl hl (by decide) rfl (fun ls hl => ?_)
                refine lv_iinc (lv' := [(4, .int (nI (h + 1))), (3, .int (nI h)), (5, .int (nI 1)), (0, .ref h3), (1, .int (nI k)), (2, .int (bs_i ot))]) (k := 5) (v := nI (h + 1)) hx hb d_M_header_95 hl rfl (nI_1 h) (by decide) rfl (fun ls hl => ?_)
                refine lv_goto (tgt := 15) hx hb d_M_header_98 (by decide) ?_
                rw [show nI h = sp_hi (sp_hd lo8 (fun i => bs_t (lo8 i) k && !(ot && decide (i = k))) (h + 1)) from by rw [sp_hd_set (by simp [hc35, hc45]) (Or.inl (sp_hi_lt hc61 (by rcases sp_hd_lt lo8 (fun i => bs_t (lo8 i) k && !(ot && decide (i = k))) h with q | q <;> omega)))]; exact (sp_hi_nat (by omega)).symm] at hl
                exact ih (h + 1) (show h + 1 ≤ n by omega) (show n - (h + 1) < n - h by omega) _ _ _ hP hD hS (lv_sub hl [3, 4, 5, 1, 0] rfl)
              · have hX := (sp_hd_lt lo8 (fun i => bs_t (lo8 i) k && !(ot && decide (i = k))) h).resolve_left (sp_hi_nlt hc61)
                rw [sp_hi_nat (show sp_hd lo8 (fun i => bs_t (lo8 i) k && !(ot && decide (i = k))) h < 64 by omega)] at hl
                refine lv_aload_n hx hb d_M_header_64 rfl (lv_at hl 1 rfl) ?_
                refine lv_aload_n hx hb d_M_header_65 rfl (lv_at hl 1 rfl) ?_
                refine va_get (D := (dC, dI)) (ci := 3) (v := .ref p3) (C := "FlowNestModel") (T := T_M) (N := 15) hx hb hts nm_iM hown hK hP 0 rfl rfl 11 (by decide) (hts _ (List.mem_cons_of_mem _ nm_425)) (fun _ h9 => h9) rfl d_M_header_66 ?_
                refine lv_iload hx hb d_M_header_69 (lv_at hl 5 rfl) ?_
                refine wl_lald (i := h) hx hb hK hP 5 0 rfl rfl (by omega) (by decide) d_M_header_71 ?_
                refine vp_callSi (va_Run.run (va_runV (C := "FlowNestModel") (b := h3) (As := [.long (lo8 h)]) (rest := []) ⟨hx, hb, hml, hown, hts⟩ (c_M_sizeOf l dC dI cJ cI h3 k3 o3 w3 v3 p3 e3 f3 q3 (bs_i (!b12)) (nI r) (nI x) (bs_i k13) rc3 eg4 li so5 wi6 ew7 lo8 en9 le10 pi11 n (lo8 h) hn) (cwV 1 hts (nm_gV nm_568 nm_570 nm_s_M_sizeOf nm_4 nm_c_M_sizeOf) rfl rfl rfl (by decide +kernel) ⟨Nat.le_of_ble_eq_true rfl, Nat.le_of_ble_eq_true rfl⟩) ⟨cw_blind, va_recv hK hP (ci := 3) rfl (q0 := 0) rfl, cw_pre hP hK hNw⟩ rfl rfl hl.1 rfl (lv_room (Nat.le_of_ble_eq_true rfl)) d_M_header_72 ⟨Nat.zero_le _, Nat.zero_le _⟩)) (fun r18 hr19 => ?_)
                subst hr19
                refine lv_aload_n hx hb d_M_header_75 rfl (lv_at hl 1 rfl) ?_
                refine lv_aload_n hx hb d_M_header_76 rfl (lv_at hl 1 rfl) ?_
                refine va_get (D := (dC, dI)) (ci := 3) (v := .ref p3) (C := "FlowNestModel") (T := T_M) (N := 15) hx hb hts nm_iM hown hK hP 0 rfl rfl 11 (by decide) (hts _ (List.mem_cons_of_mem _ nm_425)) (fun _ h9 => h9) rfl d_M_header_77 ?_
                refine lv_iload_n hx hb d_M_header_80 rfl (lv_at hl 4 rfl) ?_
                refine wl_lald (i := (sp_hd lo8 (fun i => bs_t (lo8 i) k && !(ot && decide (i = k))) h)) hx hb hK hP 5 0 rfl rfl (by omega) (by decide) d_M_header_81 ?_
                refine vp_callSi (va_Run.run (va_runV (C := "FlowNestModel") (b := h3) (As := [.long (lo8 (sp_hd lo8 (fun i => bs_t (lo8 i) k && !(ot && decide (i = k))) h))]) (rest := [.int (nI (ct_n (bs_t (lo8 h)) n))]) ⟨hx, hb, hml, hown, hts⟩ (c_M_sizeOf l dC dI cJ cI h3 k3 o3 w3 v3 p3 e3 f3 q3 (bs_i (!b12)) (nI r) (nI x) (bs_i k13) rc3 eg4 li so5 wi6 ew7 lo8 en9 le10 pi11 n (lo8 (sp_hd lo8 (fun i => bs_t (lo8 i) k && !(ot && decide (i = k))) h)) hn) (cwV 1 hts (nm_gV nm_568 nm_570 nm_s_M_sizeOf nm_4 nm_c_M_sizeOf) rfl rfl rfl (by decide +kernel) ⟨Nat.le_of_ble_eq_true rfl, Nat.le_of_ble_eq_true rfl⟩) ⟨cw_blind, va_recv hK hP (ci := 3) rfl (q0 := 0) rfl, cw_pre hP hK hNw⟩ rfl rfl hl.1 rfl (lv_room (Nat.le_of_ble_eq_true rfl)) d_M_header_82 ⟨Nat.zero_le _, Nat.zero_le _⟩)) (fun r20 hr21 => ?_)
                subst hr21
                have hcA : ct_n (bs_t (lo8 h)) n = bs_c (lo8 h) := bs_c_n (by omega) (by rw [hG9.2.2.2.2.2.1 _ (by omega)]; exact sp_lp_n hL hr9 (by omega))
                have hcB : ct_n (bs_t (lo8 (sp_hd lo8 (fun i => bs_t (lo8 i) k && !(ot && decide (i = k))) h))) n = bs_c (lo8 (sp_hd lo8 (fun i => bs_t (lo8 i) k && !(ot && decide (i = k))) h)) := bs_c_n (by omega) (by rw [hG9.2.2.2.2.2.1 _ (by omega)]; exact sp_lp_n hL hr9 (by omega))
                have hcC := bs_c_le (lo8 h)
                have hcD := bs_c_le (lo8 (sp_hd lo8 (fun i => bs_t (lo8 i) k && !(ot && decide (i = k))) h))
                rw [hcA, hcB]
                refine wl_ige (tgt := 93) hx hb (by omega) (by omega) d_M_header_85 (by decide) (fun hc85 => ?_) (fun hc85 => ?_)
                · refine lv_iload_n hx hb d_M_header_93 rfl (lv_at hl 4 rfl) ?_
                  refine lv_istore_n (lv' := [(3, .int (nI (sp_hd lo8 (fun i => bs_t (lo8 i) k && !(ot && decide (i = k))) h))), (5, .int (nI 1)), (0, .ref h3), (1, .int (nI k)), (2, .int (bs_i ot)), (4, .int (nI h))]) hx hb d_M_header_94 rfl hl (by decide) rfl (fun ls hl => ?_)
                  refine lv_iinc (lv' := [(4, .int (nI (h + 1))), (3, .int (nI (sp_hd lo8 (fun i => bs_t (lo8 i) k && !(ot && decide (i = k))) h))), (5, .int (nI 1)), (0, .ref h3), (1, .int (nI k)), (2, .int (bs_i ot))]) (k := 5) (v := nI (h + 1)) hx hb d_M_header_95 hl rfl (nI_1 h) (by decide) rfl (fun ls hl => ?_)
                  refine lv_goto (tgt := 15) hx hb d_M_header_98 (by decide) ?_
                  have hk9 : sp_hd lo8 (fun i => bs_t (lo8 i) k && !(ot && decide (i = k))) (h + 1) = sp_hd lo8 (fun i => bs_t (lo8 i) k && !(ot && decide (i = k))) h := sp_hd_keep (fun q => q.2.elim (fun z => by omega) (fun z => by omega))
                  rw [← sp_hi_nat (show sp_hd lo8 (fun i => bs_t (lo8 i) k && !(ot && decide (i = k))) h < 64 by omega), ← hk9] at hl
                  exact ih (h + 1) (show h + 1 ≤ n by omega) (show n - (h + 1) < n - h by omega) _ _ _ hP hD hS (lv_sub hl [3, 4, 5, 1, 0] rfl)
                · refine lv_iload hx hb d_M_header_88 (lv_at hl 5 rfl) ?_
                  refine lv_goto (tgt := 94) hx hb d_M_header_90 (by decide) ?_
                  refine lv_istore_n (lv' := [(3, .int (nI h)), (5, .int (nI 1)), (0, .ref h3), (1, .int (nI k)), (2, .int (bs_i ot)), (4, .int (nI h))]) hx hb d_M_header_94 rfl hl (by decide) rfl (fun ls hl => ?_)
                  refine lv_iinc (lv' := [(4, .int (nI (h + 1))), (3, .int (nI h)), (5, .int (nI 1)), (0, .ref h3), (1, .int (nI k)), (2, .int (bs_i ot))]) (k := 5) (v := nI (h + 1)) hx hb d_M_header_95 hl rfl (nI_1 h) (by decide) rfl (fun ls hl => ?_)
                  refine lv_goto (tgt := 15) hx hb d_M_header_98 (by decide) ?_
                  rw [show nI h = sp_hi (sp_hd lo8 (fun i => bs_t (lo8 i) k && !(ot && decide (i = k))) (h + 1)) from by rw [sp_hd_set (by simp [hc35, hc45]) (Or.inr hc85)]; exact (sp_hi_nat (by omega)).symm] at hl
                  exact ih (h + 1) (show h + 1 ≤ n by omega) (show n - (h + 1) < n - h by omega) _ _ _ hP hD hS (lv_sub hl [3, 4, 5, 1, 0] rfl)
  · refine lv_iconst (v := nI 0) hx hb d_M_header_8 (by decide) ?_
    exact W.iret (v := nI 0) hx hb hr (fun t ht hW => ⟨⟨(nI 0), (rc3, eg4, so5, wi6, ew7, lo8, en9, le10, pi11, b12, k13), rfl, ⟨hb_0, hG_0, fun h => by rw [hc5] at h; cases h⟩, by rw [ht]; exact hP, hD⟩, hS.F ht⟩) hS.2.2 d_M_header_9
set_option maxHeartbeats 4000000 in
set_option maxRecDepth 100000 in
theorem c_M_dominator (l : Launch) (dC : Nat → ClassId) (dI : Nat → Nat → Nat) (cJ cI : ClassId) (h3 k3 o3 w3 v3 p3 e3 f3 q3 hs : Nat) (cd : Int32) (ey : Int32) (ex : Int32) (rc : Int64) (eg : Int64) (li : Nat → Int64) (so : Nat → Int64) (wi : Nat → Int64) (ew : Nat → Int64) (lo : Nat → Int64) (en : Nat → Int32) (le : Nat → Int32) (pi : Nat → Int32) (n r x : Nat) (q : Bool) (v0 : Int32) (cv : Bool) (hn : n ≤ 48) (hz : 0 < n → ey = nI r ∧ ex = nI x ∧ r < n ∧ x < n) (hL : ∀ u v, gf_E n li u v → v < n) (hq : q = true → md_G n r x li rc eg so wi ew lo en le) : Met l y_M_dominator w_M_dominator ({ frames := 6, cells := 0, slots := 0, locals := 136 }) (va_Pc [.ref h3, .int v0, .int (bs_i cv)] (cw_M (dC, dI) cJ cI (md_ws cJ cI h3 k3 o3 w3 v3 p3 e3 f3 q3 cd (nI n) ey ex (bs_i q) rc eg li so wi ew lo en le pi) hs)) (va_Qi (fun (r9 : Int32) (u9 : Int64 × Int64 × (Nat → Int64) × (Nat → Int64) × (Nat → Int64) × (Nat → Int64) × (Nat → Int32) × (Nat → Int32) × (Nat → Int32) × Bool × Bool) => match u9 with | (rc9, eg9, so9, wi9, ew9, lo9, en9, le9, pi9, b, k9) => (b = true ↔ ∃ k, k < n ∧ v0 = nI k) ∧ (k9 = true → md_G n r x li rc9 eg9 so9 wi9 ew9 lo9 en9 le9) ∧ (b = true → ∃ k, k < n ∧ v0 = nI k ∧ sp_Dm n (gg_L cv n li) (gg_r cv r x) k r9)) (fun (u9 : Int64 × Int64 × (Nat → Int64) × (Nat → Int64) × (Nat → Int64) × (Nat → Int64) × (Nat → Int32) × (Nat → Int32) × (Nat → Int32) × Bool × Bool) (t : State) => match u9 with | (rc9, eg9, so9, wi9, ew9, lo9, en9, le9, pi9, b, k9) => va_P (dC, dI) vwCl (md_ws cJ cI h3 k3 o3 w3 v3 p3 e3 f3 q3 (bs_i (!b)) (nI n) ey ex (bs_i k9) rc9 eg9 li so9 wi9 ew9 lo9 en9 le9 pi9) t.heap ∧ va_D (va_A (md_ws cJ cI h3 k3 o3 w3 v3 p3 e3 f3 q3 cd (nI n) ey ex (bs_i q) rc eg li so wi ew lo en le pi) hs) (md_ws cJ cI h3 k3 o3 w3 v3 p3 e3 f3 q3 (bs_i (!b)) (nI n) ey ex (bs_i k9) rc9 eg9 li so9 wi9 ew9 lo9 en9 le9 pi9)) (va_A (md_ws cJ cI h3 k3 o3 w3 v3 p3 e3 f3 q3 cd (nI n) ey ex (bs_i q) rc eg li so wi ew lo en le pi) hs)) 0 0 (va_A (md_ws cJ cI h3 k3 o3 w3 v3 p3 e3 f3 q3 cd (nI n) ey ex (bs_i q) rc eg li so wi ew lo en le pi) hs) := by
  refine Met.ofW (cc := b_M_dominator) (maxL := 6) (ret := (some .int)) (by decide) rfl ?_
  intro p e s m args below meth c s₁ B hml hv9
  obtain ⟨rfl, hsz, ⟨hP, hK, hNw⟩, hD0⟩ := hv9
  have hx := B.exec
  have hb := B.bytes
  have hr := B.returns
  have hts := atoms_spec (ws := w_M_dominator) B.pre
  have hown : s.vm.findClass "FlowNestModel" = some m.cls := findClass_of_methodNamed B.named
  have hlocks := B.notSynchronized
  subst hsz
  have hD := hD0.self (sz := s.heap.size)
  generalize hAe : va_A (md_ws cJ cI h3 k3 o3 w3 v3 p3 e3 f3 q3 cd (nI n) ey ex (bs_i q) rc eg li so wi ew lo en le pi) s.heap.size = A at hD ⊢
  have hA : ∀ q : Nat, s.heap.size ≤ q → A q := fun q h => by rw [← hAe]; exact Or.inr h
  have hS : va_S A s.heap s.heap [] := va_S.rf
  have hP : va_P (dC, dI) vwCl (md_ws cJ cI h3 k3 o3 w3 v3 p3 e3 f3 q3 cd (nI n) ey ex (bs_i q) rc eg li so wi ew lo en le pi) s.heap := hP
  have hl := lv_entry ([.ref h3, .int v0, .int (bs_i cv)]) (n := 6) (Nat.le_of_ble_eq_true rfl)
  rw [lg_entry_eq]
  generalize (lg_sl ([.ref h3, .int v0, .int (bs_i cv)]) ++ List.replicate (6 - (lg_sl ([.ref h3, .int v0, .int (bs_i cv)])).length) Slot.unset).toArray = ls at hl ⊢
  have hl : lv_has ls 6 [(0, .ref h3), (1, .int v0), (2, .int (bs_i cv))] := hl
  refine lv_aload_n hx hb d_M_dominator_0 rfl (lv_at hl 0 rfl) ?_
  refine lv_iload_n hx hb d_M_dominator_1 rfl (lv_at hl 1 rfl) ?_
  have hPc := hP.sub (ws' := md_ws cJ cI h3 k3 o3 w3 v3 p3 e3 f3 q3 cd (nI n) ey ex (bs_i q) rc eg li so wi ew lo en le pi) [0, 1, 2, 3, 4, 5, 6, 7, 8] rfl
  have hDc := hD.sub (ws' := md_ws cJ cI h3 k3 o3 w3 v3 p3 e3 f3 q3 cd (nI n) ey ex (bs_i q) rc eg li so wi ew lo en le pi) [0, 1, 2, 3, 4, 5, 6, 7, 8] (by decide) rfl
  have hFc := va_free (wc := md_ws cJ cI h3 k3 o3 w3 v3 p3 e3 f3 q3 cd (nI n) ey ex (bs_i q) rc eg li so wi ew lo en le pi) hD hS hA [0, 1, 2, 3, 4, 5, 6, 7, 8] rfl
  refine va_calli (va_runV (C := "FlowNestModel") (b := h3) (As := [.int v0]) (rest := []) ⟨hx, hb, hml, hown, hts⟩ (c_M_looks l dC dI cJ cI h3 k3 o3 w3 v3 p3 e3 f3 q3 s.heap.size cd ey ex rc eg li so wi ew lo en le pi n r x q v0 hn hz hL hq) (cwV 1 hts (nm_gV nm_488 nm_490 nm_s_M_looks nm_4 nm_c_M_looks) rfl rfl rfl (by decide +kernel) ⟨Nat.le_of_ble_eq_true rfl, Nat.le_of_ble_eq_true rfl⟩) ⟨cw_blindM, va_recv hK hP (ci := 3) rfl (q0 := 0) rfl, cw_preM hPc hDc hK hNw⟩ rfl rfl hl.1 rfl (lv_room (Nat.le_of_ble_eq_true rfl)) d_M_dominator_2 ⟨Nat.zero_le _, Nat.zero_le _⟩) hS (fun q _ h => hFc q h) hFc (fun r1 u9 t H1 locs ht hvm hw2 hB hz1 hk1 hS => ?_)
  obtain ⟨rc3, eg4, so5, wi6, ew7, lo8, en9, le10, pi11, b12, k13⟩ := u9
  obtain ⟨hP1, hD1⟩ := hB
  rw [ht] at hP1
  obtain ⟨hP, hD⟩ := va_join (wr := ([] : List Nat).filterMap (fun (i : Nat) => (md_ws cJ cI h3 k3 o3 w3 v3 p3 e3 f3 q3 cd (nI n) ey ex (bs_i q) rc eg li so wi ew lo en le pi)[i]?)) (w1 := md_ws cJ cI h3 k3 o3 w3 v3 p3 e3 f3 q3 (bs_i (!b12)) (nI n) ey ex (bs_i k13) rc3 eg4 li so5 wi6 ew7 lo8 en9 le10 pi11) hP hD [0, 1, 2, 3, 4, 5, 6, 7, 8] [] rfl rfl (by decide) (by decide) hk1 hFc hP1 hD1
  generalize H1 = H at hP hS ⊢
  have hP : va_P (dC, dI) vwCl (md_ws cJ cI h3 k3 o3 w3 v3 p3 e3 f3 q3 (bs_i (!b12)) (nI n) ey ex (bs_i k13) rc3 eg4 li so5 wi6 ew7 lo8 en9 le10 pi11) H := hP.sub (ws' := md_ws cJ cI h3 k3 o3 w3 v3 p3 e3 f3 q3 (bs_i (!b12)) (nI n) ey ex (bs_i k13) rc3 eg4 li so5 wi6 ew7 lo8 en9 le10 pi11) [0, 1, 2, 3, 4, 5, 6, 7, 8] rfl
  have hD : va_D A (md_ws cJ cI h3 k3 o3 w3 v3 p3 e3 f3 q3 (bs_i (!b12)) (nI n) ey ex (bs_i k13) rc3 eg4 li so5 wi6 ew7 lo8 en9 le10 pi11) := hD.sub (ws' := md_ws cJ cI h3 k3 o3 w3 v3 p3 e3 f3 q3 (bs_i (!b12)) (nI n) ey ex (bs_i k13) rc3 eg4 li so5 wi6 ew7 lo8 en9 le10 pi11) [0, 1, 2, 3, 4, 5, 6, 7, 8] (by decide) rfl
  obtain ⟨rfl, hb_0, hG_0, hk_0⟩ := hw2
  refine wl_ifneb (tgt := 10) hx hb d_M_dominator_5 (by decide) (fun hc5 => ?_) (fun hc5 => ?_)
  · obtain ⟨k, hk_k, rfl⟩ := hb_0.mp hc5
    have hG9 := hG_0 (hk_0 hc5)
    obtain ⟨rfl, rfl, hr9, hx9⟩ := hz (by omega)
    have hP : va_P (dC, dI) vwCl (md_ws cJ cI h3 k3 o3 w3 v3 p3 e3 f3 q3 (bs_i (!b12)) (nI n) (nI r) (nI x) (bs_i k13) rc3 eg4 li so5 wi6 ew7 lo8 en9 le10 pi11) H := hP
    have hD : va_D A (md_ws cJ cI h3 k3 o3 w3 v3 p3 e3 f3 q3 (bs_i (!b12)) (nI n) (nI r) (nI x) (bs_i k13) rc3 eg4 li so5 wi6 ew7 lo8 en9 le10 pi11) := hD
    refine lv_iconst (v := -1) hx hb d_M_dominator_10 (by decide) ?_
    refine lv_istore_n (lv' := [(3, .int (-1)), (0, .ref h3), (1, .int (nI k)), (2, .int (bs_i cv))]) hx hb d_M_dominator_11 rfl hl (by decide) rfl (fun ls hl => ?_)
    refine lv_iconst (v := nI 0) hx hb d_M_dominator_12 (by decide) ?_
    refine lv_istore (lv' := [(4, .int (nI 0)), (3, .int (-1)), (0, .ref h3), (1, .int (nI k)), (2, .int (bs_i cv))]) hx hb d_M_dominator_13 hl (by decide) rfl (fun ls hl => ?_)
    refine lv_iconst (v := nI 0) hx hb d_M_dominator_15 (by decide) ?_
    refine lv_istore (lv' := [(5, .int (nI 0)), (4, .int (nI 0)), (3, .int (-1)), (0, .ref h3), (1, .int (nI k)), (2, .int (bs_i cv))]) hx hb d_M_dominator_16 hl (by decide) rfl (fun ls hl => ?_)
    refine wl_loop (σ := Int32 × Int32 × Nat) (dC, dI) vwCl A 18 6 (fun (x0z : Int32 × Int32 × Nat) => match x0z with | (best, most, u) => [(0, .ref h3), (1, .int (nI k)), (2, .int (bs_i cv)), (3, .int best), (4, .int most), (5, .int (nI u))]) (fun (x0z : Int32 × Int32 × Nat) => match x0z with | (best, most, u) => md_ws cJ cI h3 k3 o3 w3 v3 p3 e3 f3 q3 (bs_i (!b12)) (nI n) (nI r) (nI x) (bs_i k13) rc3 eg4 li so5 wi6 ew7 lo8 en9 le10 pi11) (fun (x0z : Int32 × Int32 × Nat) => match x0z with | (best, most, u) => u ≤ n ∧ md_B n (gg_L cv n li) (gg_r cv r x) k u best most) (fun (x0z : Int32 × Int32 × Nat) => match x0z with | (best, most, u) => n - u) ?_ ((-1), 0, 0) (⟨Nat.zero_le n, md_B0 n (gg_L cv n li) (gg_r cv r x) k⟩) hP hD hS (lv_sub hl [3, 4, 5, 2, 1, 0] rfl)
    intro x0z hI ih H locs ls hP hD hS hl
    obtain ⟨best, most, u⟩ := x0z
    have hI : u ≤ n ∧ md_B n (gg_L cv n li) (gg_r cv r x) k u best most := hI
    have hP : va_P (dC, dI) vwCl (md_ws cJ cI h3 k3 o3 w3 v3 p3 e3 f3 q3 (bs_i (!b12)) (nI n) (nI r) (nI x) (bs_i k13) rc3 eg4 li so5 wi6 ew7 lo8 en9 le10 pi11) H := hP
    have hD : va_D A (md_ws cJ cI h3 k3 o3 w3 v3 p3 e3 f3 q3 (bs_i (!b12)) (nI n) (nI r) (nI x) (bs_i k13) rc3 eg4 li so5 wi6 ew7 lo8 en9 le10 pi11) := hD
    have hl : lv_has ls 6 [(0, .ref h3), (1, .int (nI k)), (2, .int (bs_i cv)), (3, .int best), (4, .int most), (5, .int (nI u))] := hl
    refine lv_iload hx hb d_M_dominator_18 (lv_at hl 5 rfl) ?_
    refine lv_aload_n hx hb d_M_dominator_20 rfl (lv_at hl 0 rfl) ?_
    refine va_get (D := (dC, dI)) (ci := 3) (v := .int (nI n)) (C := "FlowNestModel") (T := T_M) (N := 15) hx hb hts nm_iM hown hK hP 0 rfl rfl 1 (by decide) (hts _ (List.mem_cons_of_mem _ nm_415)) (fun _ h9 => h9) rfl d_M_dominator_21 ?_
    refine wl_ige (tgt := 74) hx hb (by omega) (by omega) d_M_dominator_24 (by decide) (fun hc24 => ?_) (fun hc24 => ?_)
    · refine lv_iload_n hx hb d_M_dominator_74 rfl (lv_at hl 3 rfl) ?_
      exact W.iret (v := best) hx hb hr (fun t ht hW => ⟨⟨best, (rc3, eg4, so5, wi6, ew7, lo8, en9, le10, pi11, b12, k13), rfl, ⟨⟨fun _ => ⟨k, hk_k, rfl⟩, fun _ => hc5⟩, hG_0, fun _ => ⟨k, hk_k, rfl, md_Be (gg_hL (by omega) hL cv) (gg_hr hr9 hx9 cv) (by have h9 := hI.2; rw [show u = n by omega] at h9; exact h9)⟩⟩, by rw [ht]; exact hP, hD⟩, hS.F ht⟩) hS.2.2 d_M_dominator_75
    · refine lv_iload hx hb d_M_dominator_27 (lv_at hl 5 rfl) ?_
      refine lv_iload_n hx hb d_M_dominator_29 rfl (lv_at hl 1 rfl) ?_
      refine wl_ieq (tgt := 68) hx hb (by omega) (by omega) d_M_dominator_30 (by decide) (fun hc30 => ?_) (fun hc30 => ?_)
      · refine lv_iinc (lv' := [(5, .int (nI (u + 1))), (0, .ref h3), (1, .int (nI k)), (2, .int (bs_i cv)), (3, .int best), (4, .int most)]) (k := 5) (v := nI (u + 1)) hx hb d_M_dominator_68 hl rfl (nI_1 u) (by decide) rfl (fun ls hl => ?_)
        refine lv_goto (tgt := 18) hx hb d_M_dominator_71 (by decide) ?_
        exact ih (best, most, (u + 1)) (show u + 1 ≤ n ∧ md_B n (gg_L cv n li) (gg_r cv r x) k (u + 1) best most from ⟨by omega, md_Bk (by omega) (gg_hL (by omega) hL cv) (gg_hr hr9 hx9 cv) hI.2 (fun q => q.1 hc30)⟩) (show n - (u + 1) < n - u by omega) _ _ _ hP hD hS (lv_sub hl [1, 2, 3, 4, 5, 0] rfl)
      · refine lv_aload_n hx hb d_M_dominator_33 rfl (lv_at hl 0 rfl) ?_
        refine lv_iload hx hb d_M_dominator_34 (lv_at hl 5 rfl) ?_
        refine lv_iload_n hx hb d_M_dominator_36 rfl (lv_at hl 1 rfl) ?_
        refine lv_iload_n hx hb d_M_dominator_37 rfl (lv_at hl 2 rfl) ?_
        refine vp_callSi (va_Run.run (va_runV (C := "FlowNestModel") (b := h3) (As := [.int (nI u), .int (nI k), .int (bs_i cv)]) (rest := []) ⟨hx, hb, hml, hown, hts⟩ (c_M_dominatesIt l dC dI cJ cI h3 k3 o3 w3 v3 p3 e3 f3 q3 (bs_i (!b12)) (nI n) (nI r) (nI x) (bs_i k13) rc3 eg4 li so5 wi6 ew7 lo8 en9 le10 pi11 u k cv (by omega) (by omega)) (cwV 3 hts (nm_gV nm_508 nm_510 nm_s_M_dominatesIt nm_4 nm_c_M_dominatesIt) rfl rfl rfl (by decide +kernel) ⟨Nat.le_of_ble_eq_true rfl, Nat.le_of_ble_eq_true rfl⟩) ⟨cw_blind, va_recv hK hP (ci := 3) rfl (q0 := 0) rfl, cw_pre hP hK hNw⟩ rfl rfl hl.1 rfl (lv_room (Nat.le_of_ble_eq_true rfl)) d_M_dominator_38 ⟨Nat.zero_le _, Nat.zero_le _⟩)) (fun r14 hr15 => ?_)
        subst hr15
        refine wl_ifeqb (tgt := 68) hx hb d_M_dominator_41 (by decide) (fun hc41 => ?_) (fun hc41 => ?_)
        · refine lv_iinc (lv' := [(5, .int (nI (u + 1))), (0, .ref h3), (1, .int (nI k)), (2, .int (bs_i cv)), (3, .int best), (4, .int most)]) (k := 5) (v := nI (u + 1)) hx hb d_M_dominator_68 hl rfl (nI_1 u) (by decide) rfl (fun ls hl => ?_)
          refine lv_goto (tgt := 18) hx hb d_M_dominator_71 (by decide) ?_
          exact ih (best, most, (u + 1)) (show u + 1 ≤ n ∧ md_B n (gg_L cv n li) (gg_r cv r x) k (u + 1) best most from ⟨by omega, md_Bk (by omega) (gg_hL (by omega) hL cv) (gg_hr hr9 hx9 cv) hI.2 (fun q => (gf_df.mp (by rw [← md_dmv hn hr9 hx9 hG9 cv (by omega)]; exact hc41)) q.2.1)⟩) (show n - (u + 1) < n - u by omega) _ _ _ hP hD hS (lv_sub hl [1, 2, 3, 4, 5, 0] rfl)
        · refine lv_aload_n hx hb d_M_dominator_44 rfl (lv_at hl 0 rfl) ?_
          refine lv_iload hx hb d_M_dominator_45 (lv_at hl 5 rfl) ?_
          refine lv_iload_n hx hb d_M_dominator_47 rfl (lv_at hl 2 rfl) ?_
          refine vp_callSi (va_Run.run (va_runV (C := "FlowNestModel") (b := h3) (As := [.int (nI u), .int (bs_i cv)]) (rest := []) ⟨hx, hb, hml, hown, hts⟩ (c_M_rank l dC dI cJ cI h3 k3 o3 w3 v3 p3 e3 f3 q3 (bs_i (!b12)) (nI r) (nI x) (bs_i k13) rc3 eg4 li so5 wi6 ew7 lo8 en9 le10 pi11 n u cv hn (by omega)) (cwV 2 hts (nm_gV nm_520 nm_522 nm_s_M_rank nm_4 nm_c_M_rank) rfl rfl rfl (by decide +kernel) ⟨Nat.le_of_ble_eq_true rfl, Nat.le_of_ble_eq_true rfl⟩) ⟨cw_blind, va_recv hK hP (ci := 3) rfl (q0 := 0) rfl, cw_pre hP hK hNw⟩ rfl rfl hl.1 rfl (lv_room (Nat.le_of_ble_eq_true rfl)) d_M_dominator_48 ⟨Nat.zero_le _, Nat.zero_le _⟩)) (fun r16 hr17 => ?_)
          subst hr17
          rw [md_rk hn hr9 hx9 hG9 cv u]
          refine lv_iload hx hb d_M_dominator_51 (lv_at hl 4 rfl) ?_
          refine lv_icmp_le (tgt := 68) hx hb d_M_dominator_53 (by decide) (fun hc53 => ?_) (fun hc53 => ?_)
          · refine lv_iinc (lv' := [(5, .int (nI (u + 1))), (0, .ref h3), (1, .int (nI k)), (2, .int (bs_i cv)), (3, .int best), (4, .int most)]) (k := 5) (v := nI (u + 1)) hx hb d_M_dominator_68 hl rfl (nI_1 u) (by decide) rfl (fun ls hl => ?_)
            refine lv_goto (tgt := 18) hx hb d_M_dominator_71 (by decide) ?_
            exact ih (best, most, (u + 1)) (show u + 1 ≤ n ∧ md_B n (gg_L cv n li) (gg_r cv r x) k (u + 1) best most from ⟨by omega, md_Bk (by omega) (gg_hL (by omega) hL cv) (gg_hr hr9 hx9 cv) hI.2 (fun q => absurd q.2.2 (Int32.not_lt.mpr hc53))⟩) (show n - (u + 1) < n - u by omega) _ _ _ hP hD hS (lv_sub hl [1, 2, 3, 4, 5, 0] rfl)
          · refine lv_iload hx hb d_M_dominator_56 (lv_at hl 5 rfl) ?_
            refine lv_istore_n (lv' := [(3, .int (nI u)), (0, .ref h3), (1, .int (nI k)), (2, .int (bs_i cv)), (4, .int most), (5, .int (nI u))]) hx hb d_M_dominator_58 rfl hl (by decide) rfl (fun ls hl => ?_)
            refine lv_aload_n hx hb d_M_dominator_59 rfl (lv_at hl 1 rfl) ?_
            refine lv_iload hx hb d_M_dominator_60 (lv_at hl 5 rfl) ?_
            refine lv_iload_n hx hb d_M_dominator_62 rfl (lv_at hl 3 rfl) ?_
            refine vp_callSi (va_Run.run (va_runV (C := "FlowNestModel") (b := h3) (As := [.int (nI u), .int (bs_i cv)]) (rest := []) ⟨hx, hb, hml, hown, hts⟩ (c_M_rank l dC dI cJ cI h3 k3 o3 w3 v3 p3 e3 f3 q3 (bs_i (!b12)) (nI r) (nI x) (bs_i k13) rc3 eg4 li so5 wi6 ew7 lo8 en9 le10 pi11 n u cv hn (by omega)) (cwV 2 hts (nm_gV nm_520 nm_522 nm_s_M_rank nm_4 nm_c_M_rank) rfl rfl rfl (by decide +kernel) ⟨Nat.le_of_ble_eq_true rfl, Nat.le_of_ble_eq_true rfl⟩) ⟨cw_blind, va_recv hK hP (ci := 3) rfl (q0 := 0) rfl, cw_pre hP hK hNw⟩ rfl rfl hl.1 rfl (lv_room (Nat.le_of_ble_eq_true rfl)) d_M_dominator_63 ⟨Nat.zero_le _, Nat.zero_le _⟩)) (fun r18 hr19 => ?_)
            subst hr19
            rw [md_rk hn hr9 hx9 hG9 cv u]
            refine lv_istore (lv' := [(4, .int (nI (sp_rk n (gg_L cv n li) (gg_r cv r x) u))), (3, .int (nI u)), (0, .ref h3), (1, .int (nI k)), (2, .int (bs_i cv)), (5, .int (nI u))]) hx hb d_M_dominator_66 hl (by decide) rfl (fun ls hl => ?_)
            refine lv_iinc (lv' := [(5, .int (nI (u + 1))), (4, .int (nI (sp_rk n (gg_L cv n li) (gg_r cv r x) u))), (3, .int (nI u)), (0, .ref h3), (1, .int (nI k)), (2, .int (bs_i cv))]) (k := 5) (v := nI (u + 1)) hx hb d_M_dominator_68 hl rfl (nI_1 u) (by decide) rfl (fun ls hl => ?_)
            refine lv_goto (tgt := 18) hx hb d_M_dominator_71 (by decide) ?_
            exact ih ((nI u), (nI (sp_rk n (gg_L cv n li) (gg_r cv r x) u)), (u + 1)) (show u + 1 ≤ n ∧ md_B n (gg_L cv n li) (gg_r cv r x) k (u + 1) (nI u) (nI (sp_rk n (gg_L cv n li) (gg_r cv r x) u)) from ⟨by omega, md_Bt (by omega) hI.2 ⟨hc30, gf_di.mp (by rw [← md_dmv hn hr9 hx9 hG9 cv (by omega)]; exact hc41), Int32.not_le.mp hc53⟩⟩) (show n - (u + 1) < n - u by omega) _ _ _ hP hD hS (lv_sub hl [3, 4, 5, 2, 1, 0] rfl)
  · refine lv_iconst (v := nI 0) hx hb d_M_dominator_8 (by decide) ?_
    exact W.iret (v := nI 0) hx hb hr (fun t ht hW => ⟨⟨(nI 0), (rc3, eg4, so5, wi6, ew7, lo8, en9, le10, pi11, b12, k13), rfl, ⟨hb_0, hG_0, fun h => by rw [hc5] at h; cases h⟩, by rw [ht]; exact hP, hD⟩, hS.F ht⟩) hS.2.2 d_M_dominator_9
set_option maxHeartbeats 4000000 in
set_option maxRecDepth 100000 in
theorem c_M_controls (l : Launch) (dC : Nat → ClassId) (dI : Nat → Nat → Nat) (cJ cI : ClassId) (h3 k3 o3 w3 v3 p3 e3 f3 q3 hs : Nat) (cd : Int32) (ey : Int32) (ex : Int32) (rc : Int64) (eg : Int64) (li : Nat → Int64) (so : Nat → Int64) (wi : Nat → Int64) (ew : Nat → Int64) (lo : Nat → Int64) (en : Nat → Int32) (le : Nat → Int32) (pi : Nat → Int32) (n r x : Nat) (q : Bool) (v0 : Int32)  (hn : n ≤ 48) (hz : 0 < n → ey = nI r ∧ ex = nI x ∧ r < n ∧ x < n) (hL : ∀ u v, gf_E n li u v → v < n) (hq : q = true → md_G n r x li rc eg so wi ew lo en le) : Met l y_M_controls w_M_controls ({ frames := 6, cells := 0, slots := 0, locals := 136 }) (va_Pc [.ref h3, .int v0] (cw_M (dC, dI) cJ cI (md_ws cJ cI h3 k3 o3 w3 v3 p3 e3 f3 q3 cd (nI n) ey ex (bs_i q) rc eg li so wi ew lo en le pi) hs)) (va_Ql (fun (r9 : Int64) (u9 : Int64 × Int64 × (Nat → Int64) × (Nat → Int64) × (Nat → Int64) × (Nat → Int64) × (Nat → Int32) × (Nat → Int32) × (Nat → Int32) × Bool × Bool) => match u9 with | (rc9, eg9, so9, wi9, ew9, lo9, en9, le9, pi9, b, k9) => (b = true ↔ ∃ k, k < n ∧ v0 = nI k) ∧ (k9 = true → md_G n r x li rc9 eg9 so9 wi9 ew9 lo9 en9 le9) ∧ (b = true → ∃ k, k < n ∧ v0 = nI k ∧ r9 = sp_ct n li x k)) (fun (u9 : Int64 × Int64 × (Nat → Int64) × (Nat → Int64) × (Nat → Int64) × (Nat → Int64) × (Nat → Int32) × (Nat → Int32) × (Nat → Int32) × Bool × Bool) (t : State) => match u9 with | (rc9, eg9, so9, wi9, ew9, lo9, en9, le9, pi9, b, k9) => va_P (dC, dI) vwCl (md_ws cJ cI h3 k3 o3 w3 v3 p3 e3 f3 q3 (bs_i (!b)) (nI n) ey ex (bs_i k9) rc9 eg9 li so9 wi9 ew9 lo9 en9 le9 pi9) t.heap ∧ va_D (va_A (md_ws cJ cI h3 k3 o3 w3 v3 p3 e3 f3 q3 cd (nI n) ey ex (bs_i q) rc eg li so wi ew lo en le pi) hs) (md_ws cJ cI h3 k3 o3 w3 v3 p3 e3 f3 q3 (bs_i (!b)) (nI n) ey ex (bs_i k9) rc9 eg9 li so9 wi9 ew9 lo9 en9 le9 pi9)) (va_A (md_ws cJ cI h3 k3 o3 w3 v3 p3 e3 f3 q3 cd (nI n) ey ex (bs_i q) rc eg li so wi ew lo en le pi) hs)) 0 0 (va_A (md_ws cJ cI h3 k3 o3 w3 v3 p3 e3 f3 q3 cd (nI n) ey ex (bs_i q) rc eg li so wi ew lo en le pi) hs) := by
  refine Met.ofW (cc := b_M_controls) (maxL := 7) (ret := (some .long)) (by decide) rfl ?_
  intro p e s m args below meth c s₁ B hml hv9
  obtain ⟨rfl, hsz, ⟨hP, hK, hNw⟩, hD0⟩ := hv9
  have hx := B.exec
  have hb := B.bytes
  have hr := B.returns
  have hts := atoms_spec (ws := w_M_controls) B.pre
  have hown : s.vm.findClass "FlowNestModel" = some m.cls := findClass_of_methodNamed B.named
  have hlocks := B.notSynchronized
  subst hsz
  have hD := hD0.self (sz := s.heap.size)
  generalize hAe : va_A (md_ws cJ cI h3 k3 o3 w3 v3 p3 e3 f3 q3 cd (nI n) ey ex (bs_i q) rc eg li so wi ew lo en le pi) s.heap.size = A at hD ⊢
  have hA : ∀ q : Nat, s.heap.size ≤ q → A q := fun q h => by rw [← hAe]; exact Or.inr h
  have hS : va_S A s.heap s.heap [] := va_S.rf
  have hP : va_P (dC, dI) vwCl (md_ws cJ cI h3 k3 o3 w3 v3 p3 e3 f3 q3 cd (nI n) ey ex (bs_i q) rc eg li so wi ew lo en le pi) s.heap := hP
  have hl := lv_entry ([.ref h3, .int v0]) (n := 7) (Nat.le_of_ble_eq_true rfl)
  rw [lg_entry_eq]
  generalize (lg_sl ([.ref h3, .int v0]) ++ List.replicate (7 - (lg_sl ([.ref h3, .int v0])).length) Slot.unset).toArray = ls at hl ⊢
  have hl : lv_has ls 7 [(0, .ref h3), (1, .int v0)] := hl
  refine lv_aload_n hx hb d_M_controls_0 rfl (lv_at hl 0 rfl) ?_
  refine lv_iload_n hx hb d_M_controls_1 rfl (lv_at hl 1 rfl) ?_
  have hPc := hP.sub (ws' := md_ws cJ cI h3 k3 o3 w3 v3 p3 e3 f3 q3 cd (nI n) ey ex (bs_i q) rc eg li so wi ew lo en le pi) [0, 1, 2, 3, 4, 5, 6, 7, 8] rfl
  have hDc := hD.sub (ws' := md_ws cJ cI h3 k3 o3 w3 v3 p3 e3 f3 q3 cd (nI n) ey ex (bs_i q) rc eg li so wi ew lo en le pi) [0, 1, 2, 3, 4, 5, 6, 7, 8] (by decide) rfl
  have hFc := va_free (wc := md_ws cJ cI h3 k3 o3 w3 v3 p3 e3 f3 q3 cd (nI n) ey ex (bs_i q) rc eg li so wi ew lo en le pi) hD hS hA [0, 1, 2, 3, 4, 5, 6, 7, 8] rfl
  refine va_calli (va_runV (C := "FlowNestModel") (b := h3) (As := [.int v0]) (rest := []) ⟨hx, hb, hml, hown, hts⟩ (c_M_looks l dC dI cJ cI h3 k3 o3 w3 v3 p3 e3 f3 q3 s.heap.size cd ey ex rc eg li so wi ew lo en le pi n r x q v0 hn hz hL hq) (cwV 1 hts (nm_gV nm_488 nm_490 nm_s_M_looks nm_4 nm_c_M_looks) rfl rfl rfl (by decide +kernel) ⟨Nat.le_of_ble_eq_true rfl, Nat.le_of_ble_eq_true rfl⟩) ⟨cw_blindM, va_recv hK hP (ci := 3) rfl (q0 := 0) rfl, cw_preM hPc hDc hK hNw⟩ rfl rfl hl.1 rfl (lv_room (Nat.le_of_ble_eq_true rfl)) d_M_controls_2 ⟨Nat.zero_le _, Nat.zero_le _⟩) hS (fun q _ h => hFc q h) hFc (fun r1 u9 t H1 locs ht hvm hw2 hB hz1 hk1 hS => ?_)
  obtain ⟨rc3, eg4, so5, wi6, ew7, lo8, en9, le10, pi11, b12, k13⟩ := u9
  obtain ⟨hP1, hD1⟩ := hB
  rw [ht] at hP1
  obtain ⟨hP, hD⟩ := va_join (wr := ([] : List Nat).filterMap (fun (i : Nat) => (md_ws cJ cI h3 k3 o3 w3 v3 p3 e3 f3 q3 cd (nI n) ey ex (bs_i q) rc eg li so wi ew lo en le pi)[i]?)) (w1 := md_ws cJ cI h3 k3 o3 w3 v3 p3 e3 f3 q3 (bs_i (!b12)) (nI n) ey ex (bs_i k13) rc3 eg4 li so5 wi6 ew7 lo8 en9 le10 pi11) hP hD [0, 1, 2, 3, 4, 5, 6, 7, 8] [] rfl rfl (by decide) (by decide) hk1 hFc hP1 hD1
  generalize H1 = H at hP hS ⊢
  have hP : va_P (dC, dI) vwCl (md_ws cJ cI h3 k3 o3 w3 v3 p3 e3 f3 q3 (bs_i (!b12)) (nI n) ey ex (bs_i k13) rc3 eg4 li so5 wi6 ew7 lo8 en9 le10 pi11) H := hP.sub (ws' := md_ws cJ cI h3 k3 o3 w3 v3 p3 e3 f3 q3 (bs_i (!b12)) (nI n) ey ex (bs_i k13) rc3 eg4 li so5 wi6 ew7 lo8 en9 le10 pi11) [0, 1, 2, 3, 4, 5, 6, 7, 8] rfl
  have hD : va_D A (md_ws cJ cI h3 k3 o3 w3 v3 p3 e3 f3 q3 (bs_i (!b12)) (nI n) ey ex (bs_i k13) rc3 eg4 li so5 wi6 ew7 lo8 en9 le10 pi11) := hD.sub (ws' := md_ws cJ cI h3 k3 o3 w3 v3 p3 e3 f3 q3 (bs_i (!b12)) (nI n) ey ex (bs_i k13) rc3 eg4 li so5 wi6 ew7 lo8 en9 le10 pi11) [0, 1, 2, 3, 4, 5, 6, 7, 8] (by decide) rfl
  obtain ⟨rfl, hb_0, hG_0, hk_0⟩ := hw2
  refine wl_ifneb (tgt := 10) hx hb d_M_controls_5 (by decide) (fun hc5 => ?_) (fun hc5 => ?_)
  · obtain ⟨k, hk_k, rfl⟩ := hb_0.mp hc5
    have hG9 := hG_0 (hk_0 hc5)
    obtain ⟨rfl, rfl, hr9, hx9⟩ := hz (by omega)
    have hP : va_P (dC, dI) vwCl (md_ws cJ cI h3 k3 o3 w3 v3 p3 e3 f3 q3 (bs_i (!b12)) (nI n) (nI r) (nI x) (bs_i k13) rc3 eg4 li so5 wi6 ew7 lo8 en9 le10 pi11) H := hP
    have hD : va_D A (md_ws cJ cI h3 k3 o3 w3 v3 p3 e3 f3 q3 (bs_i (!b12)) (nI n) (nI r) (nI x) (bs_i k13) rc3 eg4 li so5 wi6 ew7 lo8 en9 le10 pi11) := hD
    refine lv_lconst (v := 0) hx hb d_M_controls_10 (by decide) ?_
    refine lv_lstore_n (lv' := [(2, .long 0), (0, .ref h3), (1, .int (nI k))]) hx hb d_M_controls_11 rfl hl (by decide) rfl (fun ls hl => ?_)
    refine lv_iconst (v := nI 0) hx hb d_M_controls_12 (by decide) ?_
    refine lv_istore (lv' := [(4, .int (nI 0)), (2, .long 0), (0, .ref h3), (1, .int (nI k))]) hx hb d_M_controls_13 hl (by decide) rfl (fun ls hl => ?_)
    refine wl_loop (σ := Int64 × Nat) (dC, dI) vwCl A 15 7 (fun (x0z : Int64 × Nat) => match x0z with | (set, v) => [(0, .ref h3), (1, .int (nI k)), (2, .long set), (4, .int (nI v))]) (fun (x0z : Int64 × Nat) => match x0z with | (set, v) => md_ws cJ cI h3 k3 o3 w3 v3 p3 e3 f3 q3 (bs_i (!b12)) (nI n) (nI r) (nI x) (bs_i k13) rc3 eg4 li so5 wi6 ew7 lo8 en9 le10 pi11) (fun (x0z : Int64 × Nat) => match x0z with | (set, v) => v ≤ n ∧ ∀ i, bs_t set i = true ↔ (i < v ∧ gf_R (gf_E n (gf_T n li)) x k ∧ sp_Ct n li x k i)) (fun (x0z : Int64 × Nat) => match x0z with | (set, v) => n - v) ?_ (0, 0) (⟨Nat.zero_le n, fun i => ⟨fun q => (by rw [bs_0] at q; cases q), fun q => by omega⟩⟩) hP hD hS (lv_sub hl [2, 3, 1, 0] rfl)
    intro x0z hI ih H locs ls hP hD hS hl
    obtain ⟨set, v⟩ := x0z
    have hI : v ≤ n ∧ ∀ i, bs_t set i = true ↔ (i < v ∧ gf_R (gf_E n (gf_T n li)) x k ∧ sp_Ct n li x k i) := hI
    have hP : va_P (dC, dI) vwCl (md_ws cJ cI h3 k3 o3 w3 v3 p3 e3 f3 q3 (bs_i (!b12)) (nI n) (nI r) (nI x) (bs_i k13) rc3 eg4 li so5 wi6 ew7 lo8 en9 le10 pi11) H := hP
    have hD : va_D A (md_ws cJ cI h3 k3 o3 w3 v3 p3 e3 f3 q3 (bs_i (!b12)) (nI n) (nI r) (nI x) (bs_i k13) rc3 eg4 li so5 wi6 ew7 lo8 en9 le10 pi11) := hD
    have hl : lv_has ls 7 [(0, .ref h3), (1, .int (nI k)), (2, .long set), (4, .int (nI v))] := hl
    have hIo := hI
    have iho := ih
    refine lv_iload hx hb d_M_controls_15 (lv_at hl 3 rfl) ?_
    refine lv_aload_n hx hb d_M_controls_17 rfl (lv_at hl 0 rfl) ?_
    refine va_get (D := (dC, dI)) (ci := 3) (v := .int (nI n)) (C := "FlowNestModel") (T := T_M) (N := 15) hx hb hts nm_iM hown hK hP 0 rfl rfl 1 (by decide) (hts _ (List.mem_cons_of_mem _ nm_415)) (fun _ h9 => h9) rfl d_M_controls_18 ?_
    refine wl_ige (tgt := 133) hx hb (by omega) (by omega) d_M_controls_21 (by decide) (fun hc21 => ?_) (fun hc21 => ?_)
    · refine lv_lload_n hx hb d_M_controls_133 rfl (lv_at hl 2 rfl) ?_
      exact W.lret (v := set) hx hb hr (fun t ht hW => ⟨⟨set, (rc3, eg4, so5, wi6, ew7, lo8, en9, le10, pi11, b12, k13), rfl, ⟨⟨fun _ => ⟨k, hk_k, rfl⟩, fun _ => hc5⟩, hG_0, fun _ => ⟨k, hk_k, rfl, md_ctl_e (by omega) hL hx9 hI.2 (Or.inl hc21)⟩⟩, by rw [ht]; exact hP, hD⟩, hS.F ht⟩) hS.2.2 d_M_controls_134
    · refine lv_aload_n hx hb d_M_controls_24 rfl (lv_at hl 0 rfl) ?_
      refine va_get (D := (dC, dI)) (ci := 3) (v := .long eg4) (C := "FlowNestModel") (T := T_M) (N := 15) hx hb hts nm_iM hown hK hP 0 rfl rfl 8 (by decide) (hts _ (List.mem_cons_of_mem _ nm_422)) (fun _ h9 => h9) rfl d_M_controls_25 ?_
      refine lv_iload_n hx hb d_M_controls_28 rfl (lv_at hl 1 rfl) ?_
      refine vp_callSi (va_Run.run (va_runS (As := [.long eg4, .int (nI k)]) (rest := []) ⟨hx, hb, hml, hown, hts⟩ (c_M_has l eg4 k (by omega)) (va_cwS 2 hts (nm_gS nm_476 nm_477 nm_4 nm_c_M_has) rfl rfl rfl (by decide +kernel) ⟨Nat.le_of_ble_eq_true rfl, Nat.le_of_ble_eq_true rfl⟩) ⟨fun _ _ _ _ q => ⟨q.1, trivial⟩, fun U hU hW => ⟨rfl, trivial⟩⟩ rfl rfl hl.1 rfl (lv_room (Nat.le_of_ble_eq_true rfl)) d_M_controls_29 ⟨Nat.zero_le _, Nat.zero_le _⟩)) (fun r hr => ?_)
      subst hr
      refine wl_ifeqb (tgt := 133) hx hb d_M_controls_32 (by decide) (fun hc32 => ?_) (fun hc32 => ?_)
      · refine lv_lload_n hx hb d_M_controls_133 rfl (lv_at hl 2 rfl) ?_
        exact W.lret (v := set) hx hb hr (fun t ht hW => ⟨⟨set, (rc3, eg4, so5, wi6, ew7, lo8, en9, le10, pi11, b12, k13), rfl, ⟨⟨fun _ => ⟨k, hk_k, rfl⟩, fun _ => hc5⟩, hG_0, fun _ => ⟨k, hk_k, rfl, md_ctl_e (by omega) hL hx9 hI.2 (Or.inr (fun q => by rw [(hG9.2.2.1 k).mpr q] at hc32; cases hc32))⟩⟩, by rw [ht]; exact hP, hD⟩, hS.F ht⟩) hS.2.2 d_M_controls_134
      · refine lv_iconst (v := nI 0) hx hb d_M_controls_35 (by decide) ?_
        refine lv_istore (lv' := [(5, .int (nI 0)), (0, .ref h3), (1, .int (nI k)), (2, .long set), (4, .int (nI v))]) hx hb d_M_controls_36 hl (by decide) rfl (fun ls hl => ?_)
        refine lv_iconst (v := nI 0) hx hb d_M_controls_38 (by decide) ?_
        refine lv_istore (lv' := [(6, .int (nI 0)), (5, .int (nI 0)), (0, .ref h3), (1, .int (nI k)), (2, .long set), (4, .int (nI v))]) hx hb d_M_controls_39 hl (by decide) rfl (fun ls hl => ?_)
        refine wl_loop (σ := Bool × Nat) (dC, dI) vwCl A 41 7 (fun (x0z : Bool × Nat) => match x0z with | (dep, w) => [(0, .ref h3), (1, .int (nI k)), (2, .long set), (4, .int (nI v)), (5, .int (bs_i dep)), (6, .int (nI w))]) (fun (x0z : Bool × Nat) => match x0z with | (dep, w) => md_ws cJ cI h3 k3 o3 w3 v3 p3 e3 f3 q3 (bs_i (!b12)) (nI n) (nI r) (nI x) (bs_i k13) rc3 eg4 li so5 wi6 ew7 lo8 en9 le10 pi11) (fun (x0z : Bool × Nat) => match x0z with | (dep, w) => w ≤ n ∧ (dep = true ↔ ∃ y, y < w ∧ (fun y => bs_t (li k) y = true ∧ dm_D (gf_E n (gf_T n li)) x v y) y)) (fun (x0z : Bool × Nat) => match x0z with | (dep, w) => n - w) ?_ (false, 0) (⟨Nat.zero_le n, ⟨fun q => (by cases q), fun ⟨y, q, _⟩ => by omega⟩⟩) hP hD hS (lv_sub hl [2, 3, 4, 5, 1, 0] rfl)
        intro x0z hI ih H locs ls hP hD hS hl
        obtain ⟨dep, w⟩ := x0z
        have hI : w ≤ n ∧ (dep = true ↔ ∃ y, y < w ∧ (fun y => bs_t (li k) y = true ∧ dm_D (gf_E n (gf_T n li)) x v y) y) := hI
        have hP : va_P (dC, dI) vwCl (md_ws cJ cI h3 k3 o3 w3 v3 p3 e3 f3 q3 (bs_i (!b12)) (nI n) (nI r) (nI x) (bs_i k13) rc3 eg4 li so5 wi6 ew7 lo8 en9 le10 pi11) H := hP
        have hD : va_D A (md_ws cJ cI h3 k3 o3 w3 v3 p3 e3 f3 q3 (bs_i (!b12)) (nI n) (nI r) (nI x) (bs_i k13) rc3 eg4 li so5 wi6 ew7 lo8 en9 le10 pi11) := hD
        have hl : lv_has ls 7 [(0, .ref h3), (1, .int (nI k)), (2, .long set), (4, .int (nI v)), (5, .int (bs_i dep)), (6, .int (nI w))] := hl
        refine lv_iload hx hb d_M_controls_41 (lv_at hl 5 rfl) ?_
        refine lv_aload_n hx hb d_M_controls_43 rfl (lv_at hl 0 rfl) ?_
        refine va_get (D := (dC, dI)) (ci := 3) (v := .int (nI n)) (C := "FlowNestModel") (T := T_M) (N := 15) hx hb hts nm_iM hown hK hP 0 rfl rfl 1 (by decide) (hts _ (List.mem_cons_of_mem _ nm_415)) (fun _ h9 => h9) rfl d_M_controls_44 ?_
        refine wl_ige (tgt := 94) hx hb (by omega) (by omega) d_M_controls_47 (by decide) (fun hc47 => ?_) (fun hc47 => ?_)
        · have hI : w ≤ n ∧ (dep = true ↔ ∃ y, y < n ∧ (fun y => bs_t (li k) y = true ∧ dm_D (gf_E n (gf_T n li)) x v y) y) := by have h9 := hI; rw [show w = n by omega] at h9 ⊢; exact h9
          refine lv_lload_n hx hb d_M_controls_94 rfl (lv_at hl 2 rfl) ?_
          refine lv_iload hx hb d_M_controls_95 (lv_at hl 4 rfl) ?_
          refine wl_ifeqb (tgt := 124) hx hb d_M_controls_97 (by decide) (fun hc97 => ?_) (fun hc97 => ?_)
          · refine lv_lconst (v := 0) hx hb d_M_controls_124 (by decide) ?_
            refine lv_lor hx hb d_M_controls_125 ?_
            refine lv_lstore_n (lv' := [(2, .long (set ||| 0)), (0, .ref h3), (1, .int (nI k)), (4, .int (nI v)), (5, .int (bs_i dep)), (6, .int (nI w))]) hx hb d_M_controls_126 rfl hl (by decide) rfl (fun ls hl => ?_)
            refine lv_iinc (lv' := [(4, .int (nI (v + 1))), (2, .long (set ||| 0)), (0, .ref h3), (1, .int (nI k)), (5, .int (bs_i dep)), (6, .int (nI w))]) (k := 3) (v := nI (v + 1)) hx hb d_M_controls_127 hl rfl (nI_1 v) (by decide) rfl (fun ls hl => ?_)
            refine lv_goto (tgt := 15) hx hb d_M_controls_130 (by decide) ?_
            have hRk : gf_R (gf_E n (gf_T n li)) x k := (hG9.2.2.1 k).mp hc32
            have hdep : dep = true ↔ ∃ y, gf_E n li k y ∧ dm_D (gf_E n (gf_T n li)) x v y := hI.2.trans ⟨fun ⟨y, q1, q2⟩ => ⟨y, ⟨hk_k, q2.1⟩, q2.2⟩, fun ⟨y, q1, q2⟩ => ⟨y, by have := hL k y q1; omega, q1.2, q2⟩⟩
            rw [bs_or0] at hl
            exact iho (set, (v + 1)) (show v + 1 ≤ n ∧ ∀ i, bs_t set i = true ↔ (i < (v + 1) ∧ gf_R (gf_E n (gf_T n li)) x k ∧ sp_Ct n li x k i) from ⟨by omega, md_ctl_n hIo.2 (fun q => by rw [hdep.mpr q.2.1] at hc97; cases hc97)⟩) (show n - (v + 1) < n - v by omega) _ _ _ hP hD hS (lv_sub hl [2, 3, 1, 0] rfl)
          · refine lv_iload hx hb d_M_controls_100 (lv_at hl 3 rfl) ?_
            refine lv_iload_n hx hb d_M_controls_102 rfl (lv_at hl 1 rfl) ?_
            refine wl_ieq (tgt := 117) hx hb (by omega) (by omega) d_M_controls_103 (by decide) (fun hc103 => ?_) (fun hc103 => ?_)
            · refine lv_lconst (v := 1) hx hb d_M_controls_117 (by decide) ?_
              refine lv_iload hx hb d_M_controls_118 (lv_at hl 3 rfl) ?_
              refine lv_lshl (v := bs_b v) hx hb d_M_controls_120 rfl ?_
              refine lv_goto (tgt := 125) hx hb d_M_controls_121 (by decide) ?_
              refine lv_lor hx hb d_M_controls_125 ?_
              refine lv_lstore_n (lv' := [(2, .long (set ||| (bs_b v))), (0, .ref h3), (1, .int (nI k)), (4, .int (nI v)), (5, .int (bs_i dep)), (6, .int (nI w))]) hx hb d_M_controls_126 rfl hl (by decide) rfl (fun ls hl => ?_)
              refine lv_iinc (lv' := [(4, .int (nI (v + 1))), (2, .long (set ||| (bs_b v))), (0, .ref h3), (1, .int (nI k)), (5, .int (bs_i dep)), (6, .int (nI w))]) (k := 3) (v := nI (v + 1)) hx hb d_M_controls_127 hl rfl (nI_1 v) (by decide) rfl (fun ls hl => ?_)
              refine lv_goto (tgt := 15) hx hb d_M_controls_130 (by decide) ?_
              have hRk : gf_R (gf_E n (gf_T n li)) x k := (hG9.2.2.1 k).mp hc32
              have hdep : dep = true ↔ ∃ y, gf_E n li k y ∧ dm_D (gf_E n (gf_T n li)) x v y := hI.2.trans ⟨fun ⟨y, q1, q2⟩ => ⟨y, ⟨hk_k, q2.1⟩, q2.2⟩, fun ⟨y, q1, q2⟩ => ⟨y, by have := hL k y q1; omega, q1.2, q2⟩⟩
              exact iho ((set ||| bs_b v), (v + 1)) (show v + 1 ≤ n ∧ ∀ i, bs_t (set ||| bs_b v) i = true ↔ (i < (v + 1) ∧ gf_R (gf_E n (gf_T n li)) x k ∧ sp_Ct n li x k i) from ⟨by omega, md_ctl_y (by omega) hIo.2 ⟨hRk, hdep.mp hc97, Or.inl hc103⟩⟩) (show n - (v + 1) < n - v by omega) _ _ _ hP hD hS (lv_sub hl [2, 3, 1, 0] rfl)
            · refine lv_aload_n hx hb d_M_controls_106 rfl (lv_at hl 0 rfl) ?_
              refine lv_iload hx hb d_M_controls_107 (lv_at hl 3 rfl) ?_
              refine lv_iload_n hx hb d_M_controls_109 rfl (lv_at hl 1 rfl) ?_
              refine lv_iconst (v := nI 1) hx hb d_M_controls_110 (by decide) ?_
              refine vp_callSi (va_Run.run (va_runV (C := "FlowNestModel") (b := h3) (As := [.int (nI v), .int (nI k), .int (nI 1)]) (rest := [.long set]) ⟨hx, hb, hml, hown, hts⟩ (c_M_dominatesIt_1 l dC dI cJ cI h3 k3 o3 w3 v3 p3 e3 f3 q3 (bs_i (!b12)) (nI n) (nI r) (nI x) (bs_i k13) rc3 eg4 li so5 wi6 ew7 lo8 en9 le10 pi11 v k (by omega) (by omega)) (cwV 3 hts (nm_gV nm_508 nm_510 nm_s_M_dominatesIt nm_4 nm_c_M_dominatesIt) rfl rfl rfl (by decide +kernel) ⟨Nat.le_of_ble_eq_true rfl, Nat.le_of_ble_eq_true rfl⟩) ⟨cw_blind, va_recv hK hP (ci := 3) rfl (q0 := 0) rfl, cw_pre hP hK hNw⟩ rfl rfl hl.1 rfl (lv_room (Nat.le_of_ble_eq_true rfl)) d_M_controls_111 ⟨Nat.zero_le _, Nat.zero_le _⟩)) (fun r14 hr15 => ?_)
              subst hr15
              refine wl_ifneb (tgt := 124) hx hb d_M_controls_114 (by decide) (fun hc114 => ?_) (fun hc114 => ?_)
              · refine lv_lconst (v := 0) hx hb d_M_controls_124 (by decide) ?_
                refine lv_lor hx hb d_M_controls_125 ?_
                refine lv_lstore_n (lv' := [(2, .long (set ||| 0)), (0, .ref h3), (1, .int (nI k)), (4, .int (nI v)), (5, .int (bs_i dep)), (6, .int (nI w))]) hx hb d_M_controls_126 rfl hl (by decide) rfl (fun ls hl => ?_)
                refine lv_iinc (lv' := [(4, .int (nI (v + 1))), (2, .long (set ||| 0)), (0, .ref h3), (1, .int (nI k)), (5, .int (bs_i dep)), (6, .int (nI w))]) (k := 3) (v := nI (v + 1)) hx hb d_M_controls_127 hl rfl (nI_1 v) (by decide) rfl (fun ls hl => ?_)
                refine lv_goto (tgt := 15) hx hb d_M_controls_130 (by decide) ?_
                have hRk : gf_R (gf_E n (gf_T n li)) x k := (hG9.2.2.1 k).mp hc32
                have hdep : dep = true ↔ ∃ y, gf_E n li k y ∧ dm_D (gf_E n (gf_T n li)) x v y := hI.2.trans ⟨fun ⟨y, q1, q2⟩ => ⟨y, ⟨hk_k, q2.1⟩, q2.2⟩, fun ⟨y, q1, q2⟩ => ⟨y, by have := hL k y q1; omega, q1.2, q2⟩⟩
                rw [bs_or0] at hl
                exact iho (set, (v + 1)) (show v + 1 ≤ n ∧ ∀ i, bs_t set i = true ↔ (i < (v + 1) ∧ gf_R (gf_E n (gf_T n li)) x k ∧ sp_Ct n li x k i) from ⟨by omega, md_ctl_n hIo.2 (fun q => q.2.2.elim hc103 (fun z => z (gf_di.mp ((md_dmv hn hr9 hx9 hG9 true (by omega)).symm.trans hc114))))⟩) (show n - (v + 1) < n - v by omega) _ _ _ hP hD hS (lv_sub hl [2, 3, 1, 0] rfl)
              · refine lv_lconst (v := 1) hx hb d_M_controls_117 (by decide) ?_
                refine lv_iload hx hb d_M_controls_118 (lv_at hl 3 rfl) ?_
                refine lv_lshl (v := bs_b v) hx hb d_M_controls_120 rfl ?_
                refine lv_goto (tgt := 125) hx hb d_M_controls_121 (by decide) ?_
                refine lv_lor hx hb d_M_controls_125 ?_
                refine lv_lstore_n (lv' := [(2, .long (set ||| (bs_b v))), (0, .ref h3), (1, .int (nI k)), (4, .int (nI v)), (5, .int (bs_i dep)), (6, .int (nI w))]) hx hb d_M_controls_126 rfl hl (by decide) rfl (fun ls hl => ?_)
                refine lv_iinc (lv' := [(4, .int (nI (v + 1))), (2, .long (set ||| (bs_b v))), (0, .ref h3), (1, .int (nI k)), (5, .int (bs_i dep)), (6, .int (nI w))]) (k := 3) (v := nI (v + 1)) hx hb d_M_controls_127 hl rfl (nI_1 v) (by decide) rfl (fun ls hl => ?_)
                refine lv_goto (tgt := 15) hx hb d_M_controls_130 (by decide) ?_
                have hRk : gf_R (gf_E n (gf_T n li)) x k := (hG9.2.2.1 k).mp hc32
                have hdep : dep = true ↔ ∃ y, gf_E n li k y ∧ dm_D (gf_E n (gf_T n li)) x v y := hI.2.trans ⟨fun ⟨y, q1, q2⟩ => ⟨y, ⟨hk_k, q2.1⟩, q2.2⟩, fun ⟨y, q1, q2⟩ => ⟨y, by have := hL k y q1; omega, q1.2, q2⟩⟩
                exact iho ((set ||| bs_b v), (v + 1)) (show v + 1 ≤ n ∧ ∀ i, bs_t (set ||| bs_b v) i = true ↔ (i < (v + 1) ∧ gf_R (gf_E n (gf_T n li)) x k ∧ sp_Ct n li x k i) from ⟨by omega, md_ctl_y (by omega) hIo.2 ⟨hRk, hdep.mp hc97, Or.inr (gf_df.mp ((md_dmv hn hr9 hx9 hG9 true (by omega)).symm.trans hc114))⟩⟩) (show n - (v + 1) < n - v by omega) _ _ _ hP hD hS (lv_sub hl [2, 3, 1, 0] rfl)
        · refine lv_iload hx hb d_M_controls_50 (lv_at hl 4 rfl) ?_
          refine wl_ifneb (tgt := 81) hx hb d_M_controls_52 (by decide) (fun hc52 => ?_) (fun hc52 => ?_)
          · refine lv_iconst (v := nI 1) hx hb d_M_controls_81 (by decide) ?_
            refine lv_goto (tgt := 86) hx hb d_M_controls_82 (by decide) ?_
            refine lv_istore (lv' := [(5, .int (nI 1)), (0, .ref h3), (1, .int (nI k)), (2, .long set), (4, .int (nI v)), (6, .int (nI w))]) hx hb d_M_controls_86 hl (by decide) rfl (fun ls hl => ?_)
            refine lv_iinc (lv' := [(6, .int (nI (w + 1))), (5, .int (nI 1)), (0, .ref h3), (1, .int (nI k)), (2, .long set), (4, .int (nI v))]) (k := 5) (v := nI (w + 1)) hx hb d_M_controls_88 hl rfl (nI_1 w) (by decide) rfl (fun ls hl => ?_)
            refine lv_goto (tgt := 41) hx hb d_M_controls_91 (by decide) ?_
            exact ih (true, (w + 1)) (show w + 1 ≤ n ∧ (true = true ↔ ∃ y, y < w + 1 ∧ (fun y => bs_t (li k) y = true ∧ dm_D (gf_E n (gf_T n li)) x v y) y) from ⟨by omega, md_dep_o hI.2 hc52⟩) (show n - (w + 1) < n - w by omega) _ _ _ hP hD hS (lv_sub hl [2, 3, 4, 5, 1, 0] rfl)
          · refine lv_aload_n hx hb d_M_controls_55 rfl (lv_at hl 0 rfl) ?_
            refine va_get (D := (dC, dI)) (ci := 3) (v := .ref k3) (C := "FlowNestModel") (T := T_M) (N := 15) hx hb hts nm_iM hown hK hP 0 rfl rfl 4 (by decide) (hts _ (List.mem_cons_of_mem _ nm_418)) (fun _ h9 => h9) rfl d_M_controls_56 ?_
            refine lv_iload_n hx hb d_M_controls_59 rfl (lv_at hl 1 rfl) ?_
            refine wl_lald (i := k) hx hb hK hP 1 0 rfl rfl (by omega) (by decide) d_M_controls_60 ?_
            refine lv_iload hx hb d_M_controls_61 (lv_at hl 5 rfl) ?_
            refine vp_callSi (va_Run.run (va_runS (As := [.long (li k), .int (nI w)]) (rest := []) ⟨hx, hb, hml, hown, hts⟩ (c_M_has l (li k) w (by omega)) (va_cwS 2 hts (nm_gS nm_476 nm_477 nm_4 nm_c_M_has) rfl rfl rfl (by decide +kernel) ⟨Nat.le_of_ble_eq_true rfl, Nat.le_of_ble_eq_true rfl⟩) ⟨fun _ _ _ _ q => ⟨q.1, trivial⟩, fun U hU hW => ⟨rfl, trivial⟩⟩ rfl rfl hl.1 rfl (lv_room (Nat.le_of_ble_eq_true rfl)) d_M_controls_63 ⟨Nat.zero_le _, Nat.zero_le _⟩)) (fun r hr => ?_)
            subst hr
            refine wl_ifeqb (tgt := 85) hx hb d_M_controls_66 (by decide) (fun hc66 => ?_) (fun hc66 => ?_)
            · refine lv_iconst (v := nI 0) hx hb d_M_controls_85 (by decide) ?_
              refine lv_istore (lv' := [(5, .int (nI 0)), (0, .ref h3), (1, .int (nI k)), (2, .long set), (4, .int (nI v)), (6, .int (nI w))]) hx hb d_M_controls_86 hl (by decide) rfl (fun ls hl => ?_)
              refine lv_iinc (lv' := [(6, .int (nI (w + 1))), (5, .int (nI 0)), (0, .ref h3), (1, .int (nI k)), (2, .long set), (4, .int (nI v))]) (k := 5) (v := nI (w + 1)) hx hb d_M_controls_88 hl rfl (nI_1 w) (by decide) rfl (fun ls hl => ?_)
              refine lv_goto (tgt := 41) hx hb d_M_controls_91 (by decide) ?_
              exact ih (false, (w + 1)) (show w + 1 ≤ n ∧ (false = true ↔ ∃ y, y < w + 1 ∧ (fun y => bs_t (li k) y = true ∧ dm_D (gf_E n (gf_T n li)) x v y) y) from ⟨by omega, md_dep_k hI.2 hc52 (fun q => by rw [q.1] at hc66; cases hc66)⟩) (show n - (w + 1) < n - w by omega) _ _ _ hP hD hS (lv_sub hl [2, 3, 4, 5, 1, 0] rfl)
            · refine lv_aload_n hx hb d_M_controls_69 rfl (lv_at hl 0 rfl) ?_
              refine lv_iload hx hb d_M_controls_70 (lv_at hl 3 rfl) ?_
              refine lv_iload hx hb d_M_controls_72 (lv_at hl 5 rfl) ?_
              refine lv_iconst (v := nI 1) hx hb d_M_controls_74 (by decide) ?_
              refine vp_callSi (va_Run.run (va_runV (C := "FlowNestModel") (b := h3) (As := [.int (nI v), .int (nI w), .int (nI 1)]) (rest := []) ⟨hx, hb, hml, hown, hts⟩ (c_M_dominatesIt_1 l dC dI cJ cI h3 k3 o3 w3 v3 p3 e3 f3 q3 (bs_i (!b12)) (nI n) (nI r) (nI x) (bs_i k13) rc3 eg4 li so5 wi6 ew7 lo8 en9 le10 pi11 v w (by omega) (by omega)) (cwV 3 hts (nm_gV nm_508 nm_510 nm_s_M_dominatesIt nm_4 nm_c_M_dominatesIt) rfl rfl rfl (by decide +kernel) ⟨Nat.le_of_ble_eq_true rfl, Nat.le_of_ble_eq_true rfl⟩) ⟨cw_blind, va_recv hK hP (ci := 3) rfl (q0 := 0) rfl, cw_pre hP hK hNw⟩ rfl rfl hl.1 rfl (lv_room (Nat.le_of_ble_eq_true rfl)) d_M_controls_75 ⟨Nat.zero_le _, Nat.zero_le _⟩)) (fun r16 hr17 => ?_)
              subst hr17
              refine wl_ifeqb (tgt := 85) hx hb d_M_controls_78 (by decide) (fun hc78 => ?_) (fun hc78 => ?_)
              · refine lv_iconst (v := nI 0) hx hb d_M_controls_85 (by decide) ?_
                refine lv_istore (lv' := [(5, .int (nI 0)), (0, .ref h3), (1, .int (nI k)), (2, .long set), (4, .int (nI v)), (6, .int (nI w))]) hx hb d_M_controls_86 hl (by decide) rfl (fun ls hl => ?_)
                refine lv_iinc (lv' := [(6, .int (nI (w + 1))), (5, .int (nI 0)), (0, .ref h3), (1, .int (nI k)), (2, .long set), (4, .int (nI v))]) (k := 5) (v := nI (w + 1)) hx hb d_M_controls_88 hl rfl (nI_1 w) (by decide) rfl (fun ls hl => ?_)
                refine lv_goto (tgt := 41) hx hb d_M_controls_91 (by decide) ?_
                exact ih (false, (w + 1)) (show w + 1 ≤ n ∧ (false = true ↔ ∃ y, y < w + 1 ∧ (fun y => bs_t (li k) y = true ∧ dm_D (gf_E n (gf_T n li)) x v y) y) from ⟨by omega, md_dep_k hI.2 hc52 (fun q => (gf_df.mp ((md_dmv hn hr9 hx9 hG9 true (by omega)).symm.trans hc78)) q.2)⟩) (show n - (w + 1) < n - w by omega) _ _ _ hP hD hS (lv_sub hl [2, 3, 4, 5, 1, 0] rfl)
              · refine lv_iconst (v := nI 1) hx hb d_M_controls_81 (by decide) ?_
                refine lv_goto (tgt := 86) hx hb d_M_controls_82 (by decide) ?_
                refine lv_istore (lv' := [(5, .int (nI 1)), (0, .ref h3), (1, .int (nI k)), (2, .long set), (4, .int (nI v)), (6, .int (nI w))]) hx hb d_M_controls_86 hl (by decide) rfl (fun ls hl => ?_)
                refine lv_iinc (lv' := [(6, .int (nI (w + 1))), (5, .int (nI 1)), (0, .ref h3), (1, .int (nI k)), (2, .long set), (4, .int (nI v))]) (k := 5) (v := nI (w + 1)) hx hb d_M_controls_88 hl rfl (nI_1 w) (by decide) rfl (fun ls hl => ?_)
                refine lv_goto (tgt := 41) hx hb d_M_controls_91 (by decide) ?_
                exact ih (true, (w + 1)) (show w + 1 ≤ n ∧ (true = true ↔ ∃ y, y < w + 1 ∧ (fun y => bs_t (li k) y = true ∧ dm_D (gf_E n (gf_T n li)) x v y) y) from ⟨by omega, md_dep_n (P := (fun y => bs_t (li k) y = true ∧ dm_D (gf_E n (gf_T n li)) x v y)) ⟨hc66, (gf_di.mp ((md_dmv hn hr9 hx9 hG9 true (by omega)).symm.trans hc78))⟩⟩) (show n - (w + 1) < n - w by omega) _ _ _ hP hD hS (lv_sub hl [2, 3, 4, 5, 1, 0] rfl)
  · refine lv_lconst (v := 0) hx hb d_M_controls_8 (by decide) ?_
    exact W.lret (v := 0) hx hb hr (fun t ht hW => ⟨⟨0, (rc3, eg4, so5, wi6, ew7, lo8, en9, le10, pi11, b12, k13), rfl, ⟨hb_0, hG_0, fun h => by rw [hc5] at h; cases h⟩, by rw [ht]; exact hP, hD⟩, hS.F ht⟩) hS.2.2 d_M_controls_9
