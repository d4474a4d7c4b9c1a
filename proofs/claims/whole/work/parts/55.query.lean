/-! contracts of the reference's dominates, isBack, spread, loops, isReducible (laid by wip/gen/query3.py) -/
set_option maxHeartbeats 4000000 in
set_option maxRecDepth 100000 in
theorem c_M_dominates (l : Launch) (dC : Nat → ClassId) (dI : Nat → Nat → Nat) (cJ cI : ClassId) (h3 k3 o3 w3 v3 p3 e3 f3 q3 hs : Nat) (cd : Int32) (ey : Int32) (ex : Int32) (rc : Int64) (eg : Int64) (li : Nat → Int64) (so : Nat → Int64) (wi : Nat → Int64) (ew : Nat → Int64) (lo : Nat → Int64) (en : Nat → Int32) (le : Nat → Int32) (pi : Nat → Int32) (n r x : Nat) (q : Bool) (u0 v0 : Int32) (cv : Bool) (hn : n ≤ 48) (hz : 0 < n → ey = nI r ∧ ex = nI x ∧ r < n ∧ x < n) (hL : ∀ u v, gf_E n li u v → v < n) (hq : q = true → md_G n r x li rc eg so wi ew lo en le) : Met l y_M_dominates w_M_dominates ({ frames := 6, cells := 0, slots := 0, locals := 136 }) (va_Pc [.ref h3, .int u0, .int v0, .int (bs_i cv)] (cw_M (dC, dI) cJ cI (md_ws cJ cI h3 k3 o3 w3 v3 p3 e3 f3 q3 cd (nI n) ey ex (bs_i q) rc eg li so wi ew lo en le pi) hs)) (va_Qi (fun (r9 : Int32) (u9 : Int64 × Int64 × (Nat → Int64) × (Nat → Int64) × (Nat → Int64) × (Nat → Int64) × (Nat → Int32) × (Nat → Int32) × (Nat → Int32) × Bool × Bool) => match u9 with | (rc9, eg9, so9, wi9, ew9, lo9, en9, le9, pi9, b, k9) => (b = true ↔ (∃ k, k < n ∧ u0 = nI k) ∧ ∃ j, j < n ∧ v0 = nI j) ∧ (k9 = true → md_G n r x li rc9 eg9 so9 wi9 ew9 lo9 en9 le9) ∧ (b = true → ∃ k j, k < n ∧ j < n ∧ u0 = nI k ∧ v0 = nI j ∧ r9 = bs_i (gf_d (dm_D (gf_E n (gg_L cv n li)) (gg_r cv r x) k j)))) (fun (u9 : Int64 × Int64 × (Nat → Int64) × (Nat → Int64) × (Nat → Int64) × (Nat → Int64) × (Nat → Int32) × (Nat → Int32) × (Nat → Int32) × Bool × Bool) (t : State) => match u9 with | (rc9, eg9, so9, wi9, ew9, lo9, en9, le9, pi9, b, k9) => va_P (dC, dI) vwCl (md_ws cJ cI h3 k3 o3 w3 v3 p3 e3 f3 q3 (bs_i (!b)) (nI n) ey ex (bs_i k9) rc9 eg9 li so9 wi9 ew9 lo9 en9 le9 pi9) t.heap ∧ va_D (va_A (md_ws cJ cI h3 k3 o3 w3 v3 p3 e3 f3 q3 cd (nI n) ey ex (bs_i q) rc eg li so wi ew lo en le pi) hs) (md_ws cJ cI h3 k3 o3 w3 v3 p3 e3 f3 q3 (bs_i (!b)) (nI n) ey ex (bs_i k9) rc9 eg9 li so9 wi9 ew9 lo9 en9 le9 pi9)) (va_A (md_ws cJ cI h3 k3 o3 w3 v3 p3 e3 f3 q3 cd (nI n) ey ex (bs_i q) rc eg li so wi ew lo en le pi) hs)) 0 0 (va_A (md_ws cJ cI h3 k3 o3 w3 v3 p3 e3 f3 q3 cd (nI n) ey ex (bs_i q) rc eg li so wi ew lo en le pi) hs) := by
  refine Met.ofW (cc := b_M_dominates) (maxL := 4) (ret := (some .boolean)) (by decide) rfl ?_
  intro p e s m args below meth c s₁ B hml hv9
  obtain ⟨rfl, hsz, ⟨hP, hK, hNw⟩, hD0⟩ := hv9
  have hx := B.exec
  have hb := B.bytes
  have hr := B.returns
  have hts := atoms_spec (ws := w_M_dominates) B.pre
  have hown : s.vm.findClass "FlowNestModel" = some m.cls := findClass_of_methodNamed B.named
  have hlocks := B.notSynchronized
  subst hsz
  have hD := hD0.self (sz := s.heap.size)
  generalize hAe : va_A (md_ws cJ cI h3 k3 o3 w3 v3 p3 e3 f3 q3 cd (nI n) ey ex (bs_i q) rc eg li so wi ew lo en le pi) s.heap.size = A at hD ⊢
  have hA : ∀ q : Nat, s.heap.size ≤ q → A q := fun q h => by rw [← hAe]; exact Or.inr h
  have hS : va_S A s.heap s.heap [] := va_S.rf
  have hP : va_P (dC, dI) vwCl (md_ws cJ cI h3 k3 o3 w3 v3 p3 e3 f3 q3 cd (nI n) ey ex (bs_i q) rc eg li so wi ew lo en le pi) s.heap := hP
  have hl := lv_entry ([.ref h3, .int u0, .int v0, .int (bs_i cv)]) (n := 4) (Nat.le_of_ble_eq_true rfl)
  rw [lg_entry_eq]
  generalize (lg_sl ([.ref h3, .int u0, .int v0, .int (bs_i cv)]) ++ List.replicate (4 - (lg_sl ([.ref h3, .int u0, .int v0, .int (bs_i cv)])).length) Slot.unset).toArray = ls at hl ⊢
  have hl : lv_has ls 4 [(0, .ref h3), (1, .int u0), (2, .int v0), (3, .int (bs_i cv))] := hl
  refine lv_aload_n hx hb d_M_dominates_0 rfl (lv_at hl 0 rfl) ?_
  refine lv_iload_n hx hb d_M_dominates_1 rfl (lv_at hl 1 rfl) ?_
  have hPc := hP.sub (ws' := md_ws cJ cI h3 k3 o3 w3 v3 p3 e3 f3 q3 cd (nI n) ey ex (bs_i q) rc eg li so wi ew lo en le pi) [0, 1, 2, 3, 4, 5, 6, 7, 8] rfl
  have hDc := hD.sub (ws' := md_ws cJ cI h3 k3 o3 w3 v3 p3 e3 f3 q3 cd (nI n) ey ex (bs_i q) rc eg li so wi ew lo en le pi) [0, 1, 2, 3, 4, 5, 6, 7, 8] (by decide) rfl
  have hFc := va_free (wc := md_ws cJ cI h3 k3 o3 w3 v3 p3 e3 f3 q3 cd (nI n) ey ex (bs_i q) rc eg li so wi ew lo en le pi) hD hS hA [0, 1, 2, 3, 4, 5, 6, 7, 8] rfl
  refine va_calli (va_runV (C := "FlowNestModel") (b := h3) (As := [.int u0]) (rest := []) ⟨hx, hb, hml, hown, hts⟩ (c_M_looks l dC dI cJ cI h3 k3 o3 w3 v3 p3 e3 f3 q3 s.heap.size cd ey ex rc eg li so wi ew lo en le pi n r x q u0 hn hz hL hq) (cwV 1 hts (nm_gV nm_488 nm_490 nm_s_M_looks nm_4 nm_c_M_looks) rfl rfl rfl (by decide +kernel) ⟨Nat.le_of_ble_eq_true rfl, Nat.le_of_ble_eq_true rfl⟩) ⟨cw_blindM, va_recv hK hP (ci := 3) rfl (q0 := 0) rfl, cw_preM hPc hDc hK hNw⟩ rfl rfl hl.1 rfl (lv_room (Nat.le_of_ble_eq_true rfl)) d_M_dominates_2 ⟨Nat.zero_le _, Nat.zero_le _⟩) hS (fun q _ h => hFc q h) hFc (fun r1 u9 t H1 locs ht hvm hw2 hB hz1 hk1 hS => ?_)
  obtain ⟨rc3, eg4, so5, wi6, ew7, lo8, en9, le10, pi11, b12, k13⟩ := u9
  obtain ⟨hP1, hD1⟩ := hB
  rw [ht] at hP1
  obtain ⟨hP, hD⟩ := va_join (wr := ([] : List Nat).filterMap (fun (i : Nat) => (md_ws cJ cI h3 k3 o3 w3 v3 p3 e3 f3 q3 cd (nI n) ey ex (bs_i q) rc eg li so wi ew lo en le pi)[i]?)) (w1 := md_ws cJ cI h3 k3 o3 w3 v3 p3 e3 f3 q3 (bs_i (!b12)) (nI n) ey ex (bs_i k13) rc3 eg4 li so5 wi6 ew7 lo8 en9 le10 pi11) hP hD [0, 1, 2, 3, 4, 5, 6, 7, 8] [] rfl rfl (by decide) (by decide) hk1 hFc hP1 hD1
  generalize H1 = H at hP hS ⊢
  have hP : va_P (dC, dI) vwCl (md_ws cJ cI h3 k3 o3 w3 v3 p3 e3 f3 q3 (bs_i (!b12)) (nI n) ey ex (bs_i k13) rc3 eg4 li so5 wi6 ew7 lo8 en9 le10 pi11) H := hP.sub (ws' := md_ws cJ cI h3 k3 o3 w3 v3 p3 e3 f3 q3 (bs_i (!b12)) (nI n) ey ex (bs_i k13) rc3 eg4 li so5 wi6 ew7 lo8 en9 le10 pi11) [0, 1, 2, 3, 4, 5, 6, 7, 8] rfl
  have hD : va_D A (md_ws cJ cI h3 k3 o3 w3 v3 p3 e3 f3 q3 (bs_i (!b12)) (nI n) ey ex (bs_i k13) rc3 eg4 li so5 wi6 ew7 lo8 en9 le10 pi11) := hD.sub (ws' := md_ws cJ cI h3 k3 o3 w3 v3 p3 e3 f3 q3 (bs_i (!b12)) (nI n) ey ex (bs_i k13) rc3 eg4 li so5 wi6 ew7 lo8 en9 le10 pi11) [0, 1, 2, 3, 4, 5, 6, 7, 8] (by decide) rfl
  obtain ⟨rfl, hb_0, hG_0, hk_0⟩ := hw2
  refine wl_ifeqb (tgt := 30) hx hb d_M_dominates_5 (by decide) (fun hc5 => ?_) (fun hc5 => ?_)
  · refine lv_iconst (v := nI 0) hx hb d_M_dominates_30 (by decide) ?_
    exact W.zret (v := nI 0) hx hb hr (by decide) (fun t ht hW => ⟨⟨(nI 0), (rc3, eg4, so5, wi6, ew7, lo8, en9, le10, pi11, b12, k13), rfl, ⟨⟨fun h => absurd h (by rw [hc5]; decide), fun h => hb_0.mpr h.1⟩, hG_0, fun h => absurd h (by rw [hc5]; decide)⟩, by rw [ht]; exact hP, hD⟩, hS.F ht⟩) hS.2.2 d_M_dominates_31
  · obtain ⟨k, hk_k, rfl⟩ := hb_0.mp hc5
    have hG9 := hG_0 (hk_0 hc5)
    obtain ⟨rfl, rfl, hr9, hx9⟩ := hz (by omega)
    have hP : va_P (dC, dI) vwCl (md_ws cJ cI h3 k3 o3 w3 v3 p3 e3 f3 q3 (bs_i (!b12)) (nI n) (nI r) (nI x) (bs_i k13) rc3 eg4 li so5 wi6 ew7 lo8 en9 le10 pi11) H := hP
    have hD : va_D A (md_ws cJ cI h3 k3 o3 w3 v3 p3 e3 f3 q3 (bs_i (!b12)) (nI n) (nI r) (nI x) (bs_i k13) rc3 eg4 li so5 wi6 ew7 lo8 en9 le10 pi11) := hD
    refine lv_aload_n hx hb d_M_dominates_8 rfl (lv_at hl 0 rfl) ?_
    refine lv_iload_n hx hb d_M_dominates_9 rfl (lv_at hl 2 rfl) ?_
    have hPc := hP.sub (ws' := md_ws cJ cI h3 k3 o3 w3 v3 p3 e3 f3 q3 (bs_i (!b12)) (nI n) (nI r) (nI x) (bs_i k13) rc3 eg4 li so5 wi6 ew7 lo8 en9 le10 pi11) [0, 1, 2, 3, 4, 5, 6, 7, 8] rfl
    have hDc := hD.sub (ws' := md_ws cJ cI h3 k3 o3 w3 v3 p3 e3 f3 q3 (bs_i (!b12)) (nI n) (nI r) (nI x) (bs_i k13) rc3 eg4 li so5 wi6 ew7 lo8 en9 le10 pi11) [0, 1, 2, 3, 4, 5, 6, 7, 8] (by decide) rfl
    have hFc := va_free (wc := md_ws cJ cI h3 k3 o3 w3 v3 p3 e3 f3 q3 (bs_i (!b12)) (nI n) (nI r) (nI x) (bs_i k13) rc3 eg4 li so5 wi6 ew7 lo8 en9 le10 pi11) hD hS hA [0, 1, 2, 3, 4, 5, 6, 7, 8] rfl
    refine va_calli (va_runV (C := "FlowNestModel") (b := h3) (As := [.int v0]) (rest := []) ⟨hx, hb, hml, hown, hts⟩ (c_M_looks l dC dI cJ cI h3 k3 o3 w3 v3 p3 e3 f3 q3 H.size (bs_i (!b12)) (nI r) (nI x) rc3 eg4 li so5 wi6 ew7 lo8 en9 le10 pi11 n r x k13 v0 hn hz hL hG_0) (cwV 1 hts (nm_gV nm_488 nm_490 nm_s_M_looks nm_4 nm_c_M_looks) rfl rfl rfl (by decide +kernel) ⟨Nat.le_of_ble_eq_true rfl, Nat.le_of_ble_eq_true rfl⟩) ⟨cw_blindM, va_recv hK hP (ci := 3) rfl (q0 := 0) rfl, cw_preM hPc hDc hK hNw⟩ rfl rfl hl.1 rfl (lv_room (Nat.le_of_ble_eq_true rfl)) d_M_dominates_10 ⟨Nat.zero_le _, Nat.zero_le _⟩) hS (fun q _ h => hFc q h) hFc (fun r14 u9 t H1 locs ht hvm hw15 hB hz1 hk1 hS => ?_)
    obtain ⟨rc16, eg17, so18, wi19, ew20, lo21, en22, le23, pi24, b25, k26⟩ := u9
    obtain ⟨hP1, hD1⟩ := hB
    rw [ht] at hP1
    obtain ⟨hP, hD⟩ := va_join (wr := ([] : List Nat).filterMap (fun (i : Nat) => (md_ws cJ cI h3 k3 o3 w3 v3 p3 e3 f3 q3 (bs_i (!b12)) (nI n) (nI r) (nI x) (bs_i k13) rc3 eg4 li so5 wi6 ew7 lo8 en9 le10 pi11)[i]?)) (w1 := md_ws cJ cI h3 k3 o3 w3 v3 p3 e3 f3 q3 (bs_i (!b25)) (nI n) (nI r) (nI x) (bs_i k26) rc16 eg17 li so18 wi19 ew20 lo21 en22 le23 pi24) hP hD [0, 1, 2, 3, 4, 5, 6, 7, 8] [] rfl rfl (by decide) (by decide) hk1 hFc hP1 hD1
    generalize H1 = H at hP hS ⊢
    have hP : va_P (dC, dI) vwCl (md_ws cJ cI h3 k3 o3 w3 v3 p3 e3 f3 q3 (bs_i (!b25)) (nI n) (nI r) (nI x) (bs_i k26) rc16 eg17 li so18 wi19 ew20 lo21 en22 le23 pi24) H := hP.sub (ws' := md_ws cJ cI h3 k3 o3 w3 v3 p3 e3 f3 q3 (bs_i (!b25)) (nI n) (nI r) (nI x) (bs_i k26) rc16 eg17 li so18 wi19 ew20 lo21 en22 le23 pi24) [0, 1, 2, 3, 4, 5, 6, 7, 8] rfl
    have hD : va_D A (md_ws cJ cI h3 k3 o3 w3 v3 p3 e3 f3 q3 (bs_i (!b25)) (nI n) (nI r) (nI x) (bs_i k26) rc16 eg17 li so18 wi19 ew20 lo21 en22 le23 pi24) := hD.sub (ws' := md_ws cJ cI h3 k3 o3 w3 v3 p3 e3 f3 q3 (bs_i (!b25)) (nI n) (nI r) (nI x) (bs_i k26) rc16 eg17 li so18 wi19 ew20 lo21 en22 le23 pi24) [0, 1, 2, 3, 4, 5, 6, 7, 8] (by decide) rfl
    obtain ⟨rfl, hb_1, hG_1, hk_1⟩ := hw15
    refine wl_ifeqb (tgt := 30) hx hb d_M_dominates_13 (by decide) (fun hc13 => ?_) (fun hc13 => ?_)
    · refine lv_iconst (v := nI 0) hx hb d_M_dominates_30 (by decide) ?_
      exact W.zret (v := nI 0) hx hb hr (by decide) (fun t ht hW => ⟨⟨(nI 0), (rc16, eg17, so18, wi19, ew20, lo21, en22, le23, pi24, b25, k26), rfl, ⟨⟨fun h => absurd h (by rw [hc13]; decide), fun h => hb_1.mpr h.2⟩, hG_1, fun h => absurd h (by rw [hc13]; decide)⟩, by rw [ht]; exact hP, hD⟩, hS.F ht⟩) hS.2.2 d_M_dominates_31
    · obtain ⟨j, hk_j, rfl⟩ := hb_1.mp hc13
      have hG9 := hG_1 (hk_1 hc13)
      refine lv_aload_n hx hb d_M_dominates_16 rfl (lv_at hl 0 rfl) ?_
      refine lv_iload_n hx hb d_M_dominates_17 rfl (lv_at hl 1 rfl) ?_
      refine lv_iload_n hx hb d_M_dominates_18 rfl (lv_at hl 2 rfl) ?_
      refine lv_iload_n hx hb d_M_dominates_19 rfl (lv_at hl 3 rfl) ?_
      refine vp_callSi (va_Run.run (va_runV (C := "FlowNestModel") (b := h3) (As := [.int (nI k), .int (nI j), .int (bs_i cv)]) (rest := []) ⟨hx, hb, hml, hown, hts⟩ (c_M_dominatesIt l dC dI cJ cI h3 k3 o3 w3 v3 p3 e3 f3 q3 (bs_i (!b25)) (nI n) (nI r) (nI x) (bs_i k26) rc16 eg17 li so18 wi19 ew20 lo21 en22 le23 pi24 k j cv (by omega) (by omega)) (cwV 3 hts (nm_gV nm_508 nm_510 nm_s_M_dominatesIt nm_4 nm_c_M_dominatesIt) rfl rfl rfl (by decide +kernel) ⟨Nat.le_of_ble_eq_true rfl, Nat.le_of_ble_eq_true rfl⟩) ⟨cw_blind, va_recv hK hP (ci := 3) rfl (q0 := 0) rfl, cw_pre hP hK hNw⟩ rfl rfl hl.1 rfl (lv_room (Nat.le_of_ble_eq_true rfl)) d_M_dominates_20 ⟨Nat.zero_le _, Nat.zero_le _⟩)) (fun r27 hr28 => ?_)
      subst hr28
      refine wl_ifeqb (tgt := 30) hx hb d_M_dominates_23 (by decide) (fun hc23 => ?_) (fun hc23 => ?_)
      · refine lv_iconst (v := nI 0) hx hb d_M_dominates_30 (by decide) ?_
        exact W.zret (v := nI 0) hx hb hr (by decide) (fun t ht hW => ⟨⟨(nI 0), (rc16, eg17, so18, wi19, ew20, lo21, en22, le23, pi24, b25, k26), rfl, ⟨⟨fun _ => ⟨⟨k, hk_k, rfl⟩, ⟨j, hk_j, rfl⟩⟩, fun _ => hc13⟩, hG_1, fun _ => ⟨k, j, hk_k, hk_j, rfl, rfl, (bs_i_f ((md_dmv hn hr9 hx9 hG9 cv hk_k).symm.trans hc23)).symm⟩⟩, by rw [ht]; exact hP, hD⟩, hS.F ht⟩) hS.2.2 d_M_dominates_31
      · refine lv_iconst (v := nI 1) hx hb d_M_dominates_26 (by decide) ?_
        refine lv_goto (tgt := 31) hx hb d_M_dominates_27 (by decide) ?_
        exact W.zret (v := nI 1) hx hb hr (by decide) (fun t ht hW => ⟨⟨(nI 1), (rc16, eg17, so18, wi19, ew20, lo21, en22, le23, pi24, b25, k26), rfl, ⟨⟨fun _ => ⟨⟨k, hk_k, rfl⟩, ⟨j, hk_j, rfl⟩⟩, fun _ => hc13⟩, hG_1, fun _ => ⟨k, j, hk_k, hk_j, rfl, rfl, (bs_i_t (by rw [← md_dmv hn hr9 hx9 hG9 cv hk_k, hc23]; decide)).symm⟩⟩, by rw [ht]; exact hP, hD⟩, hS.F ht⟩) hS.2.2 d_M_dominates_31
set_option maxHeartbeats 4000000 in
set_option maxRecDepth 100000 in
theorem c_M_isBack (l : Launch) (dC : Nat → ClassId) (dI : Nat → Nat → Nat) (cJ cI : ClassId) (h3 k3 o3 w3 v3 p3 e3 f3 q3 hs : Nat) (cd : Int32) (ey : Int32) (ex : Int32) (rc : Int64) (eg : Int64) (li : Nat → Int64) (so : Nat → Int64) (wi : Nat → Int64) (ew : Nat → Int64) (lo : Nat → Int64) (en : Nat → Int32) (le : Nat → Int32) (pi : Nat → Int32) (n r x : Nat) (q : Bool) (u0 v0 : Int32)  (hn : n ≤ 48) (hz : 0 < n → ey = nI r ∧ ex = nI x ∧ r < n ∧ x < n) (hL : ∀ u v, gf_E n li u v → v < n) (hq : q = true → md_G n r x li rc eg so wi ew lo en le) : Met l y_M_isBack w_M_isBack ({ frames := 6, cells := 0, slots := 0, locals := 136 }) (va_Pc [.ref h3, .int u0, .int v0] (cw_M (dC, dI) cJ cI (md_ws cJ cI h3 k3 o3 w3 v3 p3 e3 f3 q3 cd (nI n) ey ex (bs_i q) rc eg li so wi ew lo en le pi) hs)) (va_Qi (fun (r9 : Int32) (u9 : Int64 × Int64 × (Nat → Int64) × (Nat → Int64) × (Nat → Int64) × (Nat → Int64) × (Nat → Int32) × (Nat → Int32) × (Nat → Int32) × Bool × Bool) => match u9 with | (rc9, eg9, so9, wi9, ew9, lo9, en9, le9, pi9, b, k9) => (b = true ↔ (∃ k, k < n ∧ u0 = nI k) ∧ ∃ j, j < n ∧ v0 = nI j) ∧ (k9 = true → md_G n r x li rc9 eg9 so9 wi9 ew9 lo9 en9 le9) ∧ (b = true → ∃ k j, k < n ∧ j < n ∧ u0 = nI k ∧ v0 = nI j ∧ r9 = bs_i (gf_d (sp_Bk n li r k j)))) (fun (u9 : Int64 × Int64 × (Nat → Int64) × (Nat → Int64) × (Nat → Int64) × (Nat → Int64) × (Nat → Int32) × (Nat → Int32) × (Nat → Int32) × Bool × Bool) (t : State) => match u9 with | (rc9, eg9, so9, wi9, ew9, lo9, en9, le9, pi9, b, k9) => va_P (dC, dI) vwCl (md_ws cJ cI h3 k3 o3 w3 v3 p3 e3 f3 q3 (bs_i (!b)) (nI n) ey ex (bs_i k9) rc9 eg9 li so9 wi9 ew9 lo9 en9 le9 pi9) t.heap ∧ va_D (va_A (md_ws cJ cI h3 k3 o3 w3 v3 p3 e3 f3 q3 cd (nI n) ey ex (bs_i q) rc eg li so wi ew lo en le pi) hs) (md_ws cJ cI h3 k3 o3 w3 v3 p3 e3 f3 q3 (bs_i (!b)) (nI n) ey ex (bs_i k9) rc9 eg9 li so9 wi9 ew9 lo9 en9 le9 pi9)) (va_A (md_ws cJ cI h3 k3 o3 w3 v3 p3 e3 f3 q3 cd (nI n) ey ex (bs_i q) rc eg li so wi ew lo en le pi) hs)) 0 0 (va_A (md_ws cJ cI h3 k3 o3 w3 v3 p3 e3 f3 q3 cd (nI n) ey ex (bs_i q) rc eg li so wi ew lo en le pi) hs) := by
  refine Met.ofW (cc := b_M_isBack) (maxL := 3) (ret := (some .boolean)) (by decide) rfl ?_
  intro p e s m args below meth c s₁ B hml hv9
  obtain ⟨rfl, hsz, ⟨hP, hK, hNw⟩, hD0⟩ := hv9
  have hx := B.exec
  have hb := B.bytes
  have hr := B.returns
  have hts := atoms_spec (ws := w_M_isBack) B.pre
  have hown : s.vm.findClass "FlowNestModel" = some m.cls := findClass_of_methodNamed B.named
  have hlocks := B.notSynchronized
  subst hsz
  have hD := hD0.self (sz := s.heap.size)
  generalize hAe : va_A (md_ws cJ cI h3 k3 o3 w3 v3 p3 e3 f3 q3 cd (nI n) ey ex (bs_i q) rc eg li so wi ew lo en le pi) s.heap.size = A at hD ⊢
  have hA : ∀ q : Nat, s.heap.size ≤ q → A q := fun q h => by rw [← hAe]; exact Or.inr h
  have hS : va_S A s.heap s.heap [] := va_S.rf
  have hP : va_P (dC, dI) vwCl (md_ws cJ cI h3 k3 o3 w3 v3 p3 e3 f3 q3 cd (nI n) ey ex (bs_i q) rc eg li so wi ew lo en le pi) s.heap := hP
  have hl := lv_entry ([.ref h3, .int u0, .int v0]) (n := 3) (Nat.le_of_ble_eq_true rfl)
  rw [lg_entry_eq]
  generalize (lg_sl ([.ref h3, .int u0, .int v0]) ++ List.replicate (3 - (lg_sl ([.ref h3, .int u0, .int v0])).length) Slot.unset).toArray = ls at hl ⊢
  have hl : lv_has ls 3 [(0, .ref h3), (1, .int u0), (2, .int v0)] := hl
  refine lv_aload_n hx hb d_M_isBack_0 rfl (lv_at hl 0 rfl) ?_
  refine lv_iload_n hx hb d_M_isBack_1 rfl (lv_at hl 1 rfl) ?_
  have hPc := hP.sub (ws' := md_ws cJ cI h3 k3 o3 w3 v3 p3 e3 f3 q3 cd (nI n) ey ex (bs_i q) rc eg li so wi ew lo en le pi) [0, 1, 2, 3, 4, 5, 6, 7, 8] rfl
  have hDc := hD.sub (ws' := md_ws cJ cI h3 k3 o3 w3 v3 p3 e3 f3 q3 cd (nI n) ey ex (bs_i q) rc eg li so wi ew lo en le pi) [0, 1, 2, 3, 4, 5, 6, 7, 8] (by decide) rfl
  have hFc := va_free (wc := md_ws cJ cI h3 k3 o3 w3 v3 p3 e3 f3 q3 cd (nI n) ey ex (bs_i q) rc eg li so wi ew lo en le pi) hD hS hA [0, 1, 2, 3, 4, 5, 6, 7, 8] rfl
  refine va_calli (va_runV (C := "FlowNestModel") (b := h3) (As := [.int u0]) (rest := []) ⟨hx, hb, hml, hown, hts⟩ (c_M_looks l dC dI cJ cI h3 k3 o3 w3 v3 p3 e3 f3 q3 s.heap.size cd ey ex rc eg li so wi ew lo en le pi n r x q u0 hn hz hL hq) (cwV 1 hts (nm_gV nm_488 nm_490 nm_s_M_looks nm_4 nm_c_M_looks) rfl rfl rfl (by decide +kernel) ⟨Nat.le_of_ble_eq_true rfl, Nat.le_of_ble_eq_true rfl⟩) ⟨cw_blindM, va_recv hK hP (ci := 3) rfl (q0 := 0) rfl, cw_preM hPc hDc hK hNw⟩ rfl rfl hl.1 rfl (lv_room (Nat.le_of_ble_eq_true rfl)) d_M_isBack_2 ⟨Nat.zero_le _, Nat.zero_le _⟩) hS (fun q _ h => hFc q h) hFc (fun r1 u9 t H1 locs ht hvm hw2 hB hz1 hk1 hS => ?_)
  obtain ⟨rc3, eg4, so5, wi6, ew7, lo8, en9, le10, pi11, b12, k13⟩ := u9
  obtain ⟨hP1, hD1⟩ := hB
  rw [ht] at hP1
  obtain ⟨hP, hD⟩ := va_join (wr := ([] : List Nat).filterMap (fun (i : Nat) => (md_ws cJ cI h3 k3 o3 w3 v3 p3 e3 f3 q3 cd (nI n) ey ex (bs_i q) rc eg li so wi ew lo en le pi)[i]?)) (w1 := md_ws cJ cI h3 k3 o3 w3 v3 p3 e3 f3 q3 (bs_i (!b12)) (nI n) ey ex (bs_i k13) rc3 eg4 li so5 wi6 ew7 lo8 en9 le10 pi11) hP hD [0, 1, 2, 3, 4, 5, 6, 7, 8] [] rfl rfl (by decide) (by decide) hk1 hFc hP1 hD1
  generalize H1 = H at hP hS ⊢
  have hP : va_P (dC, dI) vwCl (md_ws cJ cI h3 k3 o3 w3 v3 p3 e3 f3 q3 (bs_i (!b12)) (nI n) ey ex (bs_i k13) rc3 eg4 li so5 wi6 ew7 lo8 en9 le10 pi11) H := hP.sub (ws' := md_ws cJ cI h3 k3 o3 w3 v3 p3 e3 f3 q3 (bs_i (!b12)) (nI n) ey ex (bs_i k13) rc3 eg4 li so5 wi6 ew7 lo8 en9 le10 pi11) [0, 1, 2, 3, 4, 5, 6, 7, 8] rfl
  have hD : va_D A (md_ws cJ cI h3 k3 o3 w3 v3 p3 e3 f3 q3 (bs_i (!b12)) (nI n) ey ex (bs_i k13) rc3 eg4 li so5 wi6 ew7 lo8 en9 le10 pi11) := hD.sub (ws' := md_ws cJ cI h3 k3 o3 w3 v3 p3 e3 f3 q3 (bs_i (!b12)) (nI n) ey ex (bs_i k13) rc3 eg4 li so5 wi6 ew7 lo8 en9 le10 pi11) [0, 1, 2, 3, 4, 5, 6, 7, 8] (by decide) rfl
  obtain ⟨rfl, hb_0, hG_0, hk_0⟩ := hw2
  refine wl_ifeqb (tgt := 29) hx hb d_M_isBack_5 (by decide) (fun hc5 => ?_) (fun hc5 => ?_)
  · refine lv_iconst (v := nI 0) hx hb d_M_isBack_29 (by decide) ?_
    exact W.zret (v := nI 0) hx hb hr (by decide) (fun t ht hW => ⟨⟨(nI 0), (rc3, eg4, so5, wi6, ew7, lo8, en9, le10, pi11, b12, k13), rfl, ⟨⟨fun h => absurd h (by rw [hc5]; decide), fun h => hb_0.mpr h.1⟩, hG_0, fun h => absurd h (by rw [hc5]; decide)⟩, by rw [ht]; exact hP, hD⟩, hS.F ht⟩) hS.2.2 d_M_isBack_30
  · obtain ⟨k, hk_k, rfl⟩ := hb_0.mp hc5
    have hG9 := hG_0 (hk_0 hc5)
    obtain ⟨rfl, rfl, hr9, hx9⟩ := hz (by omega)
    have hP : va_P (dC, dI) vwCl (md_ws cJ cI h3 k3 o3 w3 v3 p3 e3 f3 q3 (bs_i (!b12)) (nI n) (nI r) (nI x) (bs_i k13) rc3 eg4 li so5 wi6 ew7 lo8 en9 le10 pi11) H := hP
    have hD : va_D A (md_ws cJ cI h3 k3 o3 w3 v3 p3 e3 f3 q3 (bs_i (!b12)) (nI n) (nI r) (nI x) (bs_i k13) rc3 eg4 li so5 wi6 ew7 lo8 en9 le10 pi11) := hD
    refine lv_aload_n hx hb d_M_isBack_8 rfl (lv_at hl 0 rfl) ?_
    refine lv_iload_n hx hb d_M_isBack_9 rfl (lv_at hl 2 rfl) ?_
    have hPc := hP.sub (ws' := md_ws cJ cI h3 k3 o3 w3 v3 p3 e3 f3 q3 (bs_i (!b12)) (nI n) (nI r) (nI x) (bs_i k13) rc3 eg4 li so5 wi6 ew7 lo8 en9 le10 pi11) [0, 1, 2, 3, 4, 5, 6, 7, 8] rfl
    have hDc := hD.sub (ws' := md_ws cJ cI h3 k3 o3 w3 v3 p3 e3 f3 q3 (bs_i (!b12)) (nI n) (nI r) (nI x) (bs_i k13) rc3 eg4 li so5 wi6 ew7 lo8 en9 le10 pi11) [0, 1, 2, 3, 4, 5, 6, 7, 8] (by decide) rfl
    have hFc := va_free (wc := md_ws cJ cI h3 k3 o3 w3 v3 p3 e3 f3 q3 (bs_i (!b12)) (nI n) (nI r) (nI x) (bs_i k13) rc3 eg4 li so5 wi6 ew7 lo8 en9 le10 pi11) hD hS hA [0, 1, 2, 3, 4, 5, 6, 7, 8] rfl
    refine va_calli (va_runV (C := "FlowNestModel") (b := h3) (As := [.int v0]) (rest := []) ⟨hx, hb, hml, hown, hts⟩ (c_M_looks l dC dI cJ cI h3 k3 o3 w3 v3 p3 e3 f3 q3 H.size (bs_i (!b12)) (nI r) (nI x) rc3 eg4 li so5 wi6 ew7 lo8 en9 le10 pi11 n r x k13 v0 hn hz hL hG_0) (cwV 1 hts (nm_gV nm_488 nm_490 nm_s_M_looks nm_4 nm_c_M_looks) rfl rfl rfl (by decide +kernel) ⟨Nat.le_of_ble_eq_true rfl, Nat.le_of_ble_eq_true rfl⟩) ⟨cw_blindM, va_recv hK hP (ci := 3) rfl (q0 := 0) rfl, cw_preM hPc hDc hK hNw⟩ rfl rfl hl.1 rfl (lv_room (Nat.le_of_ble_eq_true rfl)) d_M_isBack_10 ⟨Nat.zero_le _, Nat.zero_le _⟩) hS (fun q _ h => hFc q h) hFc (fun r14 u9 t H1 locs ht hvm hw15 hB hz1 hk1 hS => ?_)
    obtain ⟨rc16, eg17, so18, wi19, ew20, lo21, en22, le23, pi24, b25, k26⟩ := u9
    obtain ⟨hP1, hD1⟩ := hB
    rw [ht] at hP1
    obtain ⟨hP, hD⟩ := va_join (wr := ([] : List Nat).filterMap (fun (i : Nat) => (md_ws cJ cI h3 k3 o3 w3 v3 p3 e3 f3 q3 (bs_i (!b12)) (nI n) (nI r) (nI x) (bs_i k13) rc3 eg4 li so5 wi6 ew7 lo8 en9 le10 pi11)[i]?)) (w1 := md_ws cJ cI h3 k3 o3 w3 v3 p3 e3 f3 q3 (bs_i (!b25)) (nI n) (nI r) (nI x) (bs_i k26) rc16 eg17 li so18 wi19 ew20 lo21 en22 le23 pi24) hP hD [0, 1, 2, 3, 4, 5, 6, 7, 8] [] rfl rfl (by decide) (by decide) hk1 hFc hP1 hD1
    generalize H1 = H at hP hS ⊢
    have hP : va_P (dC, dI) vwCl (md_ws cJ cI h3 k3 o3 w3 v3 p3 e3 f3 q3 (bs_i (!b25)) (nI n) (nI r) (nI x) (bs_i k26) rc16 eg17 li so18 wi19 ew20 lo21 en22 le23 pi24) H := hP.sub (ws' := md_ws cJ cI h3 k3 o3 w3 v3 p3 e3 f3 q3 (bs_i (!b25)) (nI n) (nI r) (nI x) (bs_i k26) rc16 eg17 li so18 wi19 ew20 lo21 en22 le23 pi24) [0, 1, 2, 3, 4, 5, 6, 7, 8] rfl
    have hD : va_D A (md_ws cJ cI h3 k3 o3 w3 v3 p3 e3 f3 q3 (bs_i (!b25)) (nI n) (nI r) (nI x) (bs_i k26) rc16 eg17 li so18 wi19 ew20 lo21 en22 le23 pi24) := hD.sub (ws' := md_ws cJ cI h3 k3 o3 w3 v3 p3 e3 f3 q3 (bs_i (!b25)) (nI n) (nI r) (nI x) (bs_i k26) rc16 eg17 li so18 wi19 ew20 lo21 en22 le23 pi24) [0, 1, 2, 3, 4, 5, 6, 7, 8] (by decide) rfl
    obtain ⟨rfl, hb_1, hG_1, hk_1⟩ := hw15
    refine wl_ifeqb (tgt := 29) hx hb d_M_isBack_13 (by decide) (fun hc13 => ?_) (fun hc13 => ?_)
    · refine lv_iconst (v := nI 0) hx hb d_M_isBack_29 (by decide) ?_
      exact W.zret (v := nI 0) hx hb hr (by decide) (fun t ht hW => ⟨⟨(nI 0), (rc16, eg17, so18, wi19, ew20, lo21, en22, le23, pi24, b25, k26), rfl, ⟨⟨fun h => absurd h (by rw [hc13]; decide), fun h => hb_1.mpr h.2⟩, hG_1, fun h => absurd h (by rw [hc13]; decide)⟩, by rw [ht]; exact hP, hD⟩, hS.F ht⟩) hS.2.2 d_M_isBack_30
    · obtain ⟨j, hk_j, rfl⟩ := hb_1.mp hc13
      have hG9 := hG_1 (hk_1 hc13)
      refine lv_aload_n hx hb d_M_isBack_16 rfl (lv_at hl 0 rfl) ?_
      refine lv_iload_n hx hb d_M_isBack_17 rfl (lv_at hl 1 rfl) ?_
      refine lv_iload_n hx hb d_M_isBack_18 rfl (lv_at hl 2 rfl) ?_
      refine vp_callSi (va_Run.run (va_runV (C := "FlowNestModel") (b := h3) (As := [.int (nI k), .int (nI j)]) (rest := []) ⟨hx, hb, hml, hown, hts⟩ (c_M_goesBack l dC dI cJ cI h3 k3 o3 w3 v3 p3 e3 f3 q3 (bs_i (!b25)) (nI n) (nI r) (nI x) (bs_i k26) rc16 eg17 li so18 wi19 ew20 lo21 en22 le23 pi24 k j (by omega) (by omega)) (cwV 2 hts (nm_gV nm_504 nm_506 nm_s_M_goesBack nm_4 nm_c_M_goesBack) rfl rfl rfl (by decide +kernel) ⟨Nat.le_of_ble_eq_true rfl, Nat.le_of_ble_eq_true rfl⟩) ⟨cw_blind, va_recv hK hP (ci := 3) rfl (q0 := 0) rfl, cw_pre hP hK hNw⟩ rfl rfl hl.1 rfl (lv_room (Nat.le_of_ble_eq_true rfl)) d_M_isBack_19 ⟨Nat.zero_le _, Nat.zero_le _⟩)) (fun r27 hr28 => ?_)
      subst hr28
      refine wl_ifeqb (tgt := 29) hx hb d_M_isBack_22 (by decide) (fun hc22 => ?_) (fun hc22 => ?_)
      · refine lv_iconst (v := nI 0) hx hb d_M_isBack_29 (by decide) ?_
        exact W.zret (v := nI 0) hx hb hr (by decide) (fun t ht hW => ⟨⟨(nI 0), (rc16, eg17, so18, wi19, ew20, lo21, en22, le23, pi24, b25, k26), rfl, ⟨⟨fun _ => ⟨⟨k, hk_k, rfl⟩, ⟨j, hk_j, rfl⟩⟩, fun _ => hc13⟩, hG_1, fun _ => ⟨k, j, hk_k, hk_j, rfl, rfl, (bs_i_f ((md_gb_eq (by omega) hr9 hG9.2.1 hG9.2.2.2.1 hk_k hk_j).symm.trans hc22)).symm⟩⟩, by rw [ht]; exact hP, hD⟩, hS.F ht⟩) hS.2.2 d_M_isBack_30
      · refine lv_iconst (v := nI 1) hx hb d_M_isBack_25 (by decide) ?_
        refine lv_goto (tgt := 30) hx hb d_M_isBack_26 (by decide) ?_
        exact W.zret (v := nI 1) hx hb hr (by decide) (fun t ht hW => ⟨⟨(nI 1), (rc16, eg17, so18, wi19, ew20, lo21, en22, le23, pi24, b25, k26), rfl, ⟨⟨fun _ => ⟨⟨k, hk_k, rfl⟩, ⟨j, hk_j, rfl⟩⟩, fun _ => hc13⟩, hG_1, fun _ => ⟨k, j, hk_k, hk_j, rfl, rfl, (bs_i_t (by rw [← md_gb_eq (by omega) hr9 hG9.2.1 hG9.2.2.2.1 hk_k hk_j, hc22]; decide)).symm⟩⟩, by rw [ht]; exact hP, hD⟩, hS.F ht⟩) hS.2.2 d_M_isBack_30
set_option maxHeartbeats 4000000 in
set_option maxRecDepth 100000 in
theorem c_M_spread (l : Launch) (dC : Nat → ClassId) (dI : Nat → Nat → Nat) (cJ cI : ClassId) (h3 k3 o3 w3 v3 p3 e3 f3 q3 hs : Nat) (cd : Int32) (ey : Int32) (ex : Int32) (rc : Int64) (eg : Int64) (li : Nat → Int64) (so : Nat → Int64) (wi : Nat → Int64) (ew : Nat → Int64) (lo : Nat → Int64) (en : Nat → Int32) (le : Nat → Int32) (pi : Nat → Int32) (n r x : Nat) (q : Bool) (S : Int64) (hn : n ≤ 48) (hz : 0 < n → ey = nI r ∧ ex = nI x ∧ r < n ∧ x < n) (hL : ∀ u v, gf_E n li u v → v < n) (hq : q = true → md_G n r x li rc eg so wi ew lo en le) : Met l y_M_spread w_M_spread ({ frames := 5, cells := 0, slots := 0, locals := 115 }) (va_Pc [.ref h3, .long S] (cw_M (dC, dI) cJ cI (md_ws cJ cI h3 k3 o3 w3 v3 p3 e3 f3 q3 cd (nI n) ey ex (bs_i q) rc eg li so wi ew lo en le pi) hs)) (va_Ql (fun (r9 : Int64) (u9 : Int64 × Int64 × (Nat → Int64) × (Nat → Int64) × (Nat → Int64) × (Nat → Int64) × (Nat → Int32) × (Nat → Int32) × (Nat → Int32) × Bool) => match u9 with | (rc9, eg9, so9, wi9, ew9, lo9, en9, le9, pi9, k9) => (k9 = true → md_G n r x li rc9 eg9 so9 wi9 ew9 lo9 en9 le9) ∧ (n = 0 → r9 = 0) ∧ (0 < n → r9 = sp_sp n li r S)) (fun (u9 : Int64 × Int64 × (Nat → Int64) × (Nat → Int64) × (Nat → Int64) × (Nat → Int64) × (Nat → Int32) × (Nat → Int32) × (Nat → Int32) × Bool) (t : State) => match u9 with | (rc9, eg9, so9, wi9, ew9, lo9, en9, le9, pi9, k9) => va_P (dC, dI) vwCl (md_ws cJ cI h3 k3 o3 w3 v3 p3 e3 f3 q3 (nI 0) (nI n) ey ex (bs_i k9) rc9 eg9 li so9 wi9 ew9 lo9 en9 le9 pi9) t.heap ∧ va_D (va_A (md_ws cJ cI h3 k3 o3 w3 v3 p3 e3 f3 q3 cd (nI n) ey ex (bs_i q) rc eg li so wi ew lo en le pi) hs) (md_ws cJ cI h3 k3 o3 w3 v3 p3 e3 f3 q3 (nI 0) (nI n) ey ex (bs_i k9) rc9 eg9 li so9 wi9 ew9 lo9 en9 le9 pi9)) (va_A (md_ws cJ cI h3 k3 o3 w3 v3 p3 e3 f3 q3 cd (nI n) ey ex (bs_i q) rc eg li so wi ew lo en le pi) hs)) 0 0 (va_A (md_ws cJ cI h3 k3 o3 w3 v3 p3 e3 f3 q3 cd (nI n) ey ex (bs_i q) rc eg li so wi ew lo en le pi) hs) := by
  refine Met.ofW (cc := b_M_spread) (maxL := 8) (ret := (some .long)) (by decide) rfl ?_
  intro p e s m args below meth c s₁ B hml hv9
  obtain ⟨rfl, hsz, ⟨hP, hK, hNw⟩, hD0⟩ := hv9
  have hx := B.exec
  have hb := B.bytes
  have hr := B.returns
  have hts := atoms_spec (ws := w_M_spread) B.pre
  have hown : s.vm.findClass "FlowNestModel" = some m.cls := findClass_of_methodNamed B.named
  have hlocks := B.notSynchronized
  subst hsz
  have hD := hD0.self (sz := s.heap.size)
  generalize hAe : va_A (md_ws cJ cI h3 k3 o3 w3 v3 p3 e3 f3 q3 cd (nI n) ey ex (bs_i q) rc eg li so wi ew lo en le pi) s.heap.size = A at hD ⊢
  have hA : ∀ q : Nat, s.heap.size ≤ q → A q := fun q h => by rw [← hAe]; exact Or.inr h
  have hS : va_S A s.heap s.heap [] := va_S.rf
  have hP : va_P (dC, dI) vwCl (md_ws cJ cI h3 k3 o3 w3 v3 p3 e3 f3 q3 cd (nI n) ey ex (bs_i q) rc eg li so wi ew lo en le pi) s.heap := hP
  have hl := lv_entry ([.ref h3, .long S]) (n := 8) (Nat.le_of_ble_eq_true rfl)
  rw [lg_entry_eq]
  generalize (lg_sl ([.ref h3, .long S]) ++ List.replicate (8 - (lg_sl ([.ref h3, .long S])).length) Slot.unset).toArray = ls at hl ⊢
  have hl : lv_has ls 8 [(0, .ref h3), (1, .long S)] := hl
  refine lv_aload_n hx hb d_M_spread_0 rfl (lv_at hl 0 rfl) ?_
  refine lv_iconst (v := nI 0) hx hb d_M_spread_1 (by decide) ?_
  refine va_put (D := (dC, dI)) (ci := 3) (v := .int (nI 0)) (ty := .int) (C := "FlowNestModel") (T := T_M) (N := 15) hx hb hts nm_iM t_M t_M_ok nm_M hown hK hP hD hS 0 rfl rfl 0 (by decide) (hts _ (List.mem_cons_of_mem _ nm_414)) (fun _ h9 => h9) rfl (by decide +kernel) (by rfl) (by rfl) (Nat.le_of_ble_eq_true rfl) d_M_spread_2 (fun H locs hP hD hS => ?_)
  have hP : va_P (dC, dI) vwCl (md_ws cJ cI h3 k3 o3 w3 v3 p3 e3 f3 q3 (nI 0) (nI n) ey ex (bs_i q) rc eg li so wi ew lo en le pi) H := hP
  have hD : va_D A (md_ws cJ cI h3 k3 o3 w3 v3 p3 e3 f3 q3 (nI 0) (nI n) ey ex (bs_i q) rc eg li so wi ew lo en le pi) := hD
  refine lv_aload_n hx hb d_M_spread_5 rfl (lv_at hl 0 rfl) ?_
  refine va_get (D := (dC, dI)) (ci := 3) (v := .int (nI n)) (C := "FlowNestModel") (T := T_M) (N := 15) hx hb hts nm_iM hown hK hP 0 rfl rfl 1 (by decide) (hts _ (List.mem_cons_of_mem _ nm_415)) (fun _ h9 => h9) rfl d_M_spread_6 ?_
  refine wl_ifnen (tgt := 14) hx hb (by omega) d_M_spread_9 (by decide) (fun hc9 => ?_) (fun hc9 => ?_)
  · obtain ⟨rfl, rfl, hr9, hx9⟩ := hz (by omega)
    have hP : va_P (dC, dI) vwCl (md_ws cJ cI h3 k3 o3 w3 v3 p3 e3 f3 q3 (nI 0) (nI n) (nI r) (nI x) (bs_i q) rc eg li so wi ew lo en le pi) H := hP
    have hD : va_D A (md_ws cJ cI h3 k3 o3 w3 v3 p3 e3 f3 q3 (nI 0) (nI n) (nI r) (nI x) (bs_i q) rc eg li so wi ew lo en le pi) := hD
    refine lv_aload_n hx hb d_M_spread_14 rfl (lv_at hl 0 rfl) ?_
    have hPc := hP.sub (ws' := md_ws cJ cI h3 k3 o3 w3 v3 p3 e3 f3 q3 (nI 0) (nI n) (nI r) (nI x) (bs_i q) rc eg li so wi ew lo en le pi) [0, 1, 2, 3, 4, 5, 6, 7, 8] rfl
    have hDc := hD.sub (ws' := md_ws cJ cI h3 k3 o3 w3 v3 p3 e3 f3 q3 (nI 0) (nI n) (nI r) (nI x) (bs_i q) rc eg li so wi ew lo en le pi) [0, 1, 2, 3, 4, 5, 6, 7, 8] (by decide) rfl
    have hFc := va_free (wc := md_ws cJ cI h3 k3 o3 w3 v3 p3 e3 f3 q3 (nI 0) (nI n) (nI r) (nI x) (bs_i q) rc eg li so wi ew lo en le pi) hD hS hA [0, 1, 2, 3, 4, 5, 6, 7, 8] rfl
    refine va_callv (va_runV (C := "FlowNestModel") (b := h3) (As := []) (rest := []) ⟨hx, hb, hml, hown, hts⟩ (c_M_learn l dC dI cJ cI h3 k3 o3 w3 v3 p3 e3 f3 q3 H.size (nI 0) rc eg li so wi ew lo en le pi n r x q hn hr9 hx9 hL hq) (cwV 0 hts (nm_gV nm_492 nm_494 nm_s_M_learn nm_4 nm_c_M_learn) rfl rfl rfl (by decide +kernel) ⟨Nat.le_of_ble_eq_true rfl, Nat.le_of_ble_eq_true rfl⟩) ⟨cw_blindM, va_recv hK hP (ci := 3) rfl (q0 := 0) rfl, cw_preM hPc hDc hK hNw⟩ rfl rfl hl.1 rfl (lv_room (Nat.le_of_ble_eq_true rfl)) d_M_spread_15 ⟨Nat.zero_le _, Nat.zero_le _⟩) hS (fun q _ h => hFc q h) hFc (fun u9 t H1 locs ht hvm hw2 hB hz1 hk1 hS => ?_)
    obtain ⟨rc3, eg4, so5, wi6, ew7, lo8, en9, le10, pi11⟩ := u9
    obtain ⟨hP1, hD1⟩ := hB
    rw [ht] at hP1
    obtain ⟨hP, hD⟩ := va_join (wr := ([] : List Nat).filterMap (fun (i : Nat) => (md_ws cJ cI h3 k3 o3 w3 v3 p3 e3 f3 q3 (nI 0) (nI n) (nI r) (nI x) (bs_i q) rc eg li so wi ew lo en le pi)[i]?)) (w1 := md_ws cJ cI h3 k3 o3 w3 v3 p3 e3 f3 q3 (nI 0) (nI n) (nI r) (nI x) (nI 1) rc3 eg4 li so5 wi6 ew7 lo8 en9 le10 pi11) hP hD [0, 1, 2, 3, 4, 5, 6, 7, 8] [] rfl rfl (by decide) (by decide) hk1 hFc hP1 hD1
    generalize H1 = H at hP hS ⊢
    have hP : va_P (dC, dI) vwCl (md_ws cJ cI h3 k3 o3 w3 v3 p3 e3 f3 q3 (nI 0) (nI n) (nI r) (nI x) (nI 1) rc3 eg4 li so5 wi6 ew7 lo8 en9 le10 pi11) H := hP.sub (ws' := md_ws cJ cI h3 k3 o3 w3 v3 p3 e3 f3 q3 (nI 0) (nI n) (nI r) (nI x) (nI 1) rc3 eg4 li so5 wi6 ew7 lo8 en9 le10 pi11) [0, 1, 2, 3, 4, 5, 6, 7, 8] rfl
    have hD : va_D A (md_ws cJ cI h3 k3 o3 w3 v3 p3 e3 f3 q3 (nI 0) (nI n) (nI r) (nI x) (nI 1) rc3 eg4 li so5 wi6 ew7 lo8 en9 le10 pi11) := hD.sub (ws' := md_ws cJ cI h3 k3 o3 w3 v3 p3 e3 f3 q3 (nI 0) (nI n) (nI r) (nI x) (nI 1) rc3 eg4 li so5 wi6 ew7 lo8 en9 le10 pi11) [0, 1, 2, 3, 4, 5, 6, 7, 8] (by decide) rfl
    have hd := fun (u w : Nat) (hu : u < n) (_ : w < n) => md_dm_eq (v := w) (show n ≤ 64 by omega) hr9 hw2.2.1 hw2.2.2.2.1 hu
    refine lv_lconst (v := 0) hx hb d_M_spread_18 (by decide) ?_
    refine lv_lstore_n (lv' := [(3, .long 0), (0, .ref h3), (1, .long S)]) hx hb d_M_spread_19 rfl hl (by decide) rfl (fun ls hl => ?_)
    refine lv_ldc2 (v := -1) hx hb hown (hts _ (List.mem_cons_of_mem _ nm_479)) d_M_spread_20 ?_
    refine lv_lstore (lv' := [(5, .long (-1)), (3, .long 0), (0, .ref h3), (1, .long S)]) hx hb d_M_spread_23 hl (by decide) rfl (fun ls hl => ?_)
    refine wl_loop (σ := Int64 × Int64) (dC, dI) vwCl A 25 8 (fun (x0z : Int64 × Int64) => match x0z with | (all, old) => [(0, .ref h3), (1, .long S), (3, .long all), (5, .long old)]) (fun (x0z : Int64 × Int64) => match x0z with | (all, old) => md_ws cJ cI h3 k3 o3 w3 v3 p3 e3 f3 q3 (nI 0) (nI n) (nI r) (nI x) (nI 1) rc3 eg4 li so5 wi6 ew7 lo8 en9 le10 pi11) (fun (x0z : Int64 × Int64) => match x0z with | (all, old) => md_S n li r S all old) (fun (x0z : Int64 × Int64) => match x0z with | (all, old) => md_Sm old) ?_ (0, (-1)) (md_S0 n li r S) hP hD hS (lv_sub hl [2, 3, 1, 0] rfl)
    intro x0z hI ih H locs ls hP hD hS hl
    obtain ⟨all, old⟩ := x0z
    have hI : md_S n li r S all old := hI
    have hP : va_P (dC, dI) vwCl (md_ws cJ cI h3 k3 o3 w3 v3 p3 e3 f3 q3 (nI 0) (nI n) (nI r) (nI x) (nI 1) rc3 eg4 li so5 wi6 ew7 lo8 en9 le10 pi11) H := hP
    have hD : va_D A (md_ws cJ cI h3 k3 o3 w3 v3 p3 e3 f3 q3 (nI 0) (nI n) (nI r) (nI x) (nI 1) rc3 eg4 li so5 wi6 ew7 lo8 en9 le10 pi11) := hD
    have hl : lv_has ls 8 [(0, .ref h3), (1, .long S), (3, .long all), (5, .long old)] := hl
    have hIo := hI
    have iho := ih
    refine lv_lload_n hx hb d_M_spread_25 rfl (lv_at hl 2 rfl) ?_
    refine lv_lload hx hb d_M_spread_26 (lv_at hl 3 rfl) ?_
    refine wl_lcmpeq (tgt := 81) hx hb d_M_spread_28 d_M_spread_29 (by decide) (fun hc28 => ?_) (fun hc28 => ?_)
    · refine lv_lload_n hx hb d_M_spread_81 rfl (lv_at hl 2 rfl) ?_
      exact W.lret (v := all) hx hb hr (fun t ht hW => ⟨⟨all, (rc3, eg4, so5, wi6, ew7, lo8, en9, le10, pi11, true), rfl, ⟨fun _ => hw2, ⟨fun h => absurd h (by omega), fun _ => md_Se hL hr9 (by omega) (by have h9 := hI; rw [← hc28] at h9; exact h9)⟩⟩, by rw [ht]; exact hP, hD⟩, hS.F ht⟩) hS.2.2 d_M_spread_82
    · refine lv_lload_n hx hb d_M_spread_32 rfl (lv_at hl 2 rfl) ?_
      refine lv_lstore (lv' := [(5, .long all), (0, .ref h3), (1, .long S), (3, .long all)]) hx hb d_M_spread_33 hl (by decide) rfl (fun ls hl => ?_)
      refine lv_iconst (v := nI 0) hx hb d_M_spread_35 (by decide) ?_
      refine lv_istore (lv' := [(7, .int (nI 0)), (5, .long all), (0, .ref h3), (1, .long S), (3, .long all)]) hx hb d_M_spread_36 hl (by decide) rfl (fun ls hl => ?_)
      refine wl_loop (σ := Nat) (dC, dI) vwCl A 38 8 (fun (v : Nat) => [(0, .ref h3), (1, .long S), (3, .long (md_or (sp_fr n li r) (S ||| all) all v)), (5, .long all), (7, .int (nI v))]) (fun (v : Nat) => md_ws cJ cI h3 k3 o3 w3 v3 p3 e3 f3 q3 (nI 0) (nI n) (nI r) (nI x) (nI 1) rc3 eg4 li so5 wi6 ew7 lo8 en9 le10 pi11) (fun (v : Nat) => v ≤ n) (fun (v : Nat) => n - v) ?_ 0 (Nat.zero_le n) hP hD hS (lv_sub hl [2, 3, 4, 1, 0] rfl)
      intro v hI ih H locs ls hP hD hS hl
      have hI : v ≤ n := hI
      have hP : va_P (dC, dI) vwCl (md_ws cJ cI h3 k3 o3 w3 v3 p3 e3 f3 q3 (nI 0) (nI n) (nI r) (nI x) (nI 1) rc3 eg4 li so5 wi6 ew7 lo8 en9 le10 pi11) H := hP
      have hD : va_D A (md_ws cJ cI h3 k3 o3 w3 v3 p3 e3 f3 q3 (nI 0) (nI n) (nI r) (nI x) (nI 1) rc3 eg4 li so5 wi6 ew7 lo8 en9 le10 pi11) := hD
      have hl : lv_has ls 8 [(0, .ref h3), (1, .long S), (3, .long (md_or (sp_fr n li r) (S ||| all) all v)), (5, .long all), (7, .int (nI v))] := hl
      refine lv_iload hx hb d_M_spread_38 (lv_at hl 4 rfl) ?_
      refine lv_aload_n hx hb d_M_spread_40 rfl (lv_at hl 0 rfl) ?_
      refine va_get (D := (dC, dI)) (ci := 3) (v := .int (nI n)) (C := "FlowNestModel") (T := T_M) (N := 15) hx hb hts nm_iM hown hK hP 0 rfl rfl 1 (by decide) (hts _ (List.mem_cons_of_mem _ nm_415)) (fun _ h9 => h9) rfl d_M_spread_41 ?_
      refine wl_ige (tgt := 78) hx hb (by omega) (by omega) d_M_spread_44 (by decide) (fun hc44 => ?_) (fun hc44 => ?_)
      · refine lv_goto (tgt := 25) hx hb d_M_spread_78 (by decide) ?_
        rw [show v = n by omega] at hl
        exact iho ((md_or (sp_fr n li r) (S ||| all) all n), all) (md_Ss hL hIo) (md_Smm (by omega) hIo hc28) _ _ _ hP hD hS (lv_sub hl [0, 1, 2, 3] rfl)
      · refine lv_lload_n hx hb d_M_spread_47 rfl (lv_at hl 2 rfl) ?_
        refine lv_lload_n hx hb d_M_spread_48 rfl (lv_at hl 1 rfl) ?_
        refine lv_lload hx hb d_M_spread_49 (lv_at hl 3 rfl) ?_
        refine lv_lor hx hb d_M_spread_51 ?_
        refine lv_iload hx hb d_M_spread_52 (lv_at hl 4 rfl) ?_
        refine vp_callSi (va_Run.run (va_runS (As := [.long (S ||| all), .int (nI v)]) (rest := [.long (md_or (sp_fr n li r) (S ||| all) all v)]) ⟨hx, hb, hml, hown, hts⟩ (c_M_has l (S ||| all) v (by omega)) (va_cwS 2 hts (nm_gS nm_476 nm_477 nm_4 nm_c_M_has) rfl rfl rfl (by decide +kernel) ⟨Nat.le_of_ble_eq_true rfl, Nat.le_of_ble_eq_true rfl⟩) ⟨fun _ _ _ _ q => ⟨q.1, trivial⟩, fun U hU hW => ⟨rfl, trivial⟩⟩ rfl rfl hl.1 rfl (lv_room (Nat.le_of_ble_eq_true rfl)) d_M_spread_54 ⟨Nat.zero_le _, Nat.zero_le _⟩)) (fun r hr => ?_)
        subst hr
        refine wl_ifeqb (tgt := 69) hx hb d_M_spread_57 (by decide) (fun hc57 => ?_) (fun hc57 => ?_)
        · refine lv_lconst (v := 0) hx hb d_M_spread_69 (by decide) ?_
          refine lv_lor hx hb d_M_spread_70 ?_
          refine lv_lstore_n (lv' := [(3, .long ((md_or (sp_fr n li r) (S ||| all) all v) ||| 0)), (0, .ref h3), (1, .long S), (5, .long all), (7, .int (nI v))]) hx hb d_M_spread_71 rfl hl (by decide) rfl (fun ls hl => ?_)
          refine lv_iinc (lv' := [(7, .int (nI (v + 1))), (3, .long ((md_or (sp_fr n li r) (S ||| all) all v) ||| 0)), (0, .ref h3), (1, .long S), (5, .long all)]) (k := 4) (v := nI (v + 1)) hx hb d_M_spread_72 hl rfl (nI_1 v) (by decide) rfl (fun ls hl => ?_)
          refine lv_goto (tgt := 38) hx hb d_M_spread_75 (by decide) ?_
          rw [bs_or0, show md_or (sp_fr n li r) (S ||| all) all v = md_or (sp_fr n li r) (S ||| all) all (v + 1) from (if_neg (Bool.eq_false_iff.mp hc57)).symm] at hl
          exact ih (v + 1) (show v + 1 ≤ n by omega) (show n - (v + 1) < n - v by omega) _ _ _ hP hD hS (lv_sub hl [2, 3, 1, 4, 0] rfl)
        · refine lv_aload_n hx hb d_M_spread_60 rfl (lv_at hl 0 rfl) ?_
          refine lv_iload hx hb d_M_spread_61 (lv_at hl 4 rfl) ?_
          refine vp_callSl (va_Run.run (va_runV (C := "FlowNestModel") (b := h3) (As := [.int (nI v)]) (rest := [.long (md_or (sp_fr n li r) (S ||| all) all v)]) ⟨hx, hb, hml, hown, hts⟩ (c_M_frontierOf l dC dI cJ cI h3 k3 o3 w3 v3 p3 e3 f3 q3 (nI 0) (nI r) (nI x) (nI 1) rc3 eg4 li so5 wi6 ew7 lo8 en9 le10 pi11 n r v hn (by omega) hL hd) (cwV 1 hts (nm_gV nm_536 nm_538 nm_s_M_frontierOf nm_4 nm_c_M_frontierOf) rfl rfl rfl (by decide +kernel) ⟨Nat.le_of_ble_eq_true rfl, Nat.le_of_ble_eq_true rfl⟩) ⟨cw_blind, va_recv hK hP (ci := 3) rfl (q0 := 0) rfl, cw_pre hP hK hNw⟩ rfl rfl hl.1 rfl (lv_room (Nat.le_of_ble_eq_true rfl)) d_M_spread_63 ⟨Nat.zero_le _, Nat.zero_le _⟩)) (fun r12 hr13 => ?_)
          subst hr13
          refine lv_goto (tgt := 70) hx hb d_M_spread_66 (by decide) ?_
          refine lv_lor hx hb d_M_spread_70 ?_
          refine lv_lstore_n (lv' := [(3, .long ((md_or (sp_fr n li r) (S ||| all) all v) ||| (sp_fr n li r v))), (0, .ref h3), (1, .long S), (5, .long all), (7, .int (nI v))]) hx hb d_M_spread_71 rfl hl (by decide) rfl (fun ls hl => ?_)
          refine lv_iinc (lv' := [(7, .int (nI (v + 1))), (3, .long ((md_or (sp_fr n li r) (S ||| all) all v) ||| (sp_fr n li r v))), (0, .ref h3), (1, .long S), (5, .long all)]) (k := 4) (v := nI (v + 1)) hx hb d_M_spread_72 hl rfl (nI_1 v) (by decide) rfl (fun ls hl => ?_)
          refine lv_goto (tgt := 38) hx hb d_M_spread_75 (by decide) ?_
          rw [show md_or (sp_fr n li r) (S ||| all) all v ||| sp_fr n li r v = md_or (sp_fr n li r) (S ||| all) all (v + 1) from (if_pos hc57).symm] at hl
          exact ih (v + 1) (show v + 1 ≤ n by omega) (show n - (v + 1) < n - v by omega) _ _ _ hP hD hS (lv_sub hl [2, 3, 1, 4, 0] rfl)
  · refine lv_lconst (v := 0) hx hb d_M_spread_12 (by decide) ?_
    exact W.lret (v := 0) hx hb hr (fun t ht hW => ⟨⟨0, (rc, eg, so, wi, ew, lo, en, le, pi, q), rfl, ⟨hq, ⟨fun _ => rfl, fun h => absurd h (by omega)⟩⟩, by rw [ht]; exact hP, hD⟩, hS.F ht⟩) hS.2.2 d_M_spread_13
set_option maxHeartbeats 4000000 in
set_option maxRecDepth 100000 in
theorem c_M_loops (l : Launch) (dC : Nat → ClassId) (dI : Nat → Nat → Nat) (cJ cI : ClassId) (h3 k3 o3 w3 v3 p3 e3 f3 q3 hs : Nat) (cd : Int32) (ey : Int32) (ex : Int32) (rc : Int64) (eg : Int64) (li : Nat → Int64) (so : Nat → Int64) (wi : Nat → Int64) (ew : Nat → Int64) (lo : Nat → Int64) (en : Nat → Int32) (le : Nat → Int32) (pi : Nat → Int32) (n r x : Nat) (q : Bool)  (hn : n ≤ 48) (hz : 0 < n → ey = nI r ∧ ex = nI x ∧ r < n ∧ x < n) (hL : ∀ u v, gf_E n li u v → v < n) (hq : q = true → md_G n r x li rc eg so wi ew lo en le) : Met l y_M_loops w_M_loops ({ frames := 5, cells := 0, slots := 0, locals := 115 }) (va_Pc [.ref h3] (cw_M (dC, dI) cJ cI (md_ws cJ cI h3 k3 o3 w3 v3 p3 e3 f3 q3 cd (nI n) ey ex (bs_i q) rc eg li so wi ew lo en le pi) hs)) (va_Qi (fun (r9 : Int32) (u9 : Int64 × Int64 × (Nat → Int64) × (Nat → Int64) × (Nat → Int64) × (Nat → Int64) × (Nat → Int32) × (Nat → Int32) × (Nat → Int32) × Bool) => match u9 with | (rc9, eg9, so9, wi9, ew9, lo9, en9, le9, pi9, k9) => (k9 = true → md_G n r x li rc9 eg9 so9 wi9 ew9 lo9 en9 le9) ∧ r9 = nI (ct_n (fun i => !decide (sp_lp n li r i = 0)) n)) (fun (u9 : Int64 × Int64 × (Nat → Int64) × (Nat → Int64) × (Nat → Int64) × (Nat → Int64) × (Nat → Int32) × (Nat → Int32) × (Nat → Int32) × Bool) (t : State) => match u9 with | (rc9, eg9, so9, wi9, ew9, lo9, en9, le9, pi9, k9) => va_P (dC, dI) vwCl (md_ws cJ cI h3 k3 o3 w3 v3 p3 e3 f3 q3 (nI 0) (nI n) ey ex (bs_i k9) rc9 eg9 li so9 wi9 ew9 lo9 en9 le9 pi9) t.heap ∧ va_D (va_A (md_ws cJ cI h3 k3 o3 w3 v3 p3 e3 f3 q3 cd (nI n) ey ex (bs_i q) rc eg li so wi ew lo en le pi) hs) (md_ws cJ cI h3 k3 o3 w3 v3 p3 e3 f3 q3 (nI 0) (nI n) ey ex (bs_i k9) rc9 eg9 li so9 wi9 ew9 lo9 en9 le9 pi9)) (va_A (md_ws cJ cI h3 k3 o3 w3 v3 p3 e3 f3 q3 cd (nI n) ey ex (bs_i q) rc eg li so wi ew lo en le pi) hs)) 0 0 (va_A (md_ws cJ cI h3 k3 o3 w3 v3 p3 e3 f3 q3 cd (nI n) ey ex (bs_i q) rc eg li so wi ew lo en le pi) hs) := by
  refine Met.ofW (cc := b_M_loops) (maxL := 3) (ret := (some .int)) (by decide) rfl ?_
  intro p e s m args below meth c s₁ B hml hv9
  obtain ⟨rfl, hsz, ⟨hP, hK, hNw⟩, hD0⟩ := hv9
  have hx := B.exec
  have hb := B.bytes
  have hr := B.returns
  have hts := atoms_spec (ws := w_M_loops) B.pre
  have hown : s.vm.findClass "FlowNestModel" = some m.cls := findClass_of_methodNamed B.named
  have hlocks := B.notSynchronized
  subst hsz
  have hD := hD0.self (sz := s.heap.size)
  generalize hAe : va_A (md_ws cJ cI h3 k3 o3 w3 v3 p3 e3 f3 q3 cd (nI n) ey ex (bs_i q) rc eg li so wi ew lo en le pi) s.heap.size = A at hD ⊢
  have hA : ∀ q : Nat, s.heap.size ≤ q → A q := fun q h => by rw [← hAe]; exact Or.inr h
  have hS : va_S A s.heap s.heap [] := va_S.rf
  have hP : va_P (dC, dI) vwCl (md_ws cJ cI h3 k3 o3 w3 v3 p3 e3 f3 q3 cd (nI n) ey ex (bs_i q) rc eg li so wi ew lo en le pi) s.heap := hP
  have hl := lv_entry ([.ref h3]) (n := 3) (Nat.le_of_ble_eq_true rfl)
  rw [lg_entry_eq]
  generalize (lg_sl ([.ref h3]) ++ List.replicate (3 - (lg_sl ([.ref h3])).length) Slot.unset).toArray = ls at hl ⊢
  have hl : lv_has ls 3 [(0, .ref h3)] := hl
  refine lv_aload_n hx hb d_M_loops_0 rfl (lv_at hl 0 rfl) ?_
  refine lv_iconst (v := nI 0) hx hb d_M_loops_1 (by decide) ?_
  refine va_put (D := (dC, dI)) (ci := 3) (v := .int (nI 0)) (ty := .int) (C := "FlowNestModel") (T := T_M) (N := 15) hx hb hts nm_iM t_M t_M_ok nm_M hown hK hP hD hS 0 rfl rfl 0 (by decide) (hts _ (List.mem_cons_of_mem _ nm_414)) (fun _ h9 => h9) rfl (by decide +kernel) (by rfl) (by rfl) (Nat.le_of_ble_eq_true rfl) d_M_loops_2 (fun H locs hP hD hS => ?_)
  have hP : va_P (dC, dI) vwCl (md_ws cJ cI h3 k3 o3 w3 v3 p3 e3 f3 q3 (nI 0) (nI n) ey ex (bs_i q) rc eg li so wi ew lo en le pi) H := hP
  have hD : va_D A (md_ws cJ cI h3 k3 o3 w3 v3 p3 e3 f3 q3 (nI 0) (nI n) ey ex (bs_i q) rc eg li so wi ew lo en le pi) := hD
  refine lv_aload_n hx hb d_M_loops_5 rfl (lv_at hl 0 rfl) ?_
  refine va_get (D := (dC, dI)) (ci := 3) (v := .int (nI n)) (C := "FlowNestModel") (T := T_M) (N := 15) hx hb hts nm_iM hown hK hP 0 rfl rfl 1 (by decide) (hts _ (List.mem_cons_of_mem _ nm_415)) (fun _ h9 => h9) rfl d_M_loops_6 ?_
  refine wl_iflen (tgt := 16) hx hb (by omega) d_M_loops_9 (by decide) (fun hc9 => ?_) (fun hc9 => ?_)
  · refine lv_iconst (v := nI 0) hx hb d_M_loops_16 (by decide) ?_
    refine lv_istore_n (lv' := [(1, .int (nI 0)), (0, .ref h3)]) hx hb d_M_loops_17 rfl hl (by decide) rfl (fun ls hl => ?_)
    refine lv_iconst (v := nI 0) hx hb d_M_loops_18 (by decide) ?_
    refine lv_istore_n (lv' := [(2, .int (nI 0)), (1, .int (nI 0)), (0, .ref h3)]) hx hb d_M_loops_19 rfl hl (by decide) rfl (fun ls hl => ?_)
    refine wl_loop (σ := Nat) (dC, dI) vwCl A 20 3 (fun (h : Nat) => [(0, .ref h3), (1, .int (nI (ct_n (fun i => !decide (lo i = 0)) h))), (2, .int (nI h))]) (fun (h : Nat) => md_ws cJ cI h3 k3 o3 w3 v3 p3 e3 f3 q3 (nI 0) (nI n) ey ex (bs_i q) rc eg li so wi ew lo en le pi) (fun (h : Nat) => h ≤ n) (fun (h : Nat) => n - h) ?_ 0 (Nat.zero_le n) hP hD hS (lv_sub hl [2, 1, 0] rfl)
    intro h hI ih H locs ls hP hD hS hl
    have hI : h ≤ n := hI
    have hP : va_P (dC, dI) vwCl (md_ws cJ cI h3 k3 o3 w3 v3 p3 e3 f3 q3 (nI 0) (nI n) ey ex (bs_i q) rc eg li so wi ew lo en le pi) H := hP
    have hD : va_D A (md_ws cJ cI h3 k3 o3 w3 v3 p3 e3 f3 q3 (nI 0) (nI n) ey ex (bs_i q) rc eg li so wi ew lo en le pi) := hD
    have hl : lv_has ls 3 [(0, .ref h3), (1, .int (nI (ct_n (fun i => !decide (lo i = 0)) h))), (2, .int (nI h))] := hl
    refine lv_iload_n hx hb d_M_loops_20 rfl (lv_at hl 2 rfl) ?_
    refine lv_aload_n hx hb d_M_loops_21 rfl (lv_at hl 0 rfl) ?_
    refine va_get (D := (dC, dI)) (ci := 3) (v := .int (nI n)) (C := "FlowNestModel") (T := T_M) (N := 15) hx hb hts nm_iM hown hK hP 0 rfl rfl 1 (by decide) (hts _ (List.mem_cons_of_mem _ nm_415)) (fun _ h9 => h9) rfl d_M_loops_22 ?_
    refine wl_ige (tgt := 53) hx hb (by omega) (by omega) d_M_loops_25 (by decide) (fun hc25 => ?_) (fun hc25 => ?_)
    · refine lv_iload_n hx hb d_M_loops_53 rfl (lv_at hl 1 rfl) ?_
      exact W.iret (v := nI (ct_n (fun i => !decide (lo i = 0)) h)) hx hb hr (fun t ht hW => ⟨⟨(nI (ct_n (fun i => !decide (lo i = 0)) h)), (rc, eg, so, wi, ew, lo, en, le, pi, q), rfl, ⟨hq, by rw [show h = n by omega]; exact congrArg nI (ct_congr (fun i hi => by omega))⟩, by rw [ht]; exact hP, hD⟩, hS.F ht⟩) hS.2.2 d_M_loops_54
    · refine lv_iload_n hx hb d_M_loops_28 rfl (lv_at hl 1 rfl) ?_
      refine lv_aload_n hx hb d_M_loops_29 rfl (lv_at hl 0 rfl) ?_
      refine va_get (D := (dC, dI)) (ci := 3) (v := .ref p3) (C := "FlowNestModel") (T := T_M) (N := 15) hx hb hts nm_iM hown hK hP 0 rfl rfl 11 (by decide) (hts _ (List.mem_cons_of_mem _ nm_425)) (fun _ h9 => h9) rfl d_M_loops_30 ?_
      refine lv_iload_n hx hb d_M_loops_33 rfl (lv_at hl 2 rfl) ?_
      refine wl_lald (i := h) hx hb hK hP 5 0 rfl rfl (by omega) (by decide) d_M_loops_34 ?_
      refine lv_lconst (v := 0) hx hb d_M_loops_35 (by decide) ?_
      refine wl_lcmpeq (tgt := 44) hx hb d_M_loops_36 d_M_loops_37 (by decide) (fun hc36 => ?_) (fun hc36 => ?_)
      · refine lv_iconst (v := nI 0) hx hb d_M_loops_44 (by decide) ?_
        refine wl_iaddn hx hb d_M_loops_45 ?_
        refine lv_istore_n (lv' := [(1, .int (nI ((ct_n (fun i => !decide (lo i = 0)) h) + 0))), (0, .ref h3), (2, .int (nI h))]) hx hb d_M_loops_46 rfl hl (by decide) rfl (fun ls hl => ?_)
        refine lv_iinc (lv' := [(2, .int (nI (h + 1))), (1, .int (nI ((ct_n (fun i => !decide (lo i = 0)) h) + 0))), (0, .ref h3)]) (k := 2) (v := nI (h + 1)) hx hb d_M_loops_47 hl rfl (nI_1 h) (by decide) rfl (fun ls hl => ?_)
        refine lv_goto (tgt := 20) hx hb d_M_loops_50 (by decide) ?_
        rw [show ct_n (fun i => !decide (lo i = 0)) h + 0 = ct_n (fun i => !decide (lo i = 0)) (h + 1) from ct_s0 (p := fun i => !decide (lo i = 0)) (by simp [hc36])] at hl
        exact ih (h + 1) (show h + 1 ≤ n by omega) (show n - (h + 1) < n - h by omega) _ _ _ hP hD hS (lv_sub hl [2, 1, 0] rfl)
      · refine lv_iconst (v := nI 1) hx hb d_M_loops_40 (by decide) ?_
        refine lv_goto (tgt := 45) hx hb d_M_loops_41 (by decide) ?_
        refine wl_iaddn hx hb d_M_loops_45 ?_
        refine lv_istore_n (lv' := [(1, .int (nI ((ct_n (fun i => !decide (lo i = 0)) h) + 1))), (0, .ref h3), (2, .int (nI h))]) hx hb d_M_loops_46 rfl hl (by decide) rfl (fun ls hl => ?_)
        refine lv_iinc (lv' := [(2, .int (nI (h + 1))), (1, .int (nI ((ct_n (fun i => !decide (lo i = 0)) h) + 1))), (0, .ref h3)]) (k := 2) (v := nI (h + 1)) hx hb d_M_loops_47 hl rfl (nI_1 h) (by decide) rfl (fun ls hl => ?_)
        refine lv_goto (tgt := 20) hx hb d_M_loops_50 (by decide) ?_
        rw [show ct_n (fun i => !decide (lo i = 0)) h + 1 = ct_n (fun i => !decide (lo i = 0)) (h + 1) from ct_s1 (p := fun i => !decide (lo i = 0)) (by simp [hc36])] at hl
        exact ih (h + 1) (show h + 1 ≤ n by omega) (show n - (h + 1) < n - h by omega) _ _ _ hP hD hS (lv_sub hl [2, 1, 0] rfl)
  · obtain ⟨rfl, rfl, hr9, hx9⟩ := hz (by omega)
    have hP : va_P (dC, dI) vwCl (md_ws cJ cI h3 k3 o3 w3 v3 p3 e3 f3 q3 (nI 0) (nI n) (nI r) (nI x) (bs_i q) rc eg li so wi ew lo en le pi) H := hP
    have hD : va_D A (md_ws cJ cI h3 k3 o3 w3 v3 p3 e3 f3 q3 (nI 0) (nI n) (nI r) (nI x) (bs_i q) rc eg li so wi ew lo en le pi) := hD
    refine lv_aload_n hx hb d_M_loops_12 rfl (lv_at hl 0 rfl) ?_
    have hPc := hP.sub (ws' := md_ws cJ cI h3 k3 o3 w3 v3 p3 e3 f3 q3 (nI 0) (nI n) (nI r) (nI x) (bs_i q) rc eg li so wi ew lo en le pi) [0, 1, 2, 3, 4, 5, 6, 7, 8] rfl
    have hDc := hD.sub (ws' := md_ws cJ cI h3 k3 o3 w3 v3 p3 e3 f3 q3 (nI 0) (nI n) (nI r) (nI x) (bs_i q) rc eg li so wi ew lo en le pi) [0, 1, 2, 3, 4, 5, 6, 7, 8] (by decide) rfl
    have hFc := va_free (wc := md_ws cJ cI h3 k3 o3 w3 v3 p3 e3 f3 q3 (nI 0) (nI n) (nI r) (nI x) (bs_i q) rc eg li so wi ew lo en le pi) hD hS hA [0, 1, 2, 3, 4, 5, 6, 7, 8] rfl
    refine va_callv (va_runV (C := "FlowNestModel") (b := h3) (As := []) (rest := []) ⟨hx, hb, hml, hown, hts⟩ (c_M_learn l dC dI cJ cI h3 k3 o3 w3 v3 p3 e3 f3 q3 H.size (nI 0) rc eg li so wi ew lo en le pi n r x q hn hr9 hx9 hL hq) (cwV 0 hts (nm_gV nm_492 nm_494 nm_s_M_learn nm_4 nm_c_M_learn) rfl rfl rfl (by decide +kernel) ⟨Nat.le_of_ble_eq_true rfl, Nat.le_of_ble_eq_true rfl⟩) ⟨cw_blindM, va_recv hK hP (ci := 3) rfl (q0 := 0) rfl, cw_preM hPc hDc hK hNw⟩ rfl rfl hl.1 rfl (lv_room (Nat.le_of_ble_eq_true rfl)) d_M_loops_13 ⟨Nat.zero_le _, Nat.zero_le _⟩) hS (fun q _ h => hFc q h) hFc (fun u9 t H1 locs ht hvm hw2 hB hz1 hk1 hS => ?_)
    obtain ⟨rc3, eg4, so5, wi6, ew7, lo8, en9, le10, pi11⟩ := u9
    obtain ⟨hP1, hD1⟩ := hB
    rw [ht] at hP1
    obtain ⟨hP, hD⟩ := va_join (wr := ([] : List Nat).filterMap (fun (i : Nat) => (md_ws cJ cI h3 k3 o3 w3 v3 p3 e3 f3 q3 (nI 0) (nI n) (nI r) (nI x) (bs_i q) rc eg li so wi ew lo en le pi)[i]?)) (w1 := md_ws cJ cI h3 k3 o3 w3 v3 p3 e3 f3 q3 (nI 0) (nI n) (nI r) (nI x) (nI 1) rc3 eg4 li so5 wi6 ew7 lo8 en9 le10 pi11) hP hD [0, 1, 2, 3, 4, 5, 6, 7, 8] [] rfl rfl (by decide) (by decide) hk1 hFc hP1 hD1
    generalize H1 = H at hP hS ⊢
    have hP : va_P (dC, dI) vwCl (md_ws cJ cI h3 k3 o3 w3 v3 p3 e3 f3 q3 (nI 0) (nI n) (nI r) (nI x) (nI 1) rc3 eg4 li so5 wi6 ew7 lo8 en9 le10 pi11) H := hP.sub (ws' := md_ws cJ cI h3 k3 o3 w3 v3 p3 e3 f3 q3 (nI 0) (nI n) (nI r) (nI x) (nI 1) rc3 eg4 li so5 wi6 ew7 lo8 en9 le10 pi11) [0, 1, 2, 3, 4, 5, 6, 7, 8] rfl
    have hD : va_D A (md_ws cJ cI h3 k3 o3 w3 v3 p3 e3 f3 q3 (nI 0) (nI n) (nI r) (nI x) (nI 1) rc3 eg4 li so5 wi6 ew7 lo8 en9 le10 pi11) := hD.sub (ws' := md_ws cJ cI h3 k3 o3 w3 v3 p3 e3 f3 q3 (nI 0) (nI n) (nI r) (nI x) (nI 1) rc3 eg4 li so5 wi6 ew7 lo8 en9 le10 pi11) [0, 1, 2, 3, 4, 5, 6, 7, 8] (by decide) rfl
    refine lv_iconst (v := nI 0) hx hb d_M_loops_16 (by decide) ?_
    refine lv_istore_n (lv' := [(1, .int (nI 0)), (0, .ref h3)]) hx hb d_M_loops_17 rfl hl (by decide) rfl (fun ls hl => ?_)
    refine lv_iconst (v := nI 0) hx hb d_M_loops_18 (by decide) ?_
    refine lv_istore_n (lv' := [(2, .int (nI 0)), (1, .int (nI 0)), (0, .ref h3)]) hx hb d_M_loops_19 rfl hl (by decide) rfl (fun ls hl => ?_)
    refine wl_loop (σ := Nat) (dC, dI) vwCl A 20 3 (fun (h : Nat) => [(0, .ref h3), (1, .int (nI (ct_n (fun i => !decide (lo8 i = 0)) h))), (2, .int (nI h))]) (fun (h : Nat) => md_ws cJ cI h3 k3 o3 w3 v3 p3 e3 f3 q3 (nI 0) (nI n) (nI r) (nI x) (nI 1) rc3 eg4 li so5 wi6 ew7 lo8 en9 le10 pi11) (fun (h : Nat) => h ≤ n) (fun (h : Nat) => n - h) ?_ 0 (Nat.zero_le n) hP hD hS (lv_sub hl [2, 1, 0] rfl)
    intro h hI ih H locs ls hP hD hS hl
    have hI : h ≤ n := hI
    have hP : va_P (dC, dI) vwCl (md_ws cJ cI h3 k3 o3 w3 v3 p3 e3 f3 q3 (nI 0) (nI n) (nI r) (nI x) (nI 1) rc3 eg4 li so5 wi6 ew7 lo8 en9 le10 pi11) H := hP
    have hD : va_D A (md_ws cJ cI h3 k3 o3 w3 v3 p3 e3 f3 q3 (nI 0) (nI n) (nI r) (nI x) (nI 1) rc3 eg4 li so5 wi6 ew7 lo8 en9 le10 pi11) := hD
    have hl : lv_has ls 3 [(0, .ref h3), (1, .int (nI (ct_n (fun i => !decide (lo8 i = 0)) h))), (2, .int (nI h))] := hl
    refine lv_iload_n hx hb d_M_loops_20 rfl (lv_at hl 2 rfl) ?_
    refine lv_aload_n hx hb d_M_loops_21 rfl (lv_at hl 0 rfl) ?_
    refine va_get (D := (dC, dI)) (ci := 3) (v := .int (nI n)) (C := "FlowNestModel") (T := T_M) (N := 15) hx hb hts nm_iM hown hK hP 0 rfl rfl 1 (by decide) (hts _ (List.mem_cons_of_mem _ nm_415)) (fun _ h9 => h9) rfl d_M_loops_22 ?_
    refine wl_ige (tgt := 53) hx hb (by omega) (by omega) d_M_loops_25 (by decide) (fun hc25 => ?_) (fun hc25 => ?_)
    · refine lv_iload_n hx hb d_M_loops_53 rfl (lv_at hl 1 rfl) ?_
      exact W.iret (v := nI (ct_n (fun i => !decide (lo8 i = 0)) h)) hx hb hr (fun t ht hW => ⟨⟨(nI (ct_n (fun i => !decide (lo8 i = 0)) h)), (rc3, eg4, so5, wi6, ew7, lo8, en9, le10, pi11, true), rfl, ⟨fun _ => hw2, by rw [show h = n by omega]; exact congrArg nI (ct_congr (fun i hi => by rw [hw2.2.2.2.2.2.1 i hi]))⟩, by rw [ht]; exact hP, hD⟩, hS.F ht⟩) hS.2.2 d_M_loops_54
    · refine lv_iload_n hx hb d_M_loops_28 rfl (lv_at hl 1 rfl) ?_
      refine lv_aload_n hx hb d_M_loops_29 rfl (lv_at hl 0 rfl) ?_
      refine va_get (D := (dC, dI)) (ci := 3) (v := .ref p3) (C := "FlowNestModel") (T := T_M) (N := 15) hx hb hts nm_iM hown hK hP 0 rfl rfl 11 (by decide) (hts _ (List.mem_cons_of_mem _ nm_425)) (fun _ h9 => h9) rfl d_M_loops_30 ?_
      refine lv_iload_n hx hb d_M_loops_33 rfl (lv_at hl 2 rfl) ?_
      refine wl_lald (i := h) hx hb hK hP 5 0 rfl rfl (by omega) (by decide) d_M_loops_34 ?_
      refine lv_lconst (v := 0) hx hb d_M_loops_35 (by decide) ?_
      refine wl_lcmpeq (tgt := 44) hx hb d_M_loops_36 d_M_loops_37 (by decide) (fun hc36 => ?_) (fun hc36 => ?_)
      · refine lv_iconst (v := nI 0) hx hb d_M_loops_44 (by decide) ?_
        refine wl_iaddn hx hb d_M_loops_45 ?_
        refine lv_istore_n (lv' := [(1, .int (nI ((ct_n (fun i => !decide (lo8 i = 0)) h) + 0))), (0, .ref h3), (2, .int (nI h))]) hx hb d_M_loops_46 rfl hl (by decide) rfl (fun ls hl => ?_)
        refine lv_iinc (lv' := [(2, .int (nI (h + 1))), (1, .int (nI ((ct_n (fun i => !decide (lo8 i = 0)) h) + 0))), (0, .ref h3)]) (k := 2) (v := nI (h + 1)) hx hb d_M_loops_47 hl rfl (nI_1 h) (by decide) rfl (fun ls hl => ?_)
        refine lv_goto (tgt := 20) hx hb d_M_loops_50 (by decide) ?_
        rw [show ct_n (fun i => !decide (lo8 i = 0)) h + 0 = ct_n (fun i => !decide (lo8 i = 0)) (h + 1) from ct_s0 (p := fun i => !decide (lo8 i = 0)) (by simp [hc36])] at hl
        exact ih (h + 1) (show h + 1 ≤ n by omega) (show n - (h + 1) < n - h by omega) _ _ _ hP hD hS (lv_sub hl [2, 1, 0] rfl)
      · refine lv_iconst (v := nI 1) hx hb d_M_loops_40 (by decide) ?_
        refine lv_goto (tgt := 45) hx hb d_M_loops_41 (by decide) ?_
        refine wl_iaddn hx hb d_M_loops_45 ?_
        refine lv_istore_n (lv' := [(1, .int (nI ((ct_n (fun i => !decide (lo8 i = 0)) h) + 1))), (0, .ref h3), (2, .int (nI h))]) hx hb d_M_loops_46 rfl hl (by decide) rfl (fun ls hl => ?_)
        refine lv_iinc (lv' := [(2, .int (nI (h + 1))), (1, .int (nI ((ct_n (fun i => !decide (lo8 i = 0)) h) + 1))), (0, .ref h3)]) (k := 2) (v := nI (h + 1)) hx hb d_M_loops_47 hl rfl (nI_1 h) (by decide) rfl (fun ls hl => ?_)
        refine lv_goto (tgt := 20) hx hb d_M_loops_50 (by decide) ?_
        rw [show ct_n (fun i => !decide (lo8 i = 0)) h + 1 = ct_n (fun i => !decide (lo8 i = 0)) (h + 1) from ct_s1 (p := fun i => !decide (lo8 i = 0)) (by simp [hc36])] at hl
        exact ih (h + 1) (show h + 1 ≤ n by omega) (show n - (h + 1) < n - h by omega) _ _ _ hP hD hS (lv_sub hl [2, 1, 0] rfl)
set_option maxHeartbeats 4000000 in
set_option maxRecDepth 100000 in
theorem c_M_isReducible (l : Launch) (dC : Nat → ClassId) (dI : Nat → Nat → Nat) (cJ cI : ClassId) (h3 k3 o3 w3 v3 p3 e3 f3 q3 hs : Nat) (cd : Int32) (ey : Int32) (ex : Int32) (rc : Int64) (eg : Int64) (li : Nat → Int64) (so : Nat → Int64) (wi : Nat → Int64) (ew : Nat → Int64) (lo : Nat → Int64) (en : Nat → Int32) (le : Nat → Int32) (pi : Nat → Int32) (n r x : Nat) (q : Bool)  (hn : n ≤ 48) (hz : 0 < n → ey = nI r ∧ ex = nI x ∧ r < n ∧ x < n) (hL : ∀ u v, gf_E n li u v → v < n) (hq : q = true → md_G n r x li rc eg so wi ew lo en le) : Met l y_M_isReducible w_M_isReducible ({ frames := 5, cells := 0, slots := 0, locals := 115 }) (va_Pc [.ref h3] (cw_M (dC, dI) cJ cI (md_ws cJ cI h3 k3 o3 w3 v3 p3 e3 f3 q3 cd (nI n) ey ex (bs_i q) rc eg li so wi ew lo en le pi) hs)) (va_Qi (fun (r9 : Int32) (u9 : Int64 × Int64 × (Nat → Int64) × (Nat → Int64) × (Nat → Int64) × (Nat → Int64) × (Nat → Int32) × (Nat → Int32) × (Nat → Int32) × Bool) => match u9 with | (rc9, eg9, so9, wi9, ew9, lo9, en9, le9, pi9, k9) => (k9 = true → md_G n r x li rc9 eg9 so9 wi9 ew9 lo9 en9 le9) ∧ (n = 0 → r9 = nI 1) ∧ (0 < n → r9 = bs_i (gf_d (sp_Red n li r)))) (fun (u9 : Int64 × Int64 × (Nat → Int64) × (Nat → Int64) × (Nat → Int64) × (Nat → Int64) × (Nat → Int32) × (Nat → Int32) × (Nat → Int32) × Bool) (t : State) => match u9 with | (rc9, eg9, so9, wi9, ew9, lo9, en9, le9, pi9, k9) => va_P (dC, dI) vwCl (md_ws cJ cI h3 k3 o3 w3 v3 p3 e3 f3 q3 (nI 0) (nI n) ey ex (bs_i k9) rc9 eg9 li so9 wi9 ew9 lo9 en9 le9 pi9) t.heap ∧ va_D (va_A (md_ws cJ cI h3 k3 o3 w3 v3 p3 e3 f3 q3 cd (nI n) ey ex (bs_i q) rc eg li so wi ew lo en le pi) hs) (md_ws cJ cI h3 k3 o3 w3 v3 p3 e3 f3 q3 (nI 0) (nI n) ey ex (bs_i k9) rc9 eg9 li so9 wi9 ew9 lo9 en9 le9 pi9)) (va_A (md_ws cJ cI h3 k3 o3 w3 v3 p3 e3 f3 q3 cd (nI n) ey ex (bs_i q) rc eg li so wi ew lo en le pi) hs)) 0 0 (va_A (md_ws cJ cI h3 k3 o3 w3 v3 p3 e3 f3 q3 cd (nI n) ey ex (bs_i q) rc eg li so wi ew lo en le pi) hs) := by
  refine Met.ofW (cc := b_M_isReducible) (maxL := 8) (ret := (some .boolean)) (by decide) rfl ?_
  intro p e s m args below meth c s₁ B hml hv9
  obtain ⟨rfl, hsz, ⟨hP, hK, hNw⟩, hD0⟩ := hv9
  have hx := B.exec
  have hb := B.bytes
  have hr := B.returns
  have hts := atoms_spec (ws := w_M_isReducible) B.pre
  have hown : s.vm.findClass "FlowNestModel" = some m.cls := findClass_of_methodNamed B.named
  have hlocks := B.notSynchronized
  subst hsz
  have hD := hD0.self (sz := s.heap.size)
  generalize hAe : va_A (md_ws cJ cI h3 k3 o3 w3 v3 p3 e3 f3 q3 cd (nI n) ey ex (bs_i q) rc eg li so wi ew lo en le pi) s.heap.size = A at hD ⊢
  have hA : ∀ q : Nat, s.heap.size ≤ q → A q := fun q h => by rw [← hAe]; exact Or.inr h
  have hS : va_S A s.heap s.heap [] := va_S.rf
  have hP : va_P (dC, dI) vwCl (md_ws cJ cI h3 k3 o3 w3 v3 p3 e3 f3 q3 cd (nI n) ey ex (bs_i q) rc eg li so wi ew lo en le pi) s.heap := hP
  have hl := lv_entry ([.ref h3]) (n := 8) (Nat.le_of_ble_eq_true rfl)
  rw [lg_entry_eq]
  generalize (lg_sl ([.ref h3]) ++ List.replicate (8 - (lg_sl ([.ref h3])).length) Slot.unset).toArray = ls at hl ⊢
  have hl : lv_has ls 8 [(0, .ref h3)] := hl
  refine lv_aload_n hx hb d_M_isReducible_0 rfl (lv_at hl 0 rfl) ?_
  refine lv_iconst (v := nI 0) hx hb d_M_isReducible_1 (by decide) ?_
  refine va_put (D := (dC, dI)) (ci := 3) (v := .int (nI 0)) (ty := .int) (C := "FlowNestModel") (T := T_M) (N := 15) hx hb hts nm_iM t_M t_M_ok nm_M hown hK hP hD hS 0 rfl rfl 0 (by decide) (hts _ (List.mem_cons_of_mem _ nm_414)) (fun _ h9 => h9) rfl (by decide +kernel) (by rfl) (by rfl) (Nat.le_of_ble_eq_true rfl) d_M_isReducible_2 (fun H locs hP hD hS => ?_)
  have hP : va_P (dC, dI) vwCl (md_ws cJ cI h3 k3 o3 w3 v3 p3 e3 f3 q3 (nI 0) (nI n) ey ex (bs_i q) rc eg li so wi ew lo en le pi) H := hP
  have hD : va_D A (md_ws cJ cI h3 k3 o3 w3 v3 p3 e3 f3 q3 (nI 0) (nI n) ey ex (bs_i q) rc eg li so wi ew lo en le pi) := hD
  refine lv_aload_n hx hb d_M_isReducible_5 rfl (lv_at hl 0 rfl) ?_
  refine va_get (D := (dC, dI)) (ci := 3) (v := .int (nI n)) (C := "FlowNestModel") (T := T_M) (N := 15) hx hb hts nm_iM hown hK hP 0 rfl rfl 1 (by decide) (hts _ (List.mem_cons_of_mem _ nm_415)) (fun _ h9 => h9) rfl d_M_isReducible_6 ?_
  refine wl_ifnen (tgt := 14) hx hb (by omega) d_M_isReducible_9 (by decide) (fun hc9 => ?_) (fun hc9 => ?_)
  · obtain ⟨rfl, rfl, hr9, hx9⟩ := hz (by omega)
    have hP : va_P (dC, dI) vwCl (md_ws cJ cI h3 k3 o3 w3 v3 p3 e3 f3 q3 (nI 0) (nI n) (nI r) (nI x) (bs_i q) rc eg li so wi ew lo en le pi) H := hP
    have hD : va_D A (md_ws cJ cI h3 k3 o3 w3 v3 p3 e3 f3 q3 (nI 0) (nI n) (nI r) (nI x) (bs_i q) rc eg li so wi ew lo en le pi) := hD
    refine lv_aload_n hx hb d_M_isReducible_14 rfl (lv_at hl 0 rfl) ?_
    have hPc := hP.sub (ws' := md_ws cJ cI h3 k3 o3 w3 v3 p3 e3 f3 q3 (nI 0) (nI n) (nI r) (nI x) (bs_i q) rc eg li so wi ew lo en le pi) [0, 1, 2, 3, 4, 5, 6, 7, 8] rfl
    have hDc := hD.sub (ws' := md_ws cJ cI h3 k3 o3 w3 v3 p3 e3 f3 q3 (nI 0) (nI n) (nI r) (nI x) (bs_i q) rc eg li so wi ew lo en le pi) [0, 1, 2, 3, 4, 5, 6, 7, 8] (by decide) rfl
    have hFc := va_free (wc := md_ws cJ cI h3 k3 o3 w3 v3 p3 e3 f3 q3 (nI 0) (nI n) (nI r) (nI x) (bs_i q) rc eg li so wi ew lo en le pi) hD hS hA [0, 1, 2, 3, 4, 5, 6, 7, 8] rfl
    refine va_callv (va_runV (C := "FlowNestModel") (b := h3) (As := []) (rest := []) ⟨hx, hb, hml, hown, hts⟩ (c_M_learn l dC dI cJ cI h3 k3 o3 w3 v3 p3 e3 f3 q3 H.size (nI 0) rc eg li so wi ew lo en le pi n r x q hn hr9 hx9 hL hq) (cwV 0 hts (nm_gV nm_492 nm_494 nm_s_M_learn nm_4 nm_c_M_learn) rfl rfl rfl (by decide +kernel) ⟨Nat.le_of_ble_eq_true rfl, Nat.le_of_ble_eq_true rfl⟩) ⟨cw_blindM, va_recv hK hP (ci := 3) rfl (q0 := 0) rfl, cw_preM hPc hDc hK hNw⟩ rfl rfl hl.1 rfl (lv_room (Nat.le_of_ble_eq_true rfl)) d_M_isReducible_15 ⟨Nat.zero_le _, Nat.zero_le _⟩) hS (fun q _ h => hFc q h) hFc (fun u9 t H1 locs ht hvm hw2 hB hz1 hk1 hS => ?_)
    obtain ⟨rc3, eg4, so5, wi6, ew7, lo8, en9, le10, pi11⟩ := u9
    obtain ⟨hP1, hD1⟩ := hB
    rw [ht] at hP1
    obtain ⟨hP, hD⟩ := va_join (wr := ([] : List Nat).filterMap (fun (i : Nat) => (md_ws cJ cI h3 k3 o3 w3 v3 p3 e3 f3 q3 (nI 0) (nI n) (nI r) (nI x) (bs_i q) rc eg li so wi ew lo en le pi)[i]?)) (w1 := md_ws cJ cI h3 k3 o3 w3 v3 p3 e3 f3 q3 (nI 0) (nI n) (nI r) (nI x) (nI 1) rc3 eg4 li so5 wi6 ew7 lo8 en9 le10 pi11) hP hD [0, 1, 2, 3, 4, 5, 6, 7, 8] [] rfl rfl (by decide) (by decide) hk1 hFc hP1 hD1
    generalize H1 = H at hP hS ⊢
    have hP : va_P (dC, dI) vwCl (md_ws cJ cI h3 k3 o3 w3 v3 p3 e3 f3 q3 (nI 0) (nI n) (nI r) (nI x) (nI 1) rc3 eg4 li so5 wi6 ew7 lo8 en9 le10 pi11) H := hP.sub (ws' := md_ws cJ cI h3 k3 o3 w3 v3 p3 e3 f3 q3 (nI 0) (nI n) (nI r) (nI x) (nI 1) rc3 eg4 li so5 wi6 ew7 lo8 en9 le10 pi11) [0, 1, 2, 3, 4, 5, 6, 7, 8] rfl
    have hD : va_D A (md_ws cJ cI h3 k3 o3 w3 v3 p3 e3 f3 q3 (nI 0) (nI n) (nI r) (nI x) (nI 1) rc3 eg4 li so5 wi6 ew7 lo8 en9 le10 pi11) := hD.sub (ws' := md_ws cJ cI h3 k3 o3 w3 v3 p3 e3 f3 q3 (nI 0) (nI n) (nI r) (nI x) (nI 1) rc3 eg4 li so5 wi6 ew7 lo8 en9 le10 pi11) [0, 1, 2, 3, 4, 5, 6, 7, 8] (by decide) rfl
    refine lv_aload_n hx hb d_M_isReducible_18 rfl (lv_at hl 0 rfl) ?_
    refine va_get (D := (dC, dI)) (ci := 3) (v := .long rc3) (C := "FlowNestModel") (T := T_M) (N := 15) hx hb hts nm_iM hown hK hP 0 rfl rfl 7 (by decide) (hts _ (List.mem_cons_of_mem _ nm_421)) (fun _ h9 => h9) rfl d_M_isReducible_19 ?_
    refine lv_lstore_n (lv' := [(1, .long rc3), (0, .ref h3)]) hx hb d_M_isReducible_22 rfl hl (by decide) rfl (fun ls hl => ?_)
    refine lv_lconst (v := 0) hx hb d_M_isReducible_23 (by decide) ?_
    refine lv_lstore_n (lv' := [(3, .long 0), (1, .long rc3), (0, .ref h3)]) hx hb d_M_isReducible_24 rfl hl (by decide) rfl (fun ls hl => ?_)
    refine wl_loop (σ := Int64 × Int64) (dC, dI) vwCl A 25 8 (fun (x0z : Int64 × Int64) => match x0z with | (rest, old) => [(0, .ref h3), (1, .long rest), (3, .long old)]) (fun (x0z : Int64 × Int64) => match x0z with | (rest, old) => md_ws cJ cI h3 k3 o3 w3 v3 p3 e3 f3 q3 (nI 0) (nI n) (nI r) (nI x) (nI 1) rc3 eg4 li so5 wi6 ew7 lo8 en9 le10 pi11) (fun (x0z : Int64 × Int64) => match x0z with | (rest, old) => (∀ i, bs_t rest i = true → gf_R (gf_E n li) r i) ∧ (∀ y, sp_Cy n li r y → bs_t rest y = true) ∧ (rest = old → md_Q n li r rest rest n)) (fun (x0z : Int64 × Int64) => match x0z with | (rest, old) => md_Qm rest old) ?_ (rc3, 0) (⟨fun i hi => (hw2.2.1 i).mp hi, fun y hy => (hw2.2.1 y).mpr (by obtain ⟨z, q, -⟩ := hy; exact q.2.1), fun e => by have h9 := (hw2.2.1 r).mpr (gf_rf r); rw [e, bs_0] at h9; cases h9⟩) hP hD hS (lv_sub hl [2, 1, 0] rfl)
    intro x0z hI ih H locs ls hP hD hS hl
    obtain ⟨rest, old⟩ := x0z
    have hI : (∀ i, bs_t rest i = true → gf_R (gf_E n li) r i) ∧ (∀ y, sp_Cy n li r y → bs_t rest y = true) ∧ (rest = old → md_Q n li r rest rest n) := hI
    have hP : va_P (dC, dI) vwCl (md_ws cJ cI h3 k3 o3 w3 v3 p3 e3 f3 q3 (nI 0) (nI n) (nI r) (nI x) (nI 1) rc3 eg4 li so5 wi6 ew7 lo8 en9 le10 pi11) H := hP
    have hD : va_D A (md_ws cJ cI h3 k3 o3 w3 v3 p3 e3 f3 q3 (nI 0) (nI n) (nI r) (nI x) (nI 1) rc3 eg4 li so5 wi6 ew7 lo8 en9 le10 pi11) := hD
    have hl : lv_has ls 8 [(0, .ref h3), (1, .long rest), (3, .long old)] := hl
    have hI1 := hI
    have ih1 := ih
    refine lv_lload_n hx hb d_M_isReducible_25 rfl (lv_at hl 1 rfl) ?_
    refine lv_lload_n hx hb d_M_isReducible_26 rfl (lv_at hl 2 rfl) ?_
    refine wl_lcmpeq (tgt := 142) hx hb d_M_isReducible_27 d_M_isReducible_28 (by decide) (fun hc27 => ?_) (fun hc27 => ?_)
    · refine lv_lload_n hx hb d_M_isReducible_142 rfl (lv_at hl 1 rfl) ?_
      refine lv_lconst (v := 0) hx hb d_M_isReducible_143 (by decide) ?_
      refine wl_lcmpne (tgt := 152) hx hb d_M_isReducible_144 d_M_isReducible_145 (by decide) (fun hc144 => ?_) (fun hc144 => ?_)
      · refine lv_iconst (v := nI 0) hx hb d_M_isReducible_152 (by decide) ?_
        exact W.zret (v := nI 0) hx hb hr (by decide) (fun t ht hW => ⟨⟨(nI 0), (rc3, eg4, so5, wi6, ew7, lo8, en9, le10, pi11, true), rfl, ⟨fun _ => hw2, ⟨fun h => absurd h (by omega), fun _ => (bs_i_f (gf_df.mpr (fun q => hc144 ((md_Qe (by omega) hL hr9 (hI.2.2 hc27)).mpr q)))).symm⟩⟩, by rw [ht]; exact hP, hD⟩, hS.F ht⟩) hS.2.2 d_M_isReducible_153
      · refine lv_iconst (v := nI 1) hx hb d_M_isReducible_148 (by decide) ?_
        refine lv_goto (tgt := 153) hx hb d_M_isReducible_149 (by decide) ?_
        exact W.zret (v := nI 1) hx hb hr (by decide) (fun t ht hW => ⟨⟨(nI 1), (rc3, eg4, so5, wi6, ew7, lo8, en9, le10, pi11, true), rfl, ⟨fun _ => hw2, ⟨fun h => absurd h (by omega), fun _ => (bs_i_t (fun q => gf_df.mp q ((md_Qe (by omega) hL hr9 (hI.2.2 hc27)).mp hc144))).symm⟩⟩, by rw [ht]; exact hP, hD⟩, hS.F ht⟩) hS.2.2 d_M_isReducible_153
    · refine lv_lload_n hx hb d_M_isReducible_31 rfl (lv_at hl 1 rfl) ?_
      refine lv_lstore_n (lv' := [(3, .long rest), (0, .ref h3), (1, .long rest)]) hx hb d_M_isReducible_32 rfl hl (by decide) rfl (fun ls hl => ?_)
      refine lv_iconst (v := nI 0) hx hb d_M_isReducible_33 (by decide) ?_
      refine lv_istore (lv' := [(5, .int (nI 0)), (3, .long rest), (0, .ref h3), (1, .long rest)]) hx hb d_M_isReducible_34 hl (by decide) rfl (fun ls hl => ?_)
      refine wl_loop (σ := Int64 × Nat) (dC, dI) vwCl A 36 8 (fun (x0z : Int64 × Nat) => match x0z with | (cur, v) => [(0, .ref h3), (1, .long cur), (3, .long rest), (5, .int (nI v))]) (fun (x0z : Int64 × Nat) => match x0z with | (cur, v) => md_ws cJ cI h3 k3 o3 w3 v3 p3 e3 f3 q3 (nI 0) (nI n) (nI r) (nI x) (nI 1) rc3 eg4 li so5 wi6 ew7 lo8 en9 le10 pi11) (fun (x0z : Int64 × Nat) => match x0z with | (cur, v) => v ≤ n ∧ md_Q n li r cur rest v) (fun (x0z : Int64 × Nat) => match x0z with | (cur, v) => n - v) ?_ (rest, 0) (⟨Nat.zero_le n, md_Q0 hI1.1 hI1.2.1⟩) hP hD hS (lv_sub hl [2, 3, 1, 0] rfl)
      intro x0z hI ih H locs ls hP hD hS hl
      obtain ⟨cur, v⟩ := x0z
      have hI : v ≤ n ∧ md_Q n li r cur rest v := hI
      have hP : va_P (dC, dI) vwCl (md_ws cJ cI h3 k3 o3 w3 v3 p3 e3 f3 q3 (nI 0) (nI n) (nI r) (nI x) (nI 1) rc3 eg4 li so5 wi6 ew7 lo8 en9 le10 pi11) H := hP
      have hD : va_D A (md_ws cJ cI h3 k3 o3 w3 v3 p3 e3 f3 q3 (nI 0) (nI n) (nI r) (nI x) (nI 1) rc3 eg4 li so5 wi6 ew7 lo8 en9 le10 pi11) := hD
      have hl : lv_has ls 8 [(0, .ref h3), (1, .long cur), (3, .long rest), (5, .int (nI v))] := hl
      have hI2 := hI
      have ih2 := ih
      refine lv_iload hx hb d_M_isReducible_36 (lv_at hl 3 rfl) ?_
      refine lv_aload_n hx hb d_M_isReducible_38 rfl (lv_at hl 0 rfl) ?_
      refine va_get (D := (dC, dI)) (ci := 3) (v := .int (nI n)) (C := "FlowNestModel") (T := T_M) (N := 15) hx hb hts nm_iM hown hK hP 0 rfl rfl 1 (by decide) (hts _ (List.mem_cons_of_mem _ nm_415)) (fun _ h9 => h9) rfl d_M_isReducible_39 ?_
      refine wl_ige (tgt := 139) hx hb (by omega) (by omega) d_M_isReducible_42 (by decide) (fun hc42 => ?_) (fun hc42 => ?_)
      · refine lv_goto (tgt := 25) hx hb d_M_isReducible_139 (by decide) ?_
        have hQn : md_Q n li r cur rest n := by have h9 := hI.2; rw [show v = n by omega] at h9; exact h9
        exact ih1 (cur, rest) (md_Q_of hQn) (md_Qmm hc27 hQn.1) _ _ _ hP hD hS (lv_sub hl [0, 1, 2] rfl)
      · refine lv_iconst (v := nI 0) hx hb d_M_isReducible_45 (by decide) ?_
        refine lv_istore (lv' := [(6, .int (nI 0)), (0, .ref h3), (1, .long cur), (3, .long rest), (5, .int (nI v))]) hx hb d_M_isReducible_46 hl (by decide) rfl (fun ls hl => ?_)
        refine lv_iconst (v := nI 0) hx hb d_M_isReducible_48 (by decide) ?_
        refine lv_istore (lv' := [(7, .int (nI 0)), (6, .int (nI 0)), (0, .ref h3), (1, .long cur), (3, .long rest), (5, .int (nI v))]) hx hb d_M_isReducible_49 hl (by decide) rfl (fun ls hl => ?_)
        refine wl_loop (σ := Bool × Nat) (dC, dI) vwCl A 51 8 (fun (x0z : Bool × Nat) => match x0z with | (led, u) => [(0, .ref h3), (1, .long cur), (3, .long rest), (5, .int (nI v)), (6, .int (bs_i led)), (7, .int (nI u))]) (fun (x0z : Bool × Nat) => match x0z with | (led, u) => md_ws cJ cI h3 k3 o3 w3 v3 p3 e3 f3 q3 (nI 0) (nI n) (nI r) (nI x) (nI 1) rc3 eg4 li so5 wi6 ew7 lo8 en9 le10 pi11) (fun (x0z : Bool × Nat) => match x0z with | (led, u) => u ≤ n ∧ (led = true ↔ ∃ y, y < u ∧ (fun y => bs_t cur y = true ∧ bs_t (li y) v = true ∧ ¬ sp_Bk n li r y v) y)) (fun (x0z : Bool × Nat) => match x0z with | (led, u) => n - u) ?_ (false, 0) (⟨Nat.zero_le n, ⟨fun q => (by cases q), fun ⟨y, q, _⟩ => by omega⟩⟩) hP hD hS (lv_sub hl [2, 3, 4, 5, 1, 0] rfl)
        intro x0z hI ih H locs ls hP hD hS hl
        obtain ⟨led, u⟩ := x0z
        have hI : u ≤ n ∧ (led = true ↔ ∃ y, y < u ∧ (fun y => bs_t cur y = true ∧ bs_t (li y) v = true ∧ ¬ sp_Bk n li r y v) y) := hI
        have hP : va_P (dC, dI) vwCl (md_ws cJ cI h3 k3 o3 w3 v3 p3 e3 f3 q3 (nI 0) (nI n) (nI r) (nI x) (nI 1) rc3 eg4 li so5 wi6 ew7 lo8 en9 le10 pi11) H := hP
        have hD : va_D A (md_ws cJ cI h3 k3 o3 w3 v3 p3 e3 f3 q3 (nI 0) (nI n) (nI r) (nI x) (nI 1) rc3 eg4 li so5 wi6 ew7 lo8 en9 le10 pi11) := hD
        have hl : lv_has ls 8 [(0, .ref h3), (1, .long cur), (3, .long rest), (5, .int (nI v)), (6, .int (bs_i led)), (7, .int (nI u))] := hl
        refine lv_iload hx hb d_M_isReducible_51 (lv_at hl 5 rfl) ?_
        refine lv_aload_n hx hb d_M_isReducible_53 rfl (lv_at hl 0 rfl) ?_
        refine va_get (D := (dC, dI)) (ci := 3) (v := .int (nI n)) (C := "FlowNestModel") (T := T_M) (N := 15) hx hb hts nm_iM hown hK hP 0 rfl rfl 1 (by decide) (hts _ (List.mem_cons_of_mem _ nm_415)) (fun _ h9 => h9) rfl d_M_isReducible_54 ?_
        refine wl_ige (tgt := 113) hx hb (by omega) (by omega) d_M_isReducible_57 (by decide) (fun hc57 => ?_) (fun hc57 => ?_)
        · refine lv_iload hx hb d_M_isReducible_113 (lv_at hl 4 rfl) ?_
          refine wl_ifeqb (tgt := 122) hx hb d_M_isReducible_115 (by decide) (fun hc115 => ?_) (fun hc115 => ?_)
          · refine lv_lload_n hx hb d_M_isReducible_122 rfl (lv_at hl 1 rfl) ?_
            refine lv_lconst (v := 1) hx hb d_M_isReducible_123 (by decide) ?_
            refine lv_iload hx hb d_M_isReducible_124 (lv_at hl 3 rfl) ?_
            refine lv_lshl (v := bs_b v) hx hb d_M_isReducible_126 rfl ?_
            refine lv_ldc2 (v := -1) hx hb hown (hts _ (List.mem_cons_of_mem _ nm_479)) d_M_isReducible_127 ?_
            refine lv_lxor hx hb d_M_isReducible_130 ?_
            refine lv_land hx hb d_M_isReducible_131 ?_
            refine lv_lstore_n (lv' := [(1, .long (cur &&& ((bs_b v) ^^^ (-1)))), (0, .ref h3), (3, .long rest), (5, .int (nI v)), (6, .int (bs_i led)), (7, .int (nI u))]) hx hb d_M_isReducible_132 rfl hl (by decide) rfl (fun ls hl => ?_)
            refine lv_iinc (lv' := [(5, .int (nI (v + 1))), (1, .long (cur &&& ((bs_b v) ^^^ (-1)))), (0, .ref h3), (3, .long rest), (6, .int (bs_i led)), (7, .int (nI u))]) (k := 3) (v := nI (v + 1)) hx hb d_M_isReducible_133 hl rfl (nI_1 v) (by decide) rfl (fun ls hl => ?_)
            refine lv_goto (tgt := 36) hx hb d_M_isReducible_136 (by decide) ?_
            have hled : led = true ↔ ∃ u, u < n ∧ bs_t cur u = true ∧ bs_t (li u) v = true ∧ ¬ sp_Bk n li r u v := by have h9 := hI.2; rw [show u = n by omega] at h9; exact h9
            exact ih2 ((cur &&& (bs_b v ^^^ (-1))), (v + 1)) (show v + 1 ≤ n ∧ md_Q n li r (cur &&& (bs_b v ^^^ (-1))) rest (v + 1) from ⟨by omega, (md_Qs hI2.2 (by omega) hled).2 (by rw [hc115]; decide)⟩) (show n - (v + 1) < n - v by omega) _ _ _ hP hD hS (lv_sub hl [2, 1, 3, 0] rfl)
          · refine lv_lload_n hx hb d_M_isReducible_118 rfl (lv_at hl 1 rfl) ?_
            refine lv_goto (tgt := 132) hx hb d_M_isReducible_119 (by decide) ?_
            refine lv_lstore_n (lv' := [(1, .long cur), (0, .ref h3), (3, .long rest), (5, .int (nI v)), (6, .int (bs_i led)), (7, .int (nI u))]) hx hb d_M_isReducible_132 rfl hl (by decide) rfl (fun ls hl => ?_)
            refine lv_iinc (lv' := [(5, .int (nI (v + 1))), (1, .long cur), (0, .ref h3), (3, .long rest), (6, .int (bs_i led)), (7, .int (nI u))]) (k := 3) (v := nI (v + 1)) hx hb d_M_isReducible_133 hl rfl (nI_1 v) (by decide) rfl (fun ls hl => ?_)
            refine lv_goto (tgt := 36) hx hb d_M_isReducible_136 (by decide) ?_
            have hled : led = true ↔ ∃ u, u < n ∧ bs_t cur u = true ∧ bs_t (li u) v = true ∧ ¬ sp_Bk n li r u v := by have h9 := hI.2; rw [show u = n by omega] at h9; exact h9
            exact ih2 (cur, (v + 1)) (show v + 1 ≤ n ∧ md_Q n li r cur rest (v + 1) from ⟨by omega, (md_Qs hI2.2 (by omega) hled).1 hc115⟩) (show n - (v + 1) < n - v by omega) _ _ _ hP hD hS (lv_sub hl [2, 1, 3, 0] rfl)
        · refine lv_iload hx hb d_M_isReducible_60 (lv_at hl 4 rfl) ?_
          refine wl_ifneb (tgt := 100) hx hb d_M_isReducible_62 (by decide) (fun hc62 => ?_) (fun hc62 => ?_)
          · refine lv_iconst (v := nI 1) hx hb d_M_isReducible_100 (by decide) ?_
            refine lv_goto (tgt := 105) hx hb d_M_isReducible_101 (by decide) ?_
            refine lv_istore (lv' := [(6, .int (nI 1)), (0, .ref h3), (1, .long cur), (3, .long rest), (5, .int (nI v)), (7, .int (nI u))]) hx hb d_M_isReducible_105 hl (by decide) rfl (fun ls hl => ?_)
            refine lv_iinc (lv' := [(7, .int (nI (u + 1))), (6, .int (nI 1)), (0, .ref h3), (1, .long cur), (3, .long rest), (5, .int (nI v))]) (k := 5) (v := nI (u + 1)) hx hb d_M_isReducible_107 hl rfl (nI_1 u) (by decide) rfl (fun ls hl => ?_)
            refine lv_goto (tgt := 51) hx hb d_M_isReducible_110 (by decide) ?_
            exact ih (true, (u + 1)) (show u + 1 ≤ n ∧ (true = true ↔ ∃ y, y < u + 1 ∧ (fun y => bs_t cur y = true ∧ bs_t (li y) v = true ∧ ¬ sp_Bk n li r y v) y) from ⟨by omega, md_dep_o hI.2 hc62⟩) (show n - (u + 1) < n - u by omega) _ _ _ hP hD hS (lv_sub hl [2, 3, 4, 5, 1, 0] rfl)
          · refine lv_lload_n hx hb d_M_isReducible_65 rfl (lv_at hl 1 rfl) ?_
            refine lv_iload hx hb d_M_isReducible_66 (lv_at hl 5 rfl) ?_
            refine vp_callSi (va_Run.run (va_runS (As := [.long cur, .int (nI u)]) (rest := []) ⟨hx, hb, hml, hown, hts⟩ (c_M_has l cur u (by omega)) (va_cwS 2 hts (nm_gS nm_476 nm_477 nm_4 nm_c_M_has) rfl rfl rfl (by decide +kernel) ⟨Nat.le_of_ble_eq_true rfl, Nat.le_of_ble_eq_true rfl⟩) ⟨fun _ _ _ _ q => ⟨q.1, trivial⟩, fun U hU hW => ⟨rfl, trivial⟩⟩ rfl rfl hl.1 rfl (lv_room (Nat.le_of_ble_eq_true rfl)) d_M_isReducible_68 ⟨Nat.zero_le _, Nat.zero_le _⟩)) (fun r hr => ?_)
            subst hr
            refine wl_ifeqb (tgt := 104) hx hb d_M_isReducible_71 (by decide) (fun hc71 => ?_) (fun hc71 => ?_)
            · refine lv_iconst (v := nI 0) hx hb d_M_isReducible_104 (by decide) ?_
              refine lv_istore (lv' := [(6, .int (nI 0)), (0, .ref h3), (1, .long cur), (3, .long rest), (5, .int (nI v)), (7, .int (nI u))]) hx hb d_M_isReducible_105 hl (by decide) rfl (fun ls hl => ?_)
              refine lv_iinc (lv' := [(7, .int (nI (u + 1))), (6, .int (nI 0)), (0, .ref h3), (1, .long cur), (3, .long rest), (5, .int (nI v))]) (k := 5) (v := nI (u + 1)) hx hb d_M_isReducible_107 hl rfl (nI_1 u) (by decide) rfl (fun ls hl => ?_)
              refine lv_goto (tgt := 51) hx hb d_M_isReducible_110 (by decide) ?_
              exact ih (false, (u + 1)) (show u + 1 ≤ n ∧ (false = true ↔ ∃ y, y < u + 1 ∧ (fun y => bs_t cur y = true ∧ bs_t (li y) v = true ∧ ¬ sp_Bk n li r y v) y) from ⟨by omega, md_dep_k hI.2 hc62 (fun q => by rw [q.1] at hc71; cases hc71)⟩) (show n - (u + 1) < n - u by omega) _ _ _ hP hD hS (lv_sub hl [2, 3, 4, 5, 1, 0] rfl)
            · refine lv_aload_n hx hb d_M_isReducible_74 rfl (lv_at hl 0 rfl) ?_
              refine va_get (D := (dC, dI)) (ci := 3) (v := .ref k3) (C := "FlowNestModel") (T := T_M) (N := 15) hx hb hts nm_iM hown hK hP 0 rfl rfl 4 (by decide) (hts _ (List.mem_cons_of_mem _ nm_418)) (fun _ h9 => h9) rfl d_M_isReducible_75 ?_
              refine lv_iload hx hb d_M_isReducible_78 (lv_at hl 5 rfl) ?_
              refine wl_lald (i := u) hx hb hK hP 1 0 rfl rfl (by omega) (by decide) d_M_isReducible_80 ?_
              refine lv_iload hx hb d_M_isReducible_81 (lv_at hl 3 rfl) ?_
              refine vp_callSi (va_Run.run (va_runS (As := [.long (li u), .int (nI v)]) (rest := []) ⟨hx, hb, hml, hown, hts⟩ (c_M_has l (li u) v (by omega)) (va_cwS 2 hts (nm_gS nm_476 nm_477 nm_4 nm_c_M_has) rfl rfl rfl (by decide +kernel) ⟨Nat.le_of_ble_eq_true rfl, Nat.le_of_ble_eq_true rfl⟩) ⟨fun _ _ _ _ q => ⟨q.1, trivial⟩, fun U hU hW => ⟨rfl, trivial⟩⟩ rfl rfl hl.1 rfl (lv_room (Nat.le_of_ble_eq_true rfl)) d_M_isReducible_83 ⟨Nat.zero_le _, Nat.zero_le _⟩)) (fun r hr => ?_)
              subst hr
              refine wl_ifeqb (tgt := 104) hx hb d_M_isReducible_86 (by decide) (fun hc86 => ?_) (fun hc86 => ?_)
              · refine lv_iconst (v := nI 0) hx hb d_M_isReducible_104 (by decide) ?_
                refine lv_istore (lv' := [(6, .int (nI 0)), (0, .ref h3), (1, .long cur), (3, .long rest), (5, .int (nI v)), (7, .int (nI u))]) hx hb d_M_isReducible_105 hl (by decide) rfl (fun ls hl => ?_)
                refine lv_iinc (lv' := [(7, .int (nI (u + 1))), (6, .int (nI 0)), (0, .ref h3), (1, .long cur), (3, .long rest), (5, .int (nI v))]) (k := 5) (v := nI (u + 1)) hx hb d_M_isReducible_107 hl rfl (nI_1 u) (by decide) rfl (fun ls hl => ?_)
                refine lv_goto (tgt := 51) hx hb d_M_isReducible_110 (by decide) ?_
                exact ih (false, (u + 1)) (show u + 1 ≤ n ∧ (false = true ↔ ∃ y, y < u + 1 ∧ (fun y => bs_t cur y = true ∧ bs_t (li y) v = true ∧ ¬ sp_Bk n li r y v) y) from ⟨by omega, md_dep_k hI.2 hc62 (fun q => by rw [q.2.1] at hc86; cases hc86)⟩) (show n - (u + 1) < n - u by omega) _ _ _ hP hD hS (lv_sub hl [2, 3, 4, 5, 1, 0] rfl)
              · refine lv_aload_n hx hb d_M_isReducible_89 rfl (lv_at hl 0 rfl) ?_
                refine lv_iload hx hb d_M_isReducible_90 (lv_at hl 5 rfl) ?_
                refine lv_iload hx hb d_M_isReducible_92 (lv_at hl 3 rfl) ?_
                refine vp_callSi (va_Run.run (va_runV (C := "FlowNestModel") (b := h3) (As := [.int (nI u), .int (nI v)]) (rest := []) ⟨hx, hb, hml, hown, hts⟩ (c_M_goesBack l dC dI cJ cI h3 k3 o3 w3 v3 p3 e3 f3 q3 (nI 0) (nI n) (nI r) (nI x) (nI 1) rc3 eg4 li so5 wi6 ew7 lo8 en9 le10 pi11 u v (by omega) (by omega)) (cwV 2 hts (nm_gV nm_504 nm_506 nm_s_M_goesBack nm_4 nm_c_M_goesBack) rfl rfl rfl (by decide +kernel) ⟨Nat.le_of_ble_eq_true rfl, Nat.le_of_ble_eq_true rfl⟩) ⟨cw_blind, va_recv hK hP (ci := 3) rfl (q0 := 0) rfl, cw_pre hP hK hNw⟩ rfl rfl hl.1 rfl (lv_room (Nat.le_of_ble_eq_true rfl)) d_M_isReducible_94 ⟨Nat.zero_le _, Nat.zero_le _⟩)) (fun r12 hr13 => ?_)
                subst hr13
                refine wl_ifneb (tgt := 104) hx hb d_M_isReducible_97 (by decide) (fun hc97 => ?_) (fun hc97 => ?_)
                · refine lv_iconst (v := nI 0) hx hb d_M_isReducible_104 (by decide) ?_
                  refine lv_istore (lv' := [(6, .int (nI 0)), (0, .ref h3), (1, .long cur), (3, .long rest), (5, .int (nI v)), (7, .int (nI u))]) hx hb d_M_isReducible_105 hl (by decide) rfl (fun ls hl => ?_)
                  refine lv_iinc (lv' := [(7, .int (nI (u + 1))), (6, .int (nI 0)), (0, .ref h3), (1, .long cur), (3, .long rest), (5, .int (nI v))]) (k := 5) (v := nI (u + 1)) hx hb d_M_isReducible_107 hl rfl (nI_1 u) (by decide) rfl (fun ls hl => ?_)
                  refine lv_goto (tgt := 51) hx hb d_M_isReducible_110 (by decide) ?_
                  exact ih (false, (u + 1)) (show u + 1 ≤ n ∧ (false = true ↔ ∃ y, y < u + 1 ∧ (fun y => bs_t cur y = true ∧ bs_t (li y) v = true ∧ ¬ sp_Bk n li r y v) y) from ⟨by omega, md_dep_k hI.2 hc62 (fun q => q.2.2 (gf_di.mp ((md_gb_eq (by omega) hr9 hw2.2.1 hw2.2.2.2.1 (by omega) (by omega)).symm.trans hc97)))⟩) (show n - (u + 1) < n - u by omega) _ _ _ hP hD hS (lv_sub hl [2, 3, 4, 5, 1, 0] rfl)
                · refine lv_iconst (v := nI 1) hx hb d_M_isReducible_100 (by decide) ?_
                  refine lv_goto (tgt := 105) hx hb d_M_isReducible_101 (by decide) ?_
                  refine lv_istore (lv' := [(6, .int (nI 1)), (0, .ref h3), (1, .long cur), (3, .long rest), (5, .int (nI v)), (7, .int (nI u))]) hx hb d_M_isReducible_105 hl (by decide) rfl (fun ls hl => ?_)
                  refine lv_iinc (lv' := [(7, .int (nI (u + 1))), (6, .int (nI 1)), (0, .ref h3), (1, .long cur), (3, .long rest), (5, .int (nI v))]) (k := 5) (v := nI (u + 1)) hx hb d_M_isReducible_107 hl rfl (nI_1 u) (by decide) rfl (fun ls hl => ?_)
                  refine lv_goto (tgt := 51) hx hb d_M_isReducible_110 (by decide) ?_
                  exact ih (true, (u + 1)) (show u + 1 ≤ n ∧ (true = true ↔ ∃ y, y < u + 1 ∧ (fun y => bs_t cur y = true ∧ bs_t (li y) v = true ∧ ¬ sp_Bk n li r y v) y) from ⟨by omega, md_dep_n (P := (fun y => bs_t cur y = true ∧ bs_t (li y) v = true ∧ ¬ sp_Bk n li r y v)) ⟨hc71, hc86, gf_df.mp ((md_gb_eq (by omega) hr9 hw2.2.1 hw2.2.2.2.1 (by omega) (by omega)).symm.trans hc97)⟩⟩) (show n - (u + 1) < n - u by omega) _ _ _ hP hD hS (lv_sub hl [2, 3, 4, 5, 1, 0] rfl)
  · refine lv_iconst (v := nI 1) hx hb d_M_isReducible_12 (by decide) ?_
    exact W.zret (v := nI 1) hx hb hr (by decide) (fun t ht hW => ⟨⟨(nI 1), (rc, eg, so, wi, ew, lo, en, le, pi, q), rfl, ⟨hq, ⟨fun _ => rfl, fun h => absurd h (by omega)⟩⟩, by rw [ht]; exact hP, hD⟩, hS.F ht⟩) hS.2.2 d_M_isReducible_13
