/-! contracts of the reference's looks, isReached, level, frontier, loop, order (laid by wip/gen/query.py) -/
set_option maxHeartbeats 4000000 in
set_option maxRecDepth 100000 in
theorem c_M_looks (l : Launch) (dC : Nat → ClassId) (dI : Nat → Nat → Nat) (cJ cI : ClassId) (h3 k3 o3 w3 v3 p3 e3 f3 q3 hs : Nat) (cd : Int32) (ey : Int32) (ex : Int32) (rc : Int64) (eg : Int64) (li : Nat → Int64) (so : Nat → Int64) (wi : Nat → Int64) (ew : Nat → Int64) (lo : Nat → Int64) (en : Nat → Int32) (le : Nat → Int32) (pi : Nat → Int32) (n r x : Nat) (q : Bool) (v : Int32) (hn : n ≤ 48) (hz : 0 < n → ey = nI r ∧ ex = nI x ∧ r < n ∧ x < n) (hL : ∀ u v, gf_E n li u v → v < n) (hq : q = true → md_G n r x li rc eg so wi ew lo en le) : Met l y_M_looks w_M_looks ({ frames := 5, cells := 0, slots := 0, locals := 115 }) (va_Pc [.ref h3, .int v] (cw_M (dC, dI) cJ cI (md_ws cJ cI h3 k3 o3 w3 v3 p3 e3 f3 q3 cd (nI n) ey ex (bs_i q) rc eg li so wi ew lo en le pi) hs)) (va_Qi (fun (r9 : Int32) (u9 : Int64 × Int64 × (Nat → Int64) × (Nat → Int64) × (Nat → Int64) × (Nat → Int64) × (Nat → Int32) × (Nat → Int32) × (Nat → Int32) × Bool × Bool) => match u9 with | (rc9, eg9, so9, wi9, ew9, lo9, en9, le9, pi9, b, k9) => r9 = bs_i b ∧ (b = true ↔ ∃ k, k < n ∧ v = nI k) ∧ (k9 = true → md_G n r x li rc9 eg9 so9 wi9 ew9 lo9 en9 le9) ∧ (b = true → k9 = true)) (fun (u9 : Int64 × Int64 × (Nat → Int64) × (Nat → Int64) × (Nat → Int64) × (Nat → Int64) × (Nat → Int32) × (Nat → Int32) × (Nat → Int32) × Bool × Bool) (t : State) => match u9 with | (rc9, eg9, so9, wi9, ew9, lo9, en9, le9, pi9, b, k9) => va_P (dC, dI) vwCl (md_ws cJ cI h3 k3 o3 w3 v3 p3 e3 f3 q3 (bs_i (!b)) (nI n) ey ex (bs_i k9) rc9 eg9 li so9 wi9 ew9 lo9 en9 le9 pi9) t.heap ∧ va_D (va_A (md_ws cJ cI h3 k3 o3 w3 v3 p3 e3 f3 q3 cd (nI n) ey ex (bs_i q) rc eg li so wi ew lo en le pi) hs) (md_ws cJ cI h3 k3 o3 w3 v3 p3 e3 f3 q3 (bs_i (!b)) (nI n) ey ex (bs_i k9) rc9 eg9 li so9 wi9 ew9 lo9 en9 le9 pi9)) (va_A (md_ws cJ cI h3 k3 o3 w3 v3 p3 e3 f3 q3 cd (nI n) ey ex (bs_i q) rc eg li so wi ew lo en le pi) hs)) 0 0 (va_A (md_ws cJ cI h3 k3 o3 w3 v3 p3 e3 f3 q3 cd (nI n) ey ex (bs_i q) rc eg li so wi ew lo en le pi) hs) := by
  refine Met.ofW (cc := b_M_looks) (maxL := 2) (ret := (some .boolean)) (by decide) rfl ?_
  intro p e s m args below meth c s₁ B hml hv9
  obtain ⟨rfl, hsz, ⟨hP, hK, hNw⟩, hD0⟩ := hv9
  have hx := B.exec
  have hb := B.bytes
  have hr := B.returns
  have hts := atoms_spec (ws := w_M_looks) B.pre
  have hown : s.vm.findClass "FlowNestModel" = some m.cls := findClass_of_methodNamed B.named
  have hlocks := B.notSynchronized
  subst hsz
  have hD := hD0.self (sz := s.heap.size)
  generalize hAe : va_A (md_ws cJ cI h3 k3 o3 w3 v3 p3 e3 f3 q3 cd (nI n) ey ex (bs_i q) rc eg li so wi ew lo en le pi) s.heap.size = A at hD ⊢
  have hA : ∀ q : Nat, s.heap.size ≤ q → A q := fun q h => by rw [← hAe]; exact Or.inr h
  have hS : va_S A s.heap s.heap [] := va_S.rf
  have hP : va_P (dC, dI) vwCl (md_ws cJ cI h3 k3 o3 w3 v3 p3 e3 f3 q3 cd (nI n) ey ex (bs_i q) rc eg li so wi ew lo en le pi) s.heap := hP
  have hl := lv_entry ([.ref h3, .int v]) (n := 2) (Nat.le_of_ble_eq_true rfl)
  rw [lg_entry_eq]
  generalize (lg_sl ([.ref h3, .int v]) ++ List.replicate (2 - (lg_sl ([.ref h3, .int v])).length) Slot.unset).toArray = ls at hl ⊢
  have hl : lv_has ls 2 [(0, .ref h3), (1, .int v)] := hl
  refine lv_aload_n hx hb d_M_looks_0 rfl (lv_at hl 0 rfl) ?_
  refine lv_aload_n hx hb d_M_looks_1 rfl (lv_at hl 0 rfl) ?_
  refine lv_iload_n hx hb d_M_looks_2 rfl (lv_at hl 1 rfl) ?_
  refine vp_callSi (va_Run.run (va_runV (C := "FlowNestModel") (b := h3) (As := [.int v]) (rest := [.ref h3]) ⟨hx, hb, hml, hown, hts⟩ (c_M_isVertex l dC dI cJ cI h3 k3 o3 w3 v3 p3 e3 f3 q3 cd ey ex (bs_i q) rc eg li so wi ew lo en le pi n v hn) (cwV 1 hts (nm_gV nm_472 nm_474 nm_s_M_isVertex nm_4 nm_c_M_isVertex) rfl rfl rfl (by decide +kernel) ⟨Nat.le_of_ble_eq_true rfl, Nat.le_of_ble_eq_true rfl⟩) ⟨cw_blind, va_recv hK hP (ci := 3) rfl (q0 := 0) rfl, cw_pre hP hK hNw⟩ rfl rfl hl.1 rfl (lv_room (Nat.le_of_ble_eq_true rfl)) d_M_looks_3 ⟨Nat.zero_le _, Nat.zero_le _⟩)) (fun r1 hr2 => ?_)
  obtain ⟨b3, rfl, hb4⟩ := vn_bool hr2
  refine wl_ifeqb (tgt := 13) hx hb d_M_looks_6 (by decide) (fun hc6 => ?_) (fun hc6 => ?_)
  · refine lv_iconst (v := nI 1) hx hb d_M_looks_13 (by decide) ?_
    refine va_put (D := (dC, dI)) (ci := 3) (v := .int (nI 1)) (ty := .int) (C := "FlowNestModel") (T := T_M) (N := 15) hx hb hts nm_iM t_M t_M_ok nm_M hown hK hP hD hS 0 rfl rfl 0 (by decide) (hts _ (List.mem_cons_of_mem _ nm_414)) (fun _ h9 => h9) rfl (by decide +kernel) (by rfl) (by rfl) (Nat.le_of_ble_eq_true rfl) d_M_looks_14 (fun H locs hP hD hS => ?_)
    have hP : va_P (dC, dI) vwCl (md_ws cJ cI h3 k3 o3 w3 v3 p3 e3 f3 q3 (nI 1) (nI n) ey ex (bs_i q) rc eg li so wi ew lo en le pi) H := hP
    have hD : va_D A (md_ws cJ cI h3 k3 o3 w3 v3 p3 e3 f3 q3 (nI 1) (nI n) ey ex (bs_i q) rc eg li so wi ew lo en le pi) := hD
    refine lv_aload_n hx hb d_M_looks_17 rfl (lv_at hl 0 rfl) ?_
    refine va_get (D := (dC, dI)) (ci := 3) (v := .int (nI 1)) (C := "FlowNestModel") (T := T_M) (N := 15) hx hb hts nm_iM hown hK hP 0 rfl rfl 0 (by decide) (hts _ (List.mem_cons_of_mem _ nm_414)) (fun _ h9 => h9) rfl d_M_looks_18 ?_
    refine wl_ifnen (tgt := 28) hx hb (by omega) d_M_looks_21 (by decide) (fun hc21 => ?_) (fun hc21 => ?_)
    · refine lv_aload_n hx hb d_M_looks_28 rfl (lv_at hl 0 rfl) ?_
      refine va_get (D := (dC, dI)) (ci := 3) (v := .int (nI 1)) (C := "FlowNestModel") (T := T_M) (N := 15) hx hb hts nm_iM hown hK hP 0 rfl rfl 0 (by decide) (hts _ (List.mem_cons_of_mem _ nm_414)) (fun _ h9 => h9) rfl d_M_looks_29 ?_
      refine wl_ifnen (tgt := 39) hx hb (by omega) d_M_looks_32 (by decide) (fun hc32 => ?_) (fun hc32 => ?_)
      · refine lv_iconst (v := nI 0) hx hb d_M_looks_39 (by decide) ?_
        exact W.zret (v := nI 0) hx hb hr (by decide) (fun t ht hW => ⟨⟨(nI 0), (rc, eg, so, wi, ew, lo, en, le, pi, false, q), rfl, ⟨rfl, by rw [← hc6]; exact hb4, hq, fun h => by cases h⟩, by rw [ht]; exact hP, hD⟩, hS.F ht⟩) hS.2.2 d_M_looks_40
      · exact absurd hc32 (by decide)
    · exact absurd hc21 (by decide)
  · obtain ⟨k0, hk0, hv0⟩ := hb4.mp hc6
    obtain ⟨rfl, rfl, hr9, hx9⟩ := hz (by omega)
    refine lv_iconst (v := nI 0) hx hb d_M_looks_9 (by decide) ?_
    refine lv_goto (tgt := 14) hx hb d_M_looks_10 (by decide) ?_
    refine va_put (D := (dC, dI)) (ci := 3) (v := .int (nI 0)) (ty := .int) (C := "FlowNestModel") (T := T_M) (N := 15) hx hb hts nm_iM t_M t_M_ok nm_M hown hK hP hD hS 0 rfl rfl 0 (by decide) (hts _ (List.mem_cons_of_mem _ nm_414)) (fun _ h9 => h9) rfl (by decide +kernel) (by rfl) (by rfl) (Nat.le_of_ble_eq_true rfl) d_M_looks_14 (fun H locs hP hD hS => ?_)
    have hP : va_P (dC, dI) vwCl (md_ws cJ cI h3 k3 o3 w3 v3 p3 e3 f3 q3 (nI 0) (nI n) (nI r) (nI x) (bs_i q) rc eg li so wi ew lo en le pi) H := hP
    have hD : va_D A (md_ws cJ cI h3 k3 o3 w3 v3 p3 e3 f3 q3 (nI 0) (nI n) (nI r) (nI x) (bs_i q) rc eg li so wi ew lo en le pi) := hD
    refine lv_aload_n hx hb d_M_looks_17 rfl (lv_at hl 0 rfl) ?_
    refine va_get (D := (dC, dI)) (ci := 3) (v := .int (nI 0)) (C := "FlowNestModel") (T := T_M) (N := 15) hx hb hts nm_iM hown hK hP 0 rfl rfl 0 (by decide) (hts _ (List.mem_cons_of_mem _ nm_414)) (fun _ h9 => h9) rfl d_M_looks_18 ?_
    refine wl_ifnen (tgt := 28) hx hb (by omega) d_M_looks_21 (by decide) (fun hc21 => ?_) (fun hc21 => ?_)
    · exact absurd hc21 (by decide)
    · refine lv_aload_n hx hb d_M_looks_24 rfl (lv_at hl 0 rfl) ?_
      have hPc := hP.sub (ws' := md_ws cJ cI h3 k3 o3 w3 v3 p3 e3 f3 q3 (nI 0) (nI n) (nI r) (nI x) (bs_i q) rc eg li so wi ew lo en le pi) [0, 1, 2, 3, 4, 5, 6, 7, 8] rfl
      have hDc := hD.sub (ws' := md_ws cJ cI h3 k3 o3 w3 v3 p3 e3 f3 q3 (nI 0) (nI n) (nI r) (nI x) (bs_i q) rc eg li so wi ew lo en le pi) [0, 1, 2, 3, 4, 5, 6, 7, 8] (by decide) rfl
      have hFc := va_free (wc := md_ws cJ cI h3 k3 o3 w3 v3 p3 e3 f3 q3 (nI 0) (nI n) (nI r) (nI x) (bs_i q) rc eg li so wi ew lo en le pi) hD hS hA [0, 1, 2, 3, 4, 5, 6, 7, 8] rfl
      refine va_callv (va_runV (C := "FlowNestModel") (b := h3) (As := []) (rest := []) ⟨hx, hb, hml, hown, hts⟩ (c_M_learn l dC dI cJ cI h3 k3 o3 w3 v3 p3 e3 f3 q3 H.size (nI 0) rc eg li so wi ew lo en le pi n r x q hn hr9 hx9 hL hq) (cwV 0 hts (nm_gV nm_492 nm_494 nm_s_M_learn nm_4 nm_c_M_learn) rfl rfl rfl (by decide +kernel) ⟨Nat.le_of_ble_eq_true rfl, Nat.le_of_ble_eq_true rfl⟩) ⟨cw_blindM, va_recv hK hP (ci := 3) rfl (q0 := 0) rfl, cw_preM hPc hDc hK hNw⟩ rfl rfl hl.1 rfl (lv_room (Nat.le_of_ble_eq_true rfl)) d_M_looks_25 ⟨Nat.zero_le _, Nat.zero_le _⟩) hS (fun q _ h => hFc q h) hFc (fun u9 t H1 locs ht hvm hw6 hB hz1 hk1 hS => ?_)
      obtain ⟨rc7, eg8, so9, wi10, ew11, lo12, en13, le14, pi15⟩ := u9
      obtain ⟨hP1, hD1⟩ := hB
      rw [ht] at hP1
      obtain ⟨hP, hD⟩ := va_join (wr := ([] : List Nat).filterMap (fun (i : Nat) => (md_ws cJ cI h3 k3 o3 w3 v3 p3 e3 f3 q3 (nI 0) (nI n) (nI r) (nI x) (bs_i q) rc eg li so wi ew lo en le pi)[i]?)) (w1 := md_ws cJ cI h3 k3 o3 w3 v3 p3 e3 f3 q3 (nI 0) (nI n) (nI r) (nI x) (nI 1) rc7 eg8 li so9 wi10 ew11 lo12 en13 le14 pi15) hP hD [0, 1, 2, 3, 4, 5, 6, 7, 8] [] rfl rfl (by decide) (by decide) hk1 hFc hP1 hD1
      generalize H1 = H at hP hS ⊢
      have hP : va_P (dC, dI) vwCl (md_ws cJ cI h3 k3 o3 w3 v3 p3 e3 f3 q3 (nI 0) (nI n) (nI r) (nI x) (nI 1) rc7 eg8 li so9 wi10 ew11 lo12 en13 le14 pi15) H := hP.sub (ws' := md_ws cJ cI h3 k3 o3 w3 v3 p3 e3 f3 q3 (nI 0) (nI n) (nI r) (nI x) (nI 1) rc7 eg8 li so9 wi10 ew11 lo12 en13 le14 pi15) [0, 1, 2, 3, 4, 5, 6, 7, 8] rfl
      have hD : va_D A (md_ws cJ cI h3 k3 o3 w3 v3 p3 e3 f3 q3 (nI 0) (nI n) (nI r) (nI x) (nI 1) rc7 eg8 li so9 wi10 ew11 lo12 en13 le14 pi15) := hD.sub (ws' := md_ws cJ cI h3 k3 o3 w3 v3 p3 e3 f3 q3 (nI 0) (nI n) (nI r) (nI x) (nI 1) rc7 eg8 li so9 wi10 ew11 lo12 en13 le14 pi15) [0, 1, 2, 3, 4, 5, 6, 7, 8] (by decide) rfl
      refine lv_aload_n hx hb d_M_looks_28 rfl (lv_at hl 0 rfl) ?_
      refine va_get (D := (dC, dI)) (ci := 3) (v := .int (nI 0)) (C := "FlowNestModel") (T := T_M) (N := 15) hx hb hts nm_iM hown hK hP 0 rfl rfl 0 (by decide) (hts _ (List.mem_cons_of_mem _ nm_414)) (fun _ h9 => h9) rfl d_M_looks_29 ?_
      refine wl_ifnen (tgt := 39) hx hb (by omega) d_M_looks_32 (by decide) (fun hc32 => ?_) (fun hc32 => ?_)
      · exact absurd hc32 (by decide)
      · refine lv_iconst (v := nI 1) hx hb d_M_looks_35 (by decide) ?_
        refine lv_goto (tgt := 40) hx hb d_M_looks_36 (by decide) ?_
        exact W.zret (v := nI 1) hx hb hr (by decide) (fun t ht hW => ⟨⟨(nI 1), (rc7, eg8, so9, wi10, ew11, lo12, en13, le14, pi15, true, true), rfl, ⟨rfl, ⟨fun _ => hb4.mp hc6, fun _ => rfl⟩, fun _ => hw6, fun _ => rfl⟩, by rw [ht]; exact hP, hD⟩, hS.F ht⟩) hS.2.2 d_M_looks_40
set_option maxHeartbeats 4000000 in
set_option maxRecDepth 100000 in
theorem c_M_isReached (l : Launch) (dC : Nat → ClassId) (dI : Nat → Nat → Nat) (cJ cI : ClassId) (h3 k3 o3 w3 v3 p3 e3 f3 q3 hs : Nat) (cd : Int32) (ey : Int32) (ex : Int32) (rc : Int64) (eg : Int64) (li : Nat → Int64) (so : Nat → Int64) (wi : Nat → Int64) (ew : Nat → Int64) (lo : Nat → Int64) (en : Nat → Int32) (le : Nat → Int32) (pi : Nat → Int32) (n r x : Nat) (q : Bool) (v : Int32) (cv : Bool) (hn : n ≤ 48) (hz : 0 < n → ey = nI r ∧ ex = nI x ∧ r < n ∧ x < n) (hL : ∀ u v, gf_E n li u v → v < n) (hq : q = true → md_G n r x li rc eg so wi ew lo en le) : Met l y_M_isReached w_M_isReached ({ frames := 6, cells := 0, slots := 0, locals := 136 }) (va_Pc [.ref h3, .int v, .int (bs_i cv)] (cw_M (dC, dI) cJ cI (md_ws cJ cI h3 k3 o3 w3 v3 p3 e3 f3 q3 cd (nI n) ey ex (bs_i q) rc eg li so wi ew lo en le pi) hs)) (va_Qi (fun (r9 : Int32) (u9 : Int64 × Int64 × (Nat → Int64) × (Nat → Int64) × (Nat → Int64) × (Nat → Int64) × (Nat → Int32) × (Nat → Int32) × (Nat → Int32) × Bool × Bool) => match u9 with | (rc9, eg9, so9, wi9, ew9, lo9, en9, le9, pi9, b, k9) => (b = true ↔ ∃ k, k < n ∧ v = nI k) ∧ (k9 = true → md_G n r x li rc9 eg9 so9 wi9 ew9 lo9 en9 le9) ∧ (b = true → ∃ k, k < n ∧ v = nI k ∧ r9 = bs_i (gf_d (gf_R (gf_E n (gg_L cv n li)) (gg_r cv r x) k)))) (fun (u9 : Int64 × Int64 × (Nat → Int64) × (Nat → Int64) × (Nat → Int64) × (Nat → Int64) × (Nat → Int32) × (Nat → Int32) × (Nat → Int32) × Bool × Bool) (t : State) => match u9 with | (rc9, eg9, so9, wi9, ew9, lo9, en9, le9, pi9, b, k9) => va_P (dC, dI) vwCl (md_ws cJ cI h3 k3 o3 w3 v3 p3 e3 f3 q3 (bs_i (!b)) (nI n) ey ex (bs_i k9) rc9 eg9 li so9 wi9 ew9 lo9 en9 le9 pi9) t.heap ∧ va_D (va_A (md_ws cJ cI h3 k3 o3 w3 v3 p3 e3 f3 q3 cd (nI n) ey ex (bs_i q) rc eg li so wi ew lo en le pi) hs) (md_ws cJ cI h3 k3 o3 w3 v3 p3 e3 f3 q3 (bs_i (!b)) (nI n) ey ex (bs_i k9) rc9 eg9 li so9 wi9 ew9 lo9 en9 le9 pi9)) (va_A (md_ws cJ cI h3 k3 o3 w3 v3 p3 e3 f3 q3 cd (nI n) ey ex (bs_i q) rc eg li so wi ew lo en le pi) hs)) 0 0 (va_A (md_ws cJ cI h3 k3 o3 w3 v3 p3 e3 f3 q3 cd (nI n) ey ex (bs_i q) rc eg li so wi ew lo en le pi) hs) := by
  refine Met.ofW (cc := b_M_isReached) (maxL := 3) (ret := (some .boolean)) (by decide) rfl ?_
  intro p e s m args below meth c s₁ B hml hv9
  obtain ⟨rfl, hsz, ⟨hP, hK, hNw⟩, hD0⟩ := hv9
  have hx := B.exec
  have hb := B.bytes
  have hr := B.returns
  have hts := atoms_spec (ws := w_M_isReached) B.pre
  have hown : s.vm.findClass "FlowNestModel" = some m.cls := findClass_of_methodNamed B.named
  have hlocks := B.notSynchronized
  subst hsz
  have hD := hD0.self (sz := s.heap.size)
  generalize hAe : va_A (md_ws cJ cI h3 k3 o3 w3 v3 p3 e3 f3 q3 cd (nI n) ey ex (bs_i q) rc eg li so wi ew lo en le pi) s.heap.size = A at hD ⊢
  have hA : ∀ q : Nat, s.heap.size ≤ q → A q := fun q h => by rw [← hAe]; exact Or.inr h
  have hS : va_S A s.heap s.heap [] := va_S.rf
  have hP : va_P (dC, dI) vwCl (md_ws cJ cI h3 k3 o3 w3 v3 p3 e3 f3 q3 cd (nI n) ey ex (bs_i q) rc eg li so wi ew lo en le pi) s.heap := hP
  have hl := lv_entry ([.ref h3, .int v, .int (bs_i cv)]) (n := 3) (Nat.le_of_ble_eq_true rfl)
  rw [lg_entry_eq]
  generalize (lg_sl ([.ref h3, .int v, .int (bs_i cv)]) ++ List.replicate (3 - (lg_sl ([.ref h3, .int v, .int (bs_i cv)])).length) Slot.unset).toArray = ls at hl ⊢
  have hl : lv_has ls 3 [(0, .ref h3), (1, .int v), (2, .int (bs_i cv))] := hl
  refine lv_aload_n hx hb d_M_isReached_0 rfl (lv_at hl 0 rfl) ?_
  refine lv_iload_n hx hb d_M_isReached_1 rfl (lv_at hl 1 rfl) ?_
  have hPc := hP.sub (ws' := md_ws cJ cI h3 k3 o3 w3 v3 p3 e3 f3 q3 cd (nI n) ey ex (bs_i q) rc eg li so wi ew lo en le pi) [0, 1, 2, 3, 4, 5, 6, 7, 8] rfl
  have hDc := hD.sub (ws' := md_ws cJ cI h3 k3 o3 w3 v3 p3 e3 f3 q3 cd (nI n) ey ex (bs_i q) rc eg li so wi ew lo en le pi) [0, 1, 2, 3, 4, 5, 6, 7, 8] (by decide) rfl
  have hFc := va_free (wc := md_ws cJ cI h3 k3 o3 w3 v3 p3 e3 f3 q3 cd (nI n) ey ex (bs_i q) rc eg li so wi ew lo en le pi) hD hS hA [0, 1, 2, 3, 4, 5, 6, 7, 8] rfl
  refine va_calli (va_runV (C := "FlowNestModel") (b := h3) (As := [.int v]) (rest := []) ⟨hx, hb, hml, hown, hts⟩ (c_M_looks l dC dI cJ cI h3 k3 o3 w3 v3 p3 e3 f3 q3 s.heap.size cd ey ex rc eg li so wi ew lo en le pi n r x q v hn hz hL hq) (cwV 1 hts (nm_gV nm_488 nm_490 nm_s_M_looks nm_4 nm_c_M_looks) rfl rfl rfl (by decide +kernel) ⟨Nat.le_of_ble_eq_true rfl, Nat.le_of_ble_eq_true rfl⟩) ⟨cw_blindM, va_recv hK hP (ci := 3) rfl (q0 := 0) rfl, cw_preM hPc hDc hK hNw⟩ rfl rfl hl.1 rfl (lv_room (Nat.le_of_ble_eq_true rfl)) d_M_isReached_2 ⟨Nat.zero_le _, Nat.zero_le _⟩) hS (fun q _ h => hFc q h) hFc (fun r1 u9 t H1 locs ht hvm hw2 hB hz1 hk1 hS => ?_)
  obtain ⟨rc3, eg4, so5, wi6, ew7, lo8, en9, le10, pi11, b12, k13⟩ := u9
  obtain ⟨hP1, hD1⟩ := hB
  rw [ht] at hP1
  obtain ⟨hP, hD⟩ := va_join (wr := ([] : List Nat).filterMap (fun (i : Nat) => (md_ws cJ cI h3 k3 o3 w3 v3 p3 e3 f3 q3 cd (nI n) ey ex (bs_i q) rc eg li so wi ew lo en le pi)[i]?)) (w1 := md_ws cJ cI h3 k3 o3 w3 v3 p3 e3 f3 q3 (bs_i (!b12)) (nI n) ey ex (bs_i k13) rc3 eg4 li so5 wi6 ew7 lo8 en9 le10 pi11) hP hD [0, 1, 2, 3, 4, 5, 6, 7, 8] [] rfl rfl (by decide) (by decide) hk1 hFc hP1 hD1
  generalize H1 = H at hP hS ⊢
  have hP : va_P (dC, dI) vwCl (md_ws cJ cI h3 k3 o3 w3 v3 p3 e3 f3 q3 (bs_i (!b12)) (nI n) ey ex (bs_i k13) rc3 eg4 li so5 wi6 ew7 lo8 en9 le10 pi11) H := hP.sub (ws' := md_ws cJ cI h3 k3 o3 w3 v3 p3 e3 f3 q3 (bs_i (!b12)) (nI n) ey ex (bs_i k13) rc3 eg4 li so5 wi6 ew7 lo8 en9 le10 pi11) [0, 1, 2, 3, 4, 5, 6, 7, 8] rfl
  have hD : va_D A (md_ws cJ cI h3 k3 o3 w3 v3 p3 e3 f3 q3 (bs_i (!b12)) (nI n) ey ex (bs_i k13) rc3 eg4 li so5 wi6 ew7 lo8 en9 le10 pi11) := hD.sub (ws' := md_ws cJ cI h3 k3 o3 w3 v3 p3 e3 f3 q3 (bs_i (!b12)) (nI n) ey ex (bs_i k13) rc3 eg4 li so5 wi6 ew7 lo8 en9 le10 pi11) [0, 1, 2, 3, 4, 5, 6, 7, 8] (by decide) rfl
  obtain ⟨rfl, hb_0, hG_0, hk_0⟩ := hw2
  refine wl_ifeqb (tgt := 34) hx hb d_M_isReached_5 (by decide) (fun hc5 => ?_) (fun hc5 => ?_)
  · refine lv_iconst (v := nI 0) hx hb d_M_isReached_34 (by decide) ?_
    exact W.zret (v := nI 0) hx hb hr (by decide) (fun t ht hW => ⟨⟨(nI 0), (rc3, eg4, so5, wi6, ew7, lo8, en9, le10, pi11, b12, k13), rfl, ⟨hb_0, hG_0, fun h => by rw [hc5] at h; cases h⟩, by rw [ht]; exact hP, hD⟩, hS.F ht⟩) hS.2.2 d_M_isReached_35
  · obtain ⟨k, hk_k, rfl⟩ := hb_0.mp hc5
    have hG9 := hG_0 (hk_0 hc5)
    obtain ⟨rfl, rfl, hr9, hx9⟩ := hz (by omega)
    have hP : va_P (dC, dI) vwCl (md_ws cJ cI h3 k3 o3 w3 v3 p3 e3 f3 q3 (bs_i (!b12)) (nI n) (nI r) (nI x) (bs_i k13) rc3 eg4 li so5 wi6 ew7 lo8 en9 le10 pi11) H := hP
    have hD : va_D A (md_ws cJ cI h3 k3 o3 w3 v3 p3 e3 f3 q3 (bs_i (!b12)) (nI n) (nI r) (nI x) (bs_i k13) rc3 eg4 li so5 wi6 ew7 lo8 en9 le10 pi11) := hD
    refine lv_iload_n hx hb d_M_isReached_8 rfl (lv_at hl 2 rfl) ?_
    refine wl_ifeqb (tgt := 19) hx hb d_M_isReached_9 (by decide) (fun hc9 => ?_) (fun hc9 => ?_)
    · refine lv_aload_n hx hb d_M_isReached_19 rfl (lv_at hl 0 rfl) ?_
      refine va_get (D := (dC, dI)) (ci := 3) (v := .long rc3) (C := "FlowNestModel") (T := T_M) (N := 15) hx hb hts nm_iM hown hK hP 0 rfl rfl 7 (by decide) (hts _ (List.mem_cons_of_mem _ nm_421)) (fun _ h9 => h9) rfl d_M_isReached_20 ?_
      refine lv_iload_n hx hb d_M_isReached_23 rfl (lv_at hl 1 rfl) ?_
      refine vp_callSi (va_Run.run (va_runS (As := [.long rc3, .int (nI k)]) (rest := []) ⟨hx, hb, hml, hown, hts⟩ (c_M_has l rc3 k (by omega)) (va_cwS 2 hts (nm_gS nm_476 nm_477 nm_4 nm_c_M_has) rfl rfl rfl (by decide +kernel) ⟨Nat.le_of_ble_eq_true rfl, Nat.le_of_ble_eq_true rfl⟩) ⟨fun _ _ _ _ q => ⟨q.1, trivial⟩, fun U hU hW => ⟨rfl, trivial⟩⟩ rfl rfl hl.1 rfl (lv_room (Nat.le_of_ble_eq_true rfl)) d_M_isReached_24 ⟨Nat.zero_le _, Nat.zero_le _⟩)) (fun r hr => ?_)
      subst hr
      refine wl_ifeqb (tgt := 34) hx hb d_M_isReached_27 (by decide) (fun hc27 => ?_) (fun hc27 => ?_)
      · refine lv_iconst (v := nI 0) hx hb d_M_isReached_34 (by decide) ?_
        exact W.zret (v := nI 0) hx hb hr (by decide) (fun t ht hW => ⟨⟨(nI 0), (rc3, eg4, so5, wi6, ew7, lo8, en9, le10, pi11, b12, k13), rfl, ⟨⟨fun _ => ⟨k, hk_k, rfl⟩, fun _ => hc5⟩, hG_0, fun _ => ⟨k, hk_k, rfl, by rw [hc9]; exact (bs_i_f ((md_rch hG9 false k).symm.trans hc27)).symm⟩⟩, by rw [ht]; exact hP, hD⟩, hS.F ht⟩) hS.2.2 d_M_isReached_35
      · refine lv_iconst (v := nI 1) hx hb d_M_isReached_30 (by decide) ?_
        refine lv_goto (tgt := 35) hx hb d_M_isReached_31 (by decide) ?_
        exact W.zret (v := nI 1) hx hb hr (by decide) (fun t ht hW => ⟨⟨(nI 1), (rc3, eg4, so5, wi6, ew7, lo8, en9, le10, pi11, b12, k13), rfl, ⟨⟨fun _ => ⟨k, hk_k, rfl⟩, fun _ => hc5⟩, hG_0, fun _ => ⟨k, hk_k, rfl, by rw [hc9]; exact (bs_i_t (by rw [← md_rch hG9 false k]; rw [show bs_t (if false = true then _ else _) k = true from hc27]; decide)).symm⟩⟩, by rw [ht]; exact hP, hD⟩, hS.F ht⟩) hS.2.2 d_M_isReached_35
    · refine lv_aload_n hx hb d_M_isReached_12 rfl (lv_at hl 0 rfl) ?_
      refine va_get (D := (dC, dI)) (ci := 3) (v := .long eg4) (C := "FlowNestModel") (T := T_M) (N := 15) hx hb hts nm_iM hown hK hP 0 rfl rfl 8 (by decide) (hts _ (List.mem_cons_of_mem _ nm_422)) (fun _ h9 => h9) rfl d_M_isReached_13 ?_
      refine lv_goto (tgt := 23) hx hb d_M_isReached_16 (by decide) ?_
      refine lv_iload_n hx hb d_M_isReached_23 rfl (lv_at hl 1 rfl) ?_
      refine vp_callSi (va_Run.run (va_runS (As := [.long eg4, .int (nI k)]) (rest := []) ⟨hx, hb, hml, hown, hts⟩ (c_M_has l eg4 k (by omega)) (va_cwS 2 hts (nm_gS nm_476 nm_477 nm_4 nm_c_M_has) rfl rfl rfl (by decide +kernel) ⟨Nat.le_of_ble_eq_true rfl, Nat.le_of_ble_eq_true rfl⟩) ⟨fun _ _ _ _ q => ⟨q.1, trivial⟩, fun U hU hW => ⟨rfl, trivial⟩⟩ rfl rfl hl.1 rfl (lv_room (Nat.le_of_ble_eq_true rfl)) d_M_isReached_24 ⟨Nat.zero_le _, Nat.zero_le _⟩)) (fun r hr => ?_)
      subst hr
      refine wl_ifeqb (tgt := 34) hx hb d_M_isReached_27 (by decide) (fun hc27 => ?_) (fun hc27 => ?_)
      · refine lv_iconst (v := nI 0) hx hb d_M_isReached_34 (by decide) ?_
        exact W.zret (v := nI 0) hx hb hr (by decide) (fun t ht hW => ⟨⟨(nI 0), (rc3, eg4, so5, wi6, ew7, lo8, en9, le10, pi11, b12, k13), rfl, ⟨⟨fun _ => ⟨k, hk_k, rfl⟩, fun _ => hc5⟩, hG_0, fun _ => ⟨k, hk_k, rfl, by rw [hc9]; exact (bs_i_f ((md_rch hG9 true k).symm.trans hc27)).symm⟩⟩, by rw [ht]; exact hP, hD⟩, hS.F ht⟩) hS.2.2 d_M_isReached_35
      · refine lv_iconst (v := nI 1) hx hb d_M_isReached_30 (by decide) ?_
        refine lv_goto (tgt := 35) hx hb d_M_isReached_31 (by decide) ?_
        exact W.zret (v := nI 1) hx hb hr (by decide) (fun t ht hW => ⟨⟨(nI 1), (rc3, eg4, so5, wi6, ew7, lo8, en9, le10, pi11, b12, k13), rfl, ⟨⟨fun _ => ⟨k, hk_k, rfl⟩, fun _ => hc5⟩, hG_0, fun _ => ⟨k, hk_k, rfl, by rw [hc9]; exact (bs_i_t (by rw [← md_rch hG9 true k]; rw [show bs_t (if true = true then _ else _) k = true from hc27]; decide)).symm⟩⟩, by rw [ht]; exact hP, hD⟩, hS.F ht⟩) hS.2.2 d_M_isReached_35
set_option maxHeartbeats 4000000 in
set_option maxRecDepth 100000 in
theorem c_M_level (l : Launch) (dC : Nat → ClassId) (dI : Nat → Nat → Nat) (cJ cI : ClassId) (h3 k3 o3 w3 v3 p3 e3 f3 q3 hs : Nat) (cd : Int32) (ey : Int32) (ex : Int32) (rc : Int64) (eg : Int64) (li : Nat → Int64) (so : Nat → Int64) (wi : Nat → Int64) (ew : Nat → Int64) (lo : Nat → Int64) (en : Nat → Int32) (le : Nat → Int32) (pi : Nat → Int32) (n r x : Nat) (q : Bool) (v : Int32)  (hn : n ≤ 48) (hz : 0 < n → ey = nI r ∧ ex = nI x ∧ r < n ∧ x < n) (hL : ∀ u v, gf_E n li u v → v < n) (hq : q = true → md_G n r x li rc eg so wi ew lo en le) : Met l y_M_level w_M_level ({ frames := 6, cells := 0, slots := 0, locals := 136 }) (va_Pc [.ref h3, .int v] (cw_M (dC, dI) cJ cI (md_ws cJ cI h3 k3 o3 w3 v3 p3 e3 f3 q3 cd (nI n) ey ex (bs_i q) rc eg li so wi ew lo en le pi) hs)) (va_Qi (fun (r9 : Int32) (u9 : Int64 × Int64 × (Nat → Int64) × (Nat → Int64) × (Nat → Int64) × (Nat → Int64) × (Nat → Int32) × (Nat → Int32) × (Nat → Int32) × Bool × Bool) => match u9 with | (rc9, eg9, so9, wi9, ew9, lo9, en9, le9, pi9, b, k9) => (b = true ↔ ∃ k, k < n ∧ v = nI k) ∧ (k9 = true → md_G n r x li rc9 eg9 so9 wi9 ew9 lo9 en9 le9) ∧ (b = true → ∃ k, k < n ∧ v = nI k ∧ r9 = @ite _ (gf_R (gf_E n li) r k) (Classical.propDecidable _) (nI (sp_rk n li r k) - nI 1) (-1))) (fun (u9 : Int64 × Int64 × (Nat → Int64) × (Nat → Int64) × (Nat → Int64) × (Nat → Int64) × (Nat → Int32) × (Nat → Int32) × (Nat → Int32) × Bool × Bool) (t : State) => match u9 with | (rc9, eg9, so9, wi9, ew9, lo9, en9, le9, pi9, b, k9) => va_P (dC, dI) vwCl (md_ws cJ cI h3 k3 o3 w3 v3 p3 e3 f3 q3 (bs_i (!b)) (nI n) ey ex (bs_i k9) rc9 eg9 li so9 wi9 ew9 lo9 en9 le9 pi9) t.heap ∧ va_D (va_A (md_ws cJ cI h3 k3 o3 w3 v3 p3 e3 f3 q3 cd (nI n) ey ex (bs_i q) rc eg li so wi ew lo en le pi) hs) (md_ws cJ cI h3 k3 o3 w3 v3 p3 e3 f3 q3 (bs_i (!b)) (nI n) ey ex (bs_i k9) rc9 eg9 li so9 wi9 ew9 lo9 en9 le9 pi9)) (va_A (md_ws cJ cI h3 k3 o3 w3 v3 p3 e3 f3 q3 cd (nI n) ey ex (bs_i q) rc eg li so wi ew lo en le pi) hs)) 0 0 (va_A (md_ws cJ cI h3 k3 o3 w3 v3 p3 e3 f3 q3 cd (nI n) ey ex (bs_i q) rc eg li so wi ew lo en le pi) hs) := by
  refine Met.ofW (cc := b_M_level) (maxL := 2) (ret := (some .int)) (by decide) rfl ?_
  intro p e s m args below meth c s₁ B hml hv9
  obtain ⟨rfl, hsz, ⟨hP, hK, hNw⟩, hD0⟩ := hv9
  have hx := B.exec
  have hb := B.bytes
  have hr := B.returns
  have hts := atoms_spec (ws := w_M_level) B.pre
  have hown : s.vm.findClass "FlowNestModel" = some m.cls := findClass_of_methodNamed B.named
  have hlocks := B.notSynchronized
  subst hsz
  have hD := hD0.self (sz := s.heap.size)
  generalize hAe : va_A (md_ws cJ cI h3 k3 o3 w3 v3 p3 e3 f3 q3 cd (nI n) ey ex (bs_i q) rc eg li so wi ew lo en le pi) s.heap.size = A at hD ⊢
  have hA : ∀ q : Nat, s.heap.size ≤ q → A q := fun q h => by rw [← hAe]; exact Or.inr h
  have hS : va_S A s.heap s.heap [] := va_S.rf
  have hP : va_P (dC, dI) vwCl (md_ws cJ cI h3 k3 o3 w3 v3 p3 e3 f3 q3 cd (nI n) ey ex (bs_i q) rc eg li so wi ew lo en le pi) s.heap := hP
  have hl := lv_entry ([.ref h3, .int v]) (n := 2) (Nat.le_of_ble_eq_true rfl)
  rw [lg_entry_eq]
  generalize (lg_sl ([.ref h3, .int v]) ++ List.replicate (2 - (lg_sl ([.ref h3, .int v])).length) Slot.unset).toArray = ls at hl ⊢
  have hl : lv_has ls 2 [(0, .ref h3), (1, .int v)] := hl
  refine lv_aload_n hx hb d_M_level_0 rfl (lv_at hl 0 rfl) ?_
  refine lv_iload_n hx hb d_M_level_1 rfl (lv_at hl 1 rfl) ?_
  have hPc := hP.sub (ws' := md_ws cJ cI h3 k3 o3 w3 v3 p3 e3 f3 q3 cd (nI n) ey ex (bs_i q) rc eg li so wi ew lo en le pi) [0, 1, 2, 3, 4, 5, 6, 7, 8] rfl
  have hDc := hD.sub (ws' := md_ws cJ cI h3 k3 o3 w3 v3 p3 e3 f3 q3 cd (nI n) ey ex (bs_i q) rc eg li so wi ew lo en le pi) [0, 1, 2, 3, 4, 5, 6, 7, 8] (by decide) rfl
  have hFc := va_free (wc := md_ws cJ cI h3 k3 o3 w3 v3 p3 e3 f3 q3 cd (nI n) ey ex (bs_i q) rc eg li so wi ew lo en le pi) hD hS hA [0, 1, 2, 3, 4, 5, 6, 7, 8] rfl
  refine va_calli (va_runV (C := "FlowNestModel") (b := h3) (As := [.int v]) (rest := []) ⟨hx, hb, hml, hown, hts⟩ (c_M_looks l dC dI cJ cI h3 k3 o3 w3 v3 p3 e3 f3 q3 s.heap.size cd ey ex rc eg li so wi ew lo en le pi n r x q v hn hz hL hq) (cwV 1 hts (nm_gV nm_488 nm_490 nm_s_M_looks nm_4 nm_c_M_looks) rfl rfl rfl (by decide +kernel) ⟨Nat.le_of_ble_eq_true rfl, Nat.le_of_ble_eq_true rfl⟩) ⟨cw_blindM, va_recv hK hP (ci := 3) rfl (q0 := 0) rfl, cw_preM hPc hDc hK hNw⟩ rfl rfl hl.1 rfl (lv_room (Nat.le_of_ble_eq_true rfl)) d_M_level_2 ⟨Nat.zero_le _, Nat.zero_le _⟩) hS (fun q _ h => hFc q h) hFc (fun r1 u9 t H1 locs ht hvm hw2 hB hz1 hk1 hS => ?_)
  obtain ⟨rc3, eg4, so5, wi6, ew7, lo8, en9, le10, pi11, b12, k13⟩ := u9
  obtain ⟨hP1, hD1⟩ := hB
  rw [ht] at hP1
  obtain ⟨hP, hD⟩ := va_join (wr := ([] : List Nat).filterMap (fun (i : Nat) => (md_ws cJ cI h3 k3 o3 w3 v3 p3 e3 f3 q3 cd (nI n) ey ex (bs_i q) rc eg li so wi ew lo en le pi)[i]?)) (w1 := md_ws cJ cI h3 k3 o3 w3 v3 p3 e3 f3 q3 (bs_i (!b12)) (nI n) ey ex (bs_i k13) rc3 eg4 li so5 wi6 ew7 lo8 en9 le10 pi11) hP hD [0, 1, 2, 3, 4, 5, 6, 7, 8] [] rfl rfl (by decide) (by decide) hk1 hFc hP1 hD1
  generalize H1 = H at hP hS ⊢
  have hP : va_P (dC, dI) vwCl (md_ws cJ cI h3 k3 o3 w3 v3 p3 e3 f3 q3 (bs_i (!b12)) (nI n) ey ex (bs_i k13) rc3 eg4 li so5 wi6 ew7 lo8 en9 le10 pi11) H := hP.sub (ws' := md_ws cJ cI h3 k3 o3 w3 v3 p3 e3 f3 q3 (bs_i (!b12)) (nI n) ey ex (bs_i k13) rc3 eg4 li so5 wi6 ew7 lo8 en9 le10 pi11) [0, 1, 2, 3, 4, 5, 6, 7, 8] rfl
  have hD : va_D A (md_ws cJ cI h3 k3 o3 w3 v3 p3 e3 f3 q3 (bs_i (!b12)) (nI n) ey ex (bs_i k13) rc3 eg4 li so5 wi6 ew7 lo8 en9 le10 pi11) := hD.sub (ws' := md_ws cJ cI h3 k3 o3 w3 v3 p3 e3 f3 q3 (bs_i (!b12)) (nI n) ey ex (bs_i k13) rc3 eg4 li so5 wi6 ew7 lo8 en9 le10 pi11) [0, 1, 2, 3, 4, 5, 6, 7, 8] (by decide) rfl
  obtain ⟨rfl, hb_0, hG_0, hk_0⟩ := hw2
  refine wl_ifneb (tgt := 10) hx hb d_M_level_5 (by decide) (fun hc5 => ?_) (fun hc5 => ?_)
  · obtain ⟨k, hk_k, rfl⟩ := hb_0.mp hc5
    have hG9 := hG_0 (hk_0 hc5)
    obtain ⟨rfl, rfl, hr9, hx9⟩ := hz (by omega)
    have hP : va_P (dC, dI) vwCl (md_ws cJ cI h3 k3 o3 w3 v3 p3 e3 f3 q3 (bs_i (!b12)) (nI n) (nI r) (nI x) (bs_i k13) rc3 eg4 li so5 wi6 ew7 lo8 en9 le10 pi11) H := hP
    have hD : va_D A (md_ws cJ cI h3 k3 o3 w3 v3 p3 e3 f3 q3 (bs_i (!b12)) (nI n) (nI r) (nI x) (bs_i k13) rc3 eg4 li so5 wi6 ew7 lo8 en9 le10 pi11) := hD
    refine lv_aload_n hx hb d_M_level_10 rfl (lv_at hl 0 rfl) ?_
    refine va_get (D := (dC, dI)) (ci := 3) (v := .long rc3) (C := "FlowNestModel") (T := T_M) (N := 15) hx hb hts nm_iM hown hK hP 0 rfl rfl 7 (by decide) (hts _ (List.mem_cons_of_mem _ nm_421)) (fun _ h9 => h9) rfl d_M_level_11 ?_
    refine lv_iload_n hx hb d_M_level_14 rfl (lv_at hl 1 rfl) ?_
    refine vp_callSi (va_Run.run (va_runS (As := [.long rc3, .int (nI k)]) (rest := []) ⟨hx, hb, hml, hown, hts⟩ (c_M_has l rc3 k (by omega)) (va_cwS 2 hts (nm_gS nm_476 nm_477 nm_4 nm_c_M_has) rfl rfl rfl (by decide +kernel) ⟨Nat.le_of_ble_eq_true rfl, Nat.le_of_ble_eq_true rfl⟩) ⟨fun _ _ _ _ q => ⟨q.1, trivial⟩, fun U hU hW => ⟨rfl, trivial⟩⟩ rfl rfl hl.1 rfl (lv_room (Nat.le_of_ble_eq_true rfl)) d_M_level_15 ⟨Nat.zero_le _, Nat.zero_le _⟩)) (fun r hr => ?_)
    subst hr
    refine wl_ifeqb (tgt := 32) hx hb d_M_level_18 (by decide) (fun hc18 => ?_) (fun hc18 => ?_)
    · refine lv_iconst (v := -1) hx hb d_M_level_32 (by decide) ?_
      exact W.iret (v := -1) hx hb hr (fun t ht hW => ⟨⟨(-1), (rc3, eg4, so5, wi6, ew7, lo8, en9, le10, pi11, b12, k13), rfl, ⟨⟨fun _ => ⟨k, hk_k, rfl⟩, fun _ => hc5⟩, hG_0, fun _ => ⟨k, hk_k, rfl, by rw [if_neg (fun q => by rw [(hG9.2.1 k).mpr q] at hc18; cases hc18)]⟩⟩, by rw [ht]; exact hP, hD⟩, hS.F ht⟩) hS.2.2 d_M_level_33
    · refine lv_aload_n hx hb d_M_level_21 rfl (lv_at hl 0 rfl) ?_
      refine lv_iload_n hx hb d_M_level_22 rfl (lv_at hl 1 rfl) ?_
      refine lv_iconst (v := nI 0) hx hb d_M_level_23 (by decide) ?_
      refine vp_callSi (va_Run.run (va_runV (C := "FlowNestModel") (b := h3) (As := [.int (nI k), .int (nI 0)]) (rest := []) ⟨hx, hb, hml, hown, hts⟩ (c_M_rank l dC dI cJ cI h3 k3 o3 w3 v3 p3 e3 f3 q3 (bs_i (!b12)) (nI r) (nI x) (bs_i k13) rc3 eg4 li so5 wi6 ew7 lo8 en9 le10 pi11 n k false hn (by omega)) (cwV 2 hts (nm_gV nm_520 nm_522 nm_s_M_rank nm_4 nm_c_M_rank) rfl rfl rfl (by decide +kernel) ⟨Nat.le_of_ble_eq_true rfl, Nat.le_of_ble_eq_true rfl⟩) ⟨cw_blind, va_recv hK hP (ci := 3) rfl (q0 := 0) rfl, cw_pre hP hK hNw⟩ rfl rfl hl.1 rfl (lv_room (Nat.le_of_ble_eq_true rfl)) d_M_level_24 ⟨Nat.zero_le _, Nat.zero_le _⟩)) (fun r14 hr15 => ?_)
      subst hr15
      refine lv_iconst (v := nI 1) hx hb d_M_level_27 (by decide) ?_
      refine lv_isub hx hb d_M_level_28 ?_
      refine lv_goto (tgt := 33) hx hb d_M_level_29 (by decide) ?_
      exact W.iret (v := (nI (ct_n (fun u => md_dm (if false = true then eg4 else rc3) (if false = true then ew7 else wi6) u k) n)) - (nI 1)) hx hb hr (fun t ht hW => ⟨⟨((nI (ct_n (fun u => md_dm (if false = true then eg4 else rc3) (if false = true then ew7 else wi6) u k) n)) - (nI 1)), (rc3, eg4, so5, wi6, ew7, lo8, en9, le10, pi11, b12, k13), rfl, ⟨⟨fun _ => ⟨k, hk_k, rfl⟩, fun _ => hc5⟩, hG_0, fun _ => ⟨k, hk_k, rfl, by rw [if_pos ((hG9.2.1 k).mp hc18)]; exact congrArg (fun z => nI z - nI 1) (md_rk hn hr9 hx9 hG9 false k)⟩⟩, by rw [ht]; exact hP, hD⟩, hS.F ht⟩) hS.2.2 d_M_level_33
  · refine lv_iconst (v := nI 0) hx hb d_M_level_8 (by decide) ?_
    exact W.iret (v := nI 0) hx hb hr (fun t ht hW => ⟨⟨(nI 0), (rc3, eg4, so5, wi6, ew7, lo8, en9, le10, pi11, b12, k13), rfl, ⟨hb_0, hG_0, fun h => by rw [hc5] at h; cases h⟩, by rw [ht]; exact hP, hD⟩, hS.F ht⟩) hS.2.2 d_M_level_9
set_option maxHeartbeats 4000000 in
set_option maxRecDepth 100000 in
theorem c_M_frontier (l : Launch) (dC : Nat → ClassId) (dI : Nat → Nat → Nat) (cJ cI : ClassId) (h3 k3 o3 w3 v3 p3 e3 f3 q3 hs : Nat) (cd : Int32) (ey : Int32) (ex : Int32) (rc : Int64) (eg : Int64) (li : Nat → Int64) (so : Nat → Int64) (wi : Nat → Int64) (ew : Nat → Int64) (lo : Nat → Int64) (en : Nat → Int32) (le : Nat → Int32) (pi : Nat → Int32) (n r x : Nat) (q : Bool) (v : Int32)  (hn : n ≤ 48) (hz : 0 < n → ey = nI r ∧ ex = nI x ∧ r < n ∧ x < n) (hL : ∀ u v, gf_E n li u v → v < n) (hq : q = true → md_G n r x li rc eg so wi ew lo en le) : Met l y_M_frontier w_M_frontier ({ frames := 6, cells := 0, slots := 0, locals := 136 }) (va_Pc [.ref h3, .int v] (cw_M (dC, dI) cJ cI (md_ws cJ cI h3 k3 o3 w3 v3 p3 e3 f3 q3 cd (nI n) ey ex (bs_i q) rc eg li so wi ew lo en le pi) hs)) (va_Ql (fun (r9 : Int64) (u9 : Int64 × Int64 × (Nat → Int64) × (Nat → Int64) × (Nat → Int64) × (Nat → Int64) × (Nat → Int32) × (Nat → Int32) × (Nat → Int32) × Bool × Bool) => match u9 with | (rc9, eg9, so9, wi9, ew9, lo9, en9, le9, pi9, b, k9) => (b = true ↔ ∃ k, k < n ∧ v = nI k) ∧ (k9 = true → md_G n r x li rc9 eg9 so9 wi9 ew9 lo9 en9 le9) ∧ (b = true → ∃ k, k < n ∧ v = nI k ∧ r9 = sp_fr n li r k)) (fun (u9 : Int64 × Int64 × (Nat → Int64) × (Nat → Int64) × (Nat → Int64) × (Nat → Int64) × (Nat → Int32) × (Nat → Int32) × (Nat → Int32) × Bool × Bool) (t : State) => match u9 with | (rc9, eg9, so9, wi9, ew9, lo9, en9, le9, pi9, b, k9) => va_P (dC, dI) vwCl (md_ws cJ cI h3 k3 o3 w3 v3 p3 e3 f3 q3 (bs_i (!b)) (nI n) ey ex (bs_i k9) rc9 eg9 li so9 wi9 ew9 lo9 en9 le9 pi9) t.heap ∧ va_D (va_A (md_ws cJ cI h3 k3 o3 w3 v3 p3 e3 f3 q3 cd (nI n) ey ex (bs_i q) rc eg li so wi ew lo en le pi) hs) (md_ws cJ cI h3 k3 o3 w3 v3 p3 e3 f3 q3 (bs_i (!b)) (nI n) ey ex (bs_i k9) rc9 eg9 li so9 wi9 ew9 lo9 en9 le9 pi9)) (va_A (md_ws cJ cI h3 k3 o3 w3 v3 p3 e3 f3 q3 cd (nI n) ey ex (bs_i q) rc eg li so wi ew lo en le pi) hs)) 0 0 (va_A (md_ws cJ cI h3 k3 o3 w3 v3 p3 e3 f3 q3 cd (nI n) ey ex (bs_i q) rc eg li so wi ew lo en le pi) hs) := by
  refine Met.ofW (cc := b_M_frontier) (maxL := 2) (ret := (some .long)) (by decide) rfl ?_
  intro p e s m args below meth c s₁ B hml hv9
  obtain ⟨rfl, hsz, ⟨hP, hK, hNw⟩, hD0⟩ := hv9
  have hx := B.exec
  have hb := B.bytes
  have hr := B.returns
  have hts := atoms_spec (ws := w_M_frontier) B.pre
  have hown : s.vm.findClass "FlowNestModel" = some m.cls := findClass_of_methodNamed B.named
  have hlocks := B.notSynchronized
  subst hsz
  have hD := hD0.self (sz := s.heap.size)
  generalize hAe : va_A (md_ws cJ cI h3 k3 o3 w3 v3 p3 e3 f3 q3 cd (nI n) ey ex (bs_i q) rc eg li so wi ew lo en le pi) s.heap.size = A at hD ⊢
  have hA : ∀ q : Nat, s.heap.size ≤ q → A q := fun q h => by rw [← hAe]; exact Or.inr h
  have hS : va_S A s.heap s.heap [] := va_S.rf
  have hP : va_P (dC, dI) vwCl (md_ws cJ cI h3 k3 o3 w3 v3 p3 e3 f3 q3 cd (nI n) ey ex (bs_i q) rc eg li so wi ew lo en le pi) s.heap := hP
  have hl := lv_entry ([.ref h3, .int v]) (n := 2) (Nat.le_of_ble_eq_true rfl)
  rw [lg_entry_eq]
  generalize (lg_sl ([.ref h3, .int v]) ++ List.replicate (2 - (lg_sl ([.ref h3, .int v])).length) Slot.unset).toArray = ls at hl ⊢
  have hl : lv_has ls 2 [(0, .ref h3), (1, .int v)] := hl
  refine lv_aload_n hx hb d_M_frontier_0 rfl (lv_at hl 0 rfl) ?_
  refine lv_iload_n hx hb d_M_frontier_1 rfl (lv_at hl 1 rfl) ?_
  have hPc := hP.sub (ws' := md_ws cJ cI h3 k3 o3 w3 v3 p3 e3 f3 q3 cd (nI n) ey ex (bs_i q) rc eg li so wi ew lo en le pi) [0, 1, 2, 3, 4, 5, 6, 7, 8] rfl
  have hDc := hD.sub (ws' := md_ws cJ cI h3 k3 o3 w3 v3 p3 e3 f3 q3 cd (nI n) ey ex (bs_i q) rc eg li so wi ew lo en le pi) [0, 1, 2, 3, 4, 5, 6, 7, 8] (by decide) rfl
  have hFc := va_free (wc := md_ws cJ cI h3 k3 o3 w3 v3 p3 e3 f3 q3 cd (nI n) ey ex (bs_i q) rc eg li so wi ew lo en le pi) hD hS hA [0, 1, 2, 3, 4, 5, 6, 7, 8] rfl
  refine va_calli (va_runV (C := "FlowNestModel") (b := h3) (As := [.int v]) (rest := []) ⟨hx, hb, hml, hown, hts⟩ (c_M_looks l dC dI cJ cI h3 k3 o3 w3 v3 p3 e3 f3 q3 s.heap.size cd ey ex rc eg li so wi ew lo en le pi n r x q v hn hz hL hq) (cwV 1 hts (nm_gV nm_488 nm_490 nm_s_M_looks nm_4 nm_c_M_looks) rfl rfl rfl (by decide +kernel) ⟨Nat.le_of_ble_eq_true rfl, Nat.le_of_ble_eq_true rfl⟩) ⟨cw_blindM, va_recv hK hP (ci := 3) rfl (q0 := 0) rfl, cw_preM hPc hDc hK hNw⟩ rfl rfl hl.1 rfl (lv_room (Nat.le_of_ble_eq_true rfl)) d_M_frontier_2 ⟨Nat.zero_le _, Nat.zero_le _⟩) hS (fun q _ h => hFc q h) hFc (fun r1 u9 t H1 locs ht hvm hw2 hB hz1 hk1 hS => ?_)
  obtain ⟨rc3, eg4, so5, wi6, ew7, lo8, en9, le10, pi11, b12, k13⟩ := u9
  obtain ⟨hP1, hD1⟩ := hB
  rw [ht] at hP1
  obtain ⟨hP, hD⟩ := va_join (wr := ([] : List Nat).filterMap (fun (i : Nat) => (md_ws cJ cI h3 k3 o3 w3 v3 p3 e3 f3 q3 cd (nI n) ey ex (bs_i q) rc eg li so wi ew lo en le pi)[i]?)) (w1 := md_ws cJ cI h3 k3 o3 w3 v3 p3 e3 f3 q3 (bs_i (!b12)) (nI n) ey ex (bs_i k13) rc3 eg4 li so5 wi6 ew7 lo8 en9 le10 pi11) hP hD [0, 1, 2, 3, 4, 5, 6, 7, 8] [] rfl rfl (by decide) (by decide) hk1 hFc hP1 hD1
  generalize H1 = H at hP hS ⊢
  have hP : va_P (dC, dI) vwCl (md_ws cJ cI h3 k3 o3 w3 v3 p3 e3 f3 q3 (bs_i (!b12)) (nI n) ey ex (bs_i k13) rc3 eg4 li so5 wi6 ew7 lo8 en9 le10 pi11) H := hP.sub (ws' := md_ws cJ cI h3 k3 o3 w3 v3 p3 e3 f3 q3 (bs_i (!b12)) (nI n) ey ex (bs_i k13) rc3 eg4 li so5 wi6 ew7 lo8 en9 le10 pi11) [0, 1, 2, 3, 4, 5, 6, 7, 8] rfl
  have hD : va_D A (md_ws cJ cI h3 k3 o3 w3 v3 p3 e3 f3 q3 (bs_i (!b12)) (nI n) ey ex (bs_i k13) rc3 eg4 li so5 wi6 ew7 lo8 en9 le10 pi11) := hD.sub (ws' := md_ws cJ cI h3 k3 o3 w3 v3 p3 e3 f3 q3 (bs_i (!b12)) (nI n) ey ex (bs_i k13) rc3 eg4 li so5 wi6 ew7 lo8 en9 le10 pi11) [0, 1, 2, 3, 4, 5, 6, 7, 8] (by decide) rfl
  obtain ⟨rfl, hb_0, hG_0, hk_0⟩ := hw2
  refine wl_ifeqb (tgt := 16) hx hb d_M_frontier_5 (by decide) (fun hc5 => ?_) (fun hc5 => ?_)
  · refine lv_lconst (v := 0) hx hb d_M_frontier_16 (by decide) ?_
    exact W.lret (v := 0) hx hb hr (fun t ht hW => ⟨⟨0, (rc3, eg4, so5, wi6, ew7, lo8, en9, le10, pi11, b12, k13), rfl, ⟨hb_0, hG_0, fun h => by rw [hc5] at h; cases h⟩, by rw [ht]; exact hP, hD⟩, hS.F ht⟩) hS.2.2 d_M_frontier_17
  · obtain ⟨k, hk_k, rfl⟩ := hb_0.mp hc5
    have hG9 := hG_0 (hk_0 hc5)
    obtain ⟨rfl, rfl, hr9, hx9⟩ := hz (by omega)
    have hP : va_P (dC, dI) vwCl (md_ws cJ cI h3 k3 o3 w3 v3 p3 e3 f3 q3 (bs_i (!b12)) (nI n) (nI r) (nI x) (bs_i k13) rc3 eg4 li so5 wi6 ew7 lo8 en9 le10 pi11) H := hP
    have hD : va_D A (md_ws cJ cI h3 k3 o3 w3 v3 p3 e3 f3 q3 (bs_i (!b12)) (nI n) (nI r) (nI x) (bs_i k13) rc3 eg4 li so5 wi6 ew7 lo8 en9 le10 pi11) := hD
    have hd := fun (u w : Nat) (hu : u < n) (_ : w < n) => md_dm_eq (v := w) (show n ≤ 64 by omega) hr9 hG9.2.1 hG9.2.2.2.1 hu
    refine lv_aload_n hx hb d_M_frontier_8 rfl (lv_at hl 0 rfl) ?_
    refine lv_iload_n hx hb d_M_frontier_9 rfl (lv_at hl 1 rfl) ?_
    refine vp_callSl (va_Run.run (va_runV (C := "FlowNestModel") (b := h3) (As := [.int (nI k)]) (rest := []) ⟨hx, hb, hml, hown, hts⟩ (c_M_frontierOf l dC dI cJ cI h3 k3 o3 w3 v3 p3 e3 f3 q3 (bs_i (!b12)) (nI r) (nI x) (bs_i k13) rc3 eg4 li so5 wi6 ew7 lo8 en9 le10 pi11 n r k hn (by omega) hL hd) (cwV 1 hts (nm_gV nm_536 nm_538 nm_s_M_frontierOf nm_4 nm_c_M_frontierOf) rfl rfl rfl (by decide +kernel) ⟨Nat.le_of_ble_eq_true rfl, Nat.le_of_ble_eq_true rfl⟩) ⟨cw_blind, va_recv hK hP (ci := 3) rfl (q0 := 0) rfl, cw_pre hP hK hNw⟩ rfl rfl hl.1 rfl (lv_room (Nat.le_of_ble_eq_true rfl)) d_M_frontier_10 ⟨Nat.zero_le _, Nat.zero_le _⟩)) (fun r14 hr15 => ?_)
    subst hr15
    refine lv_goto (tgt := 17) hx hb d_M_frontier_13 (by decide) ?_
    exact W.lret (v := sp_fr n li r k) hx hb hr (fun t ht hW => ⟨⟨(sp_fr n li r k), (rc3, eg4, so5, wi6, ew7, lo8, en9, le10, pi11, b12, k13), rfl, ⟨⟨fun _ => ⟨k, hk_k, rfl⟩, fun _ => hc5⟩, hG_0, fun _ => ⟨k, hk_k, rfl, rfl⟩⟩, by rw [ht]; exact hP, hD⟩, hS.F ht⟩) hS.2.2 d_M_frontier_17
set_option maxHeartbeats 4000000 in
set_option maxRecDepth 100000 in
theorem c_M_loop (l : Launch) (dC : Nat → ClassId) (dI : Nat → Nat → Nat) (cJ cI : ClassId) (h3 k3 o3 w3 v3 p3 e3 f3 q3 hs : Nat) (cd : Int32) (ey : Int32) (ex : Int32) (rc : Int64) (eg : Int64) (li : Nat → Int64) (so : Nat → Int64) (wi : Nat → Int64) (ew : Nat → Int64) (lo : Nat → Int64) (en : Nat → Int32) (le : Nat → Int32) (pi : Nat → Int32) (n r x : Nat) (q : Bool) (v : Int32)  (hn : n ≤ 48) (hz : 0 < n → ey = nI r ∧ ex = nI x ∧ r < n ∧ x < n) (hL : ∀ u v, gf_E n li u v → v < n) (hq : q = true → md_G n r x li rc eg so wi ew lo en le) : Met l y_M_loop w_M_loop ({ frames := 6, cells := 0, slots := 0, locals := 136 }) (va_Pc [.ref h3, .int v] (cw_M (dC, dI) cJ cI (md_ws cJ cI h3 k3 o3 w3 v3 p3 e3 f3 q3 cd (nI n) ey ex (bs_i q) rc eg li so wi ew lo en le pi) hs)) (va_Ql (fun (r9 : Int64) (u9 : Int64 × Int64 × (Nat → Int64) × (Nat → Int64) × (Nat → Int64) × (Nat → Int64) × (Nat → Int32) × (Nat → Int32) × (Nat → Int32) × Bool × Bool) => match u9 with | (rc9, eg9, so9, wi9, ew9, lo9, en9, le9, pi9, b, k9) => (b = true ↔ ∃ k, k < n ∧ v = nI k) ∧ (k9 = true → md_G n r x li rc9 eg9 so9 wi9 ew9 lo9 en9 le9) ∧ (b = true → ∃ k, k < n ∧ v = nI k ∧ r9 = sp_lp n li r k)) (fun (u9 : Int64 × Int64 × (Nat → Int64) × (Nat → Int64) × (Nat → Int64) × (Nat → Int64) × (Nat → Int32) × (Nat → Int32) × (Nat → Int32) × Bool × Bool) (t : State) => match u9 with | (rc9, eg9, so9, wi9, ew9, lo9, en9, le9, pi9, b, k9) => va_P (dC, dI) vwCl (md_ws cJ cI h3 k3 o3 w3 v3 p3 e3 f3 q3 (bs_i (!b)) (nI n) ey ex (bs_i k9) rc9 eg9 li so9 wi9 ew9 lo9 en9 le9 pi9) t.heap ∧ va_D (va_A (md_ws cJ cI h3 k3 o3 w3 v3 p3 e3 f3 q3 cd (nI n) ey ex (bs_i q) rc eg li so wi ew lo en le pi) hs) (md_ws cJ cI h3 k3 o3 w3 v3 p3 e3 f3 q3 (bs_i (!b)) (nI n) ey ex (bs_i k9) rc9 eg9 li so9 wi9 ew9 lo9 en9 le9 pi9)) (va_A (md_ws cJ cI h3 k3 o3 w3 v3 p3 e3 f3 q3 cd (nI n) ey ex (bs_i q) rc eg li so wi ew lo en le pi) hs)) 0 0 (va_A (md_ws cJ cI h3 k3 o3 w3 v3 p3 e3 f3 q3 cd (nI n) ey ex (bs_i q) rc eg li so wi ew lo en le pi) hs) := by
  refine Met.ofW (cc := b_M_loop) (maxL := 2) (ret := (some .long)) (by decide) rfl ?_
  intro p e s m args below meth c s₁ B hml hv9
  obtain ⟨rfl, hsz, ⟨hP, hK, hNw⟩, hD0⟩ := hv9
  have hx := B.exec
  have hb := B.bytes
  have hr := B.returns
  have hts := atoms_spec (ws := w_M_loop) B.pre
  have hown : s.vm.findClass "FlowNestModel" = some m.cls := findClass_of_methodNamed B.named
  have hlocks := B.notSynchronized
  subst hsz
  have hD := hD0.self (sz := s.heap.size)
  generalize hAe : va_A (md_ws cJ cI h3 k3 o3 w3 v3 p3 e3 f3 q3 cd (nI n) ey ex (bs_i q) rc eg li so wi ew lo en le pi) s.heap.size = A at hD ⊢
  have hA : ∀ q : Nat, s.heap.size ≤ q → A q := fun q h => by rw [← hAe]; exact Or.inr h
  have hS : va_S A s.heap s.heap [] := va_S.rf
  have hP : va_P (dC, dI) vwCl (md_ws cJ cI h3 k3 o3 w3 v3 p3 e3 f3 q3 cd (nI n) ey ex (bs_i q) rc eg li so wi ew lo en le pi) s.heap := hP
  have hl := lv_entry ([.ref h3, .int v]) (n := 2) (Nat.le_of_ble_eq_true rfl)
  rw [lg_entry_eq]
  generalize (lg_sl ([.ref h3, .int v]) ++ List.replicate (2 - (lg_sl ([.ref h3, .int v])).length) Slot.unset).toArray = ls at hl ⊢
  have hl : lv_has ls 2 [(0, .ref h3), (1, .int v)] := hl
  refine lv_aload_n hx hb d_M_loop_0 rfl (lv_at hl 0 rfl) ?_
  refine lv_iload_n hx hb d_M_loop_1 rfl (lv_at hl 1 rfl) ?_
  have hPc := hP.sub (ws' := md_ws cJ cI h3 k3 o3 w3 v3 p3 e3 f3 q3 cd (nI n) ey ex (bs_i q) rc eg li so wi ew lo en le pi) [0, 1, 2, 3, 4, 5, 6, 7, 8] rfl
  have hDc := hD.sub (ws' := md_ws cJ cI h3 k3 o3 w3 v3 p3 e3 f3 q3 cd (nI n) ey ex (bs_i q) rc eg li so wi ew lo en le pi) [0, 1, 2, 3, 4, 5, 6, 7, 8] (by decide) rfl
  have hFc := va_free (wc := md_ws cJ cI h3 k3 o3 w3 v3 p3 e3 f3 q3 cd (nI n) ey ex (bs_i q) rc eg li so wi ew lo en le pi) hD hS hA [0, 1, 2, 3, 4, 5, 6, 7, 8] rfl
  refine va_calli (va_runV (C := "FlowNestModel") (b := h3) (As := [.int v]) (rest := []) ⟨hx, hb, hml, hown, hts⟩ (c_M_looks l dC dI cJ cI h3 k3 o3 w3 v3 p3 e3 f3 q3 s.heap.size cd ey ex rc eg li so wi ew lo en le pi n r x q v hn hz hL hq) (cwV 1 hts (nm_gV nm_488 nm_490 nm_s_M_looks nm_4 nm_c_M_looks) rfl rfl rfl (by decide +kernel) ⟨Nat.le_of_ble_eq_true rfl, Nat.le_of_ble_eq_true rfl⟩) ⟨cw_blindM, va_recv hK hP (ci := 3) rfl (q0 := 0) rfl, cw_preM hPc hDc hK hNw⟩ rfl rfl hl.1 rfl (lv_room (Nat.le_of_ble_eq_true rfl)) d_M_loop_2 ⟨Nat.zero_le _, Nat.zero_le _⟩) hS (fun q _ h => hFc q h) hFc (fun r1 u9 t H1 locs ht hvm hw2 hB hz1 hk1 hS => ?_)
  obtain ⟨rc3, eg4, so5, wi6, ew7, lo8, en9, le10, pi11, b12, k13⟩ := u9
  obtain ⟨hP1, hD1⟩ := hB
  rw [ht] at hP1
  obtain ⟨hP, hD⟩ := va_join (wr := ([] : List Nat).filterMap (fun (i : Nat) => (md_ws cJ cI h3 k3 o3 w3 v3 p3 e3 f3 q3 cd (nI n) ey ex (bs_i q) rc eg li so wi ew lo en le pi)[i]?)) (w1 := md_ws cJ cI h3 k3 o3 w3 v3 p3 e3 f3 q3 (bs_i (!b12)) (nI n) ey ex (bs_i k13) rc3 eg4 li so5 wi6 ew7 lo8 en9 le10 pi11) hP hD [0, 1, 2, 3, 4, 5, 6, 7, 8] [] rfl rfl (by decide) (by decide) hk1 hFc hP1 hD1
  generalize H1 = H at hP hS ⊢
  have hP : va_P (dC, dI) vwCl (md_ws cJ cI h3 k3 o3 w3 v3 p3 e3 f3 q3 (bs_i (!b12)) (nI n) ey ex (bs_i k13) rc3 eg4 li so5 wi6 ew7 lo8 en9 le10 pi11) H := hP.sub (ws' := md_ws cJ cI h3 k3 o3 w3 v3 p3 e3 f3 q3 (bs_i (!b12)) (nI n) ey ex (bs_i k13) rc3 eg4 li so5 wi6 ew7 lo8 en9 le10 pi11) [0, 1, 2, 3, 4, 5, 6, 7, 8] rfl
  have hD : va_D A (md_ws cJ cI h3 k3 o3 w3 v3 p3 e3 f3 q3 (bs_i (!b12)) (nI n) ey ex (bs_i k13) rc3 eg4 li so5 wi6 ew7 lo8 en9 le10 pi11) := hD.sub (ws' := md_ws cJ cI h3 k3 o3 w3 v3 p3 e3 f3 q3 (bs_i (!b12)) (nI n) ey ex (bs_i k13) rc3 eg4 li so5 wi6 ew7 lo8 en9 le10 pi11) [0, 1, 2, 3, 4, 5, 6, 7, 8] (by decide) rfl
  obtain ⟨rfl, hb_0, hG_0, hk_0⟩ := hw2
  refine wl_ifeqb (tgt := 17) hx hb d_M_loop_5 (by decide) (fun hc5 => ?_) (fun hc5 => ?_)
  · refine lv_lconst (v := 0) hx hb d_M_loop_17 (by decide) ?_
    exact W.lret (v := 0) hx hb hr (fun t ht hW => ⟨⟨0, (rc3, eg4, so5, wi6, ew7, lo8, en9, le10, pi11, b12, k13), rfl, ⟨hb_0, hG_0, fun h => by rw [hc5] at h; cases h⟩, by rw [ht]; exact hP, hD⟩, hS.F ht⟩) hS.2.2 d_M_loop_18
  · obtain ⟨k, hk_k, rfl⟩ := hb_0.mp hc5
    have hG9 := hG_0 (hk_0 hc5)
    obtain ⟨rfl, rfl, hr9, hx9⟩ := hz (by omega)
    have hP : va_P (dC, dI) vwCl (md_ws cJ cI h3 k3 o3 w3 v3 p3 e3 f3 q3 (bs_i (!b12)) (nI n) (nI r) (nI x) (bs_i k13) rc3 eg4 li so5 wi6 ew7 lo8 en9 le10 pi11) H := hP
    have hD : va_D A (md_ws cJ cI h3 k3 o3 w3 v3 p3 e3 f3 q3 (bs_i (!b12)) (nI n) (nI r) (nI x) (bs_i k13) rc3 eg4 li so5 wi6 ew7 lo8 en9 le10 pi11) := hD
    refine lv_aload_n hx hb d_M_loop_8 rfl (lv_at hl 0 rfl) ?_
    refine va_get (D := (dC, dI)) (ci := 3) (v := .ref p3) (C := "FlowNestModel") (T := T_M) (N := 15) hx hb hts nm_iM hown hK hP 0 rfl rfl 11 (by decide) (hts _ (List.mem_cons_of_mem _ nm_425)) (fun _ h9 => h9) rfl d_M_loop_9 ?_
    refine lv_iload_n hx hb d_M_loop_12 rfl (lv_at hl 1 rfl) ?_
    refine wl_lald (i := k) hx hb hK hP 5 0 rfl rfl (by omega) (by decide) d_M_loop_13 ?_
    refine lv_goto (tgt := 18) hx hb d_M_loop_14 (by decide) ?_
    exact W.lret (v := lo8 k) hx hb hr (fun t ht hW => ⟨⟨(lo8 k), (rc3, eg4, so5, wi6, ew7, lo8, en9, le10, pi11, b12, k13), rfl, ⟨⟨fun _ => ⟨k, hk_k, rfl⟩, fun _ => hc5⟩, hG_0, fun _ => ⟨k, hk_k, rfl, hG9.2.2.2.2.2.1 k hk_k⟩⟩, by rw [ht]; exact hP, hD⟩, hS.F ht⟩) hS.2.2 d_M_loop_18
set_option maxHeartbeats 4000000 in
set_option maxRecDepth 100000 in
theorem c_M_order (l : Launch) (dC : Nat → ClassId) (dI : Nat → Nat → Nat) (cJ cI : ClassId) (h3 k3 o3 w3 v3 p3 e3 f3 q3 hs : Nat) (cd : Int32) (ey : Int32) (ex : Int32) (rc : Int64) (eg : Int64) (li : Nat → Int64) (so : Nat → Int64) (wi : Nat → Int64) (ew : Nat → Int64) (lo : Nat → Int64) (en : Nat → Int32) (le : Nat → Int32) (pi : Nat → Int32) (n r x : Nat) (q : Bool) (v : Int32) (lf : Bool) (hn : n ≤ 48) (hz : 0 < n → ey = nI r ∧ ex = nI x ∧ r < n ∧ x < n) (hL : ∀ u v, gf_E n li u v → v < n) (hq : q = true → md_G n r x li rc eg so wi ew lo en le) : Met l y_M_order w_M_order ({ frames := 6, cells := 0, slots := 0, locals := 136 }) (va_Pc [.ref h3, .int v, .int (bs_i lf)] (cw_M (dC, dI) cJ cI (md_ws cJ cI h3 k3 o3 w3 v3 p3 e3 f3 q3 cd (nI n) ey ex (bs_i q) rc eg li so wi ew lo en le pi) hs)) (va_Qi (fun (r9 : Int32) (u9 : Int64 × Int64 × (Nat → Int64) × (Nat → Int64) × (Nat → Int64) × (Nat → Int64) × (Nat → Int32) × (Nat → Int32) × (Nat → Int32) × Bool × Bool) => match u9 with | (rc9, eg9, so9, wi9, ew9, lo9, en9, le9, pi9, b, k9) => (b = true ↔ ∃ k, k < n ∧ v = nI k) ∧ (k9 = true → md_G n r x li rc9 eg9 so9 wi9 ew9 lo9 en9 le9) ∧ (b = true → ∃ k, k < n ∧ v = nI k ∧ r9 = if lf = true then (df_F n li r (fun _ => 0)).2.2.1 k else (df_F n li r (fun _ => 0)).2.1 k)) (fun (u9 : Int64 × Int64 × (Nat → Int64) × (Nat → Int64) × (Nat → Int64) × (Nat → Int64) × (Nat → Int32) × (Nat → Int32) × (Nat → Int32) × Bool × Bool) (t : State) => match u9 with | (rc9, eg9, so9, wi9, ew9, lo9, en9, le9, pi9, b, k9) => va_P (dC, dI) vwCl (md_ws cJ cI h3 k3 o3 w3 v3 p3 e3 f3 q3 (bs_i (!b)) (nI n) ey ex (bs_i k9) rc9 eg9 li so9 wi9 ew9 lo9 en9 le9 pi9) t.heap ∧ va_D (va_A (md_ws cJ cI h3 k3 o3 w3 v3 p3 e3 f3 q3 cd (nI n) ey ex (bs_i q) rc eg li so wi ew lo en le pi) hs) (md_ws cJ cI h3 k3 o3 w3 v3 p3 e3 f3 q3 (bs_i (!b)) (nI n) ey ex (bs_i k9) rc9 eg9 li so9 wi9 ew9 lo9 en9 le9 pi9)) (va_A (md_ws cJ cI h3 k3 o3 w3 v3 p3 e3 f3 q3 cd (nI n) ey ex (bs_i q) rc eg li so wi ew lo en le pi) hs)) 0 0 (va_A (md_ws cJ cI h3 k3 o3 w3 v3 p3 e3 f3 q3 cd (nI n) ey ex (bs_i q) rc eg li so wi ew lo en le pi) hs) := by
  refine Met.ofW (cc := b_M_order) (maxL := 3) (ret := (some .int)) (by decide) rfl ?_
  intro p e s m args below meth c s₁ B hml hv9
  obtain ⟨rfl, hsz, ⟨hP, hK, hNw⟩, hD0⟩ := hv9
  have hx := B.exec
  have hb := B.bytes
  have hr := B.returns
  have hts := atoms_spec (ws := w_M_order) B.pre
  have hown : s.vm.findClass "FlowNestModel" = some m.cls := findClass_of_methodNamed B.named
  have hlocks := B.notSynchronized
  subst hsz
  have hD := hD0.self (sz := s.heap.size)
  generalize hAe : va_A (md_ws cJ cI h3 k3 o3 w3 v3 p3 e3 f3 q3 cd (nI n) ey ex (bs_i q) rc eg li so wi ew lo en le pi) s.heap.size = A at hD ⊢
  have hA : ∀ q : Nat, s.heap.size ≤ q → A q := fun q h => by rw [← hAe]; exact Or.inr h
  have hS : va_S A s.heap s.heap [] := va_S.rf
  have hP : va_P (dC, dI) vwCl (md_ws cJ cI h3 k3 o3 w3 v3 p3 e3 f3 q3 cd (nI n) ey ex (bs_i q) rc eg li so wi ew lo en le pi) s.heap := hP
  have hl := lv_entry ([.ref h3, .int v, .int (bs_i lf)]) (n := 3) (Nat.le_of_ble_eq_true rfl)
  rw [lg_entry_eq]
  generalize (lg_sl ([.ref h3, .int v, .int (bs_i lf)]) ++ List.replicate (3 - (lg_sl ([.ref h3, .int v, .int (bs_i lf)])).length) Slot.unset).toArray = ls at hl ⊢
  have hl : lv_has ls 3 [(0, .ref h3), (1, .int v), (2, .int (bs_i lf))] := hl
  refine lv_aload_n hx hb d_M_order_0 rfl (lv_at hl 0 rfl) ?_
  refine lv_iload_n hx hb d_M_order_1 rfl (lv_at hl 1 rfl) ?_
  have hPc := hP.sub (ws' := md_ws cJ cI h3 k3 o3 w3 v3 p3 e3 f3 q3 cd (nI n) ey ex (bs_i q) rc eg li so wi ew lo en le pi) [0, 1, 2, 3, 4, 5, 6, 7, 8] rfl
  have hDc := hD.sub (ws' := md_ws cJ cI h3 k3 o3 w3 v3 p3 e3 f3 q3 cd (nI n) ey ex (bs_i q) rc eg li so wi ew lo en le pi) [0, 1, 2, 3, 4, 5, 6, 7, 8] (by decide) rfl
  have hFc := va_free (wc := md_ws cJ cI h3 k3 o3 w3 v3 p3 e3 f3 q3 cd (nI n) ey ex (bs_i q) rc eg li so wi ew lo en le pi) hD hS hA [0, 1, 2, 3, 4, 5, 6, 7, 8] rfl
  refine va_calli (va_runV (C := "FlowNestModel") (b := h3) (As := [.int v]) (rest := []) ⟨hx, hb, hml, hown, hts⟩ (c_M_looks l dC dI cJ cI h3 k3 o3 w3 v3 p3 e3 f3 q3 s.heap.size cd ey ex rc eg li so wi ew lo en le pi n r x q v hn hz hL hq) (cwV 1 hts (nm_gV nm_488 nm_490 nm_s_M_looks nm_4 nm_c_M_looks) rfl rfl rfl (by decide +kernel) ⟨Nat.le_of_ble_eq_true rfl, Nat.le_of_ble_eq_true rfl⟩) ⟨cw_blindM, va_recv hK hP (ci := 3) rfl (q0 := 0) rfl, cw_preM hPc hDc hK hNw⟩ rfl rfl hl.1 rfl (lv_room (Nat.le_of_ble_eq_true rfl)) d_M_order_2 ⟨Nat.zero_le _, Nat.zero_le _⟩) hS (fun q _ h => hFc q h) hFc (fun r1 u9 t H1 locs ht hvm hw2 hB hz1 hk1 hS => ?_)
  obtain ⟨rc3, eg4, so5, wi6, ew7, lo8, en9, le10, pi11, b12, k13⟩ := u9
  obtain ⟨hP1, hD1⟩ := hB
  rw [ht] at hP1
  obtain ⟨hP, hD⟩ := va_join (wr := ([] : List Nat).filterMap (fun (i : Nat) => (md_ws cJ cI h3 k3 o3 w3 v3 p3 e3 f3 q3 cd (nI n) ey ex (bs_i q) rc eg li so wi ew lo en le pi)[i]?)) (w1 := md_ws cJ cI h3 k3 o3 w3 v3 p3 e3 f3 q3 (bs_i (!b12)) (nI n) ey ex (bs_i k13) rc3 eg4 li so5 wi6 ew7 lo8 en9 le10 pi11) hP hD [0, 1, 2, 3, 4, 5, 6, 7, 8] [] rfl rfl (by decide) (by decide) hk1 hFc hP1 hD1
  generalize H1 = H at hP hS ⊢
  have hP : va_P (dC, dI) vwCl (md_ws cJ cI h3 k3 o3 w3 v3 p3 e3 f3 q3 (bs_i (!b12)) (nI n) ey ex (bs_i k13) rc3 eg4 li so5 wi6 ew7 lo8 en9 le10 pi11) H := hP.sub (ws' := md_ws cJ cI h3 k3 o3 w3 v3 p3 e3 f3 q3 (bs_i (!b12)) (nI n) ey ex (bs_i k13) rc3 eg4 li so5 wi6 ew7 lo8 en9 le10 pi11) [0, 1, 2, 3, 4, 5, 6, 7, 8] rfl
  have hD : va_D A (md_ws cJ cI h3 k3 o3 w3 v3 p3 e3 f3 q3 (bs_i (!b12)) (nI n) ey ex (bs_i k13) rc3 eg4 li so5 wi6 ew7 lo8 en9 le10 pi11) := hD.sub (ws' := md_ws cJ cI h3 k3 o3 w3 v3 p3 e3 f3 q3 (bs_i (!b12)) (nI n) ey ex (bs_i k13) rc3 eg4 li so5 wi6 ew7 lo8 en9 le10 pi11) [0, 1, 2, 3, 4, 5, 6, 7, 8] (by decide) rfl
  obtain ⟨rfl, hb_0, hG_0, hk_0⟩ := hw2
  refine wl_ifneb (tgt := 10) hx hb d_M_order_5 (by decide) (fun hc5 => ?_) (fun hc5 => ?_)
  · obtain ⟨k, hk_k, rfl⟩ := hb_0.mp hc5
    have hG9 := hG_0 (hk_0 hc5)
    obtain ⟨rfl, rfl, hr9, hx9⟩ := hz (by omega)
    have hP : va_P (dC, dI) vwCl (md_ws cJ cI h3 k3 o3 w3 v3 p3 e3 f3 q3 (bs_i (!b12)) (nI n) (nI r) (nI x) (bs_i k13) rc3 eg4 li so5 wi6 ew7 lo8 en9 le10 pi11) H := hP
    have hD : va_D A (md_ws cJ cI h3 k3 o3 w3 v3 p3 e3 f3 q3 (bs_i (!b12)) (nI n) (nI r) (nI x) (bs_i k13) rc3 eg4 li so5 wi6 ew7 lo8 en9 le10 pi11) := hD
    refine lv_iload_n hx hb d_M_order_10 rfl (lv_at hl 2 rfl) ?_
    refine wl_ifeqb (tgt := 23) hx hb d_M_order_11 (by decide) (fun hc11 => ?_) (fun hc11 => ?_)
    · refine lv_aload_n hx hb d_M_order_23 rfl (lv_at hl 0 rfl) ?_
      refine va_get (D := (dC, dI)) (ci := 3) (v := .ref e3) (C := "FlowNestModel") (T := T_M) (N := 15) hx hb hts nm_iM hown hK hP 0 rfl rfl 12 (by decide) (hts _ (List.mem_cons_of_mem _ nm_426)) (fun _ h9 => h9) rfl d_M_order_24 ?_
      refine lv_iload_n hx hb d_M_order_27 rfl (lv_at hl 1 rfl) ?_
      refine wl_iald (i := k) hx hb hK hP 6 1 rfl rfl (by omega) (by decide) d_M_order_28 ?_
      exact W.iret (v := en9 k) hx hb hr (fun t ht hW => ⟨⟨(en9 k), (rc3, eg4, so5, wi6, ew7, lo8, en9, le10, pi11, b12, k13), rfl, ⟨⟨fun _ => ⟨k, hk_k, rfl⟩, fun _ => hc5⟩, hG_0, fun _ => ⟨k, hk_k, rfl, by rw [hc11]; exact hG9.2.2.2.2.2.2.1 k hk_k⟩⟩, by rw [ht]; exact hP, hD⟩, hS.F ht⟩) hS.2.2 d_M_order_29
    · refine lv_aload_n hx hb d_M_order_14 rfl (lv_at hl 0 rfl) ?_
      refine va_get (D := (dC, dI)) (ci := 3) (v := .ref f3) (C := "FlowNestModel") (T := T_M) (N := 15) hx hb hts nm_iM hown hK hP 0 rfl rfl 13 (by decide) (hts _ (List.mem_cons_of_mem _ nm_427)) (fun _ h9 => h9) rfl d_M_order_15 ?_
      refine lv_iload_n hx hb d_M_order_18 rfl (lv_at hl 1 rfl) ?_
      refine wl_iald (i := k) hx hb hK hP 7 1 rfl rfl (by omega) (by decide) d_M_order_19 ?_
      refine lv_goto (tgt := 29) hx hb d_M_order_20 (by decide) ?_
      exact W.iret (v := le10 k) hx hb hr (fun t ht hW => ⟨⟨(le10 k), (rc3, eg4, so5, wi6, ew7, lo8, en9, le10, pi11, b12, k13), rfl, ⟨⟨fun _ => ⟨k, hk_k, rfl⟩, fun _ => hc5⟩, hG_0, fun _ => ⟨k, hk_k, rfl, by rw [hc11]; exact hG9.2.2.2.2.2.2.2 k hk_k⟩⟩, by rw [ht]; exact hP, hD⟩, hS.F ht⟩) hS.2.2 d_M_order_29
  · refine lv_iconst (v := nI 0) hx hb d_M_order_8 (by decide) ?_
    exact W.iret (v := nI 0) hx hb hr (fun t ht hW => ⟨⟨(nI 0), (rc3, eg4, so5, wi6, ew7, lo8, en9, le10, pi11, b12, k13), rfl, ⟨hb_0, hG_0, fun h => by rw [hc5] at h; cases h⟩, by rw [ht]; exact hP, hD⟩, hS.F ht⟩) hS.2.2 d_M_order_9
