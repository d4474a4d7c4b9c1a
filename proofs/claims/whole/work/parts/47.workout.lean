/-! contracts of Side.workOut, Nest.workOut (laid by wip/gen/workout.py) -/
abbrev nb_ws (cJ cI : ClassId) (h2 c2 h1 n1 a1 e1 l1 b1 t1 g1 : Nat) (bo : Nat → Int64) (ns : Int32) (nx ab : Nat → Int64) (en lf bl tr : Nat → Int32) (sz rt : Int32) (mt : Int64) (sl : Int32) (gs : Nat → Int64) : va_W := ns_ws cJ cI h2 c2 bo ns ++ bo_ws cJ cI h1 n1 a1 e1 l1 b1 t1 g1 nx ab en lf bl tr sz rt mt sl gs
set_option maxHeartbeats 4000000 in
set_option maxRecDepth 100000 in
theorem c_S_workOut_0 (l : Launch) (dC : Nat → ClassId) (dI : Nat → Nat → Nat) (cJ cI : ClassId) (h1 n1 a1 e1 l1 b1 t1 hs : Nat) (nx : Nat → Int64) (ab : Nat → Int64) (en : Nat → Int32) (lf : Nat → Int32) (bl : Nat → Int32) (tr : Nat → Int32) (mt : Int64) (n r : Nat) (hn : n ≤ 48) (hq : false = true → r < n ∧ ∀ u v, gf_E n nx u v → v < n) : Met l y_S_workOut w_S_workOut ({ frames := 4, cells := 0, slots := 0, locals := 96 }) (va_Pc [.ref h1] (cw_M (dC, dI) cJ cI (sd_ws cJ cI h1 n1 a1 e1 l1 b1 t1 nx ab en lf bl tr (nI n) (nI r) mt (nI 0)) hs)) (va_Qv (fun (u9 : (Nat → Int64) × (Nat → Int32) × (Nat → Int32) × (Nat → Int32) × (Nat → Int32) × Int64) => match u9 with | (ab9, en9, lf9, bl9, tr9, mt9) => (false = false → ab9 = ab ∧ en9 = en ∧ lf9 = lf ∧ bl9 = bl ∧ mt9 = mt) ∧ (false = true → sd_G n r nx ab9 en9 lf9 bl9 mt9)) (fun (u9 : (Nat → Int64) × (Nat → Int32) × (Nat → Int32) × (Nat → Int32) × (Nat → Int32) × Int64) (t : State) => match u9 with | (ab9, en9, lf9, bl9, tr9, mt9) => va_P (dC, dI) vwCl (sd_ws cJ cI h1 n1 a1 e1 l1 b1 t1 nx ab9 en9 lf9 bl9 tr9 (nI n) (nI r) mt9 (nI 0)) t.heap ∧ va_D (va_A (sd_ws cJ cI h1 n1 a1 e1 l1 b1 t1 nx ab en lf bl tr (nI n) (nI r) mt (nI 0)) hs) (sd_ws cJ cI h1 n1 a1 e1 l1 b1 t1 nx ab9 en9 lf9 bl9 tr9 (nI n) (nI r) mt9 (nI 0))) (va_A (sd_ws cJ cI h1 n1 a1 e1 l1 b1 t1 nx ab en lf bl tr (nI n) (nI r) mt (nI 0)) hs)) 0 0 (va_A (sd_ws cJ cI h1 n1 a1 e1 l1 b1 t1 nx ab en lf bl tr (nI n) (nI r) mt (nI 0)) hs) := by
  refine Met.ofW (cc := b_S_workOut) (maxL := 1) (ret := none) (by decide) rfl ?_
  intro p e s m args below meth c s₁ B hml hv9
  obtain ⟨rfl, hsz, ⟨hP, hK, hNw⟩, hD0⟩ := hv9
  have hx := B.exec
  have hb := B.bytes
  have hr := B.returns
  have hts := atoms_spec (ws := w_S_workOut) B.pre
  have hown : s.vm.findClass "FlowNest$Side" = some m.cls := findClass_of_methodNamed B.named
  have hlocks := B.notSynchronized
  subst hsz
  have hD := hD0.self (sz := s.heap.size)
  generalize hAe : va_A (sd_ws cJ cI h1 n1 a1 e1 l1 b1 t1 nx ab en lf bl tr (nI n) (nI r) mt (nI 0)) s.heap.size = A at hD ⊢
  have hA : ∀ q : Nat, s.heap.size ≤ q → A q := fun q h => by rw [← hAe]; exact Or.inr h
  have hS : va_S A s.heap s.heap [] := va_S.rf
  have hP : va_P (dC, dI) vwCl (sd_ws cJ cI h1 n1 a1 e1 l1 b1 t1 nx ab en lf bl tr (nI n) (nI r) mt (nI 0)) s.heap := hP
  have hl := lv_entry ([.ref h1]) (n := 1) (Nat.le_of_ble_eq_true rfl)
  rw [lg_entry_eq]
  generalize (lg_sl ([.ref h1]) ++ List.replicate (1 - (lg_sl ([.ref h1])).length) Slot.unset).toArray = ls at hl ⊢
  have hl : lv_has ls 1 [(0, .ref h1)] := hl
  refine lv_aload_n hx hb d_S_workOut_0 rfl (lv_at hl 0 rfl) ?_
  refine va_get (D := (dC, dI)) (ci := 1) (v := .int (nI 0)) (C := "FlowNest$Side") (T := T_S) (N := 10) hx hb hts nm_iS hown hK hP 0 rfl rfl 9 (by decide) (hts _ (List.mem_cons_of_mem _ nm_44)) (fun _ h9 => h9) rfl d_S_workOut_1 ?_
  refine wl_ifeqn (tgt := 20) hx hb (by omega) d_S_workOut_4 (by decide) (fun hc4 => ?_) (fun hc4 => ?_)
  · exact W.vret hx hb hr (fun t ht hW => ⟨⟨(ab, en, lf, bl, tr, mt), rfl, ⟨fun _ => ⟨rfl, rfl, rfl, rfl, rfl⟩, fun h => by cases h⟩, by rw [ht]; exact hP, hD⟩, hS.F ht⟩) hS.2.2 d_S_workOut_20
  · exact absurd hc4 (by decide)
set_option maxHeartbeats 4000000 in
set_option maxRecDepth 100000 in
theorem c_S_workOut_1 (l : Launch) (dC : Nat → ClassId) (dI : Nat → Nat → Nat) (cJ cI : ClassId) (h1 n1 a1 e1 l1 b1 t1 hs : Nat) (nx : Nat → Int64) (ab : Nat → Int64) (en : Nat → Int32) (lf : Nat → Int32) (bl : Nat → Int32) (tr : Nat → Int32) (mt : Int64) (n r : Nat) (hn : n ≤ 48) (hq : true = true → r < n ∧ ∀ u v, gf_E n nx u v → v < n) : Met l y_S_workOut w_S_workOut ({ frames := 4, cells := 0, slots := 0, locals := 96 }) (va_Pc [.ref h1] (cw_M (dC, dI) cJ cI (sd_ws cJ cI h1 n1 a1 e1 l1 b1 t1 nx ab en lf bl tr (nI n) (nI r) mt (nI 1)) hs)) (va_Qv (fun (u9 : (Nat → Int64) × (Nat → Int32) × (Nat → Int32) × (Nat → Int32) × (Nat → Int32) × Int64) => match u9 with | (ab9, en9, lf9, bl9, tr9, mt9) => (true = false → ab9 = ab ∧ en9 = en ∧ lf9 = lf ∧ bl9 = bl ∧ mt9 = mt) ∧ (true = true → sd_G n r nx ab9 en9 lf9 bl9 mt9)) (fun (u9 : (Nat → Int64) × (Nat → Int32) × (Nat → Int32) × (Nat → Int32) × (Nat → Int32) × Int64) (t : State) => match u9 with | (ab9, en9, lf9, bl9, tr9, mt9) => va_P (dC, dI) vwCl (sd_ws cJ cI h1 n1 a1 e1 l1 b1 t1 nx ab9 en9 lf9 bl9 tr9 (nI n) (nI r) mt9 (nI 0)) t.heap ∧ va_D (va_A (sd_ws cJ cI h1 n1 a1 e1 l1 b1 t1 nx ab en lf bl tr (nI n) (nI r) mt (nI 1)) hs) (sd_ws cJ cI h1 n1 a1 e1 l1 b1 t1 nx ab9 en9 lf9 bl9 tr9 (nI n) (nI r) mt9 (nI 0))) (va_A (sd_ws cJ cI h1 n1 a1 e1 l1 b1 t1 nx ab en lf bl tr (nI n) (nI r) mt (nI 1)) hs)) 0 0 (va_A (sd_ws cJ cI h1 n1 a1 e1 l1 b1 t1 nx ab en lf bl tr (nI n) (nI r) mt (nI 1)) hs) := by
  refine Met.ofW (cc := b_S_workOut) (maxL := 1) (ret := none) (by decide) rfl ?_
  intro p e s m args below meth c s₁ B hml hv9
  obtain ⟨rfl, hsz, ⟨hP, hK, hNw⟩, hD0⟩ := hv9
  have hx := B.exec
  have hb := B.bytes
  have hr := B.returns
  have hts := atoms_spec (ws := w_S_workOut) B.pre
  have hown : s.vm.findClass "FlowNest$Side" = some m.cls := findClass_of_methodNamed B.named
  have hlocks := B.notSynchronized
  subst hsz
  have hD := hD0.self (sz := s.heap.size)
  generalize hAe : va_A (sd_ws cJ cI h1 n1 a1 e1 l1 b1 t1 nx ab en lf bl tr (nI n) (nI r) mt (nI 1)) s.heap.size = A at hD ⊢
  have hA : ∀ q : Nat, s.heap.size ≤ q → A q := fun q h => by rw [← hAe]; exact Or.inr h
  have hS : va_S A s.heap s.heap [] := va_S.rf
  have hP : va_P (dC, dI) vwCl (sd_ws cJ cI h1 n1 a1 e1 l1 b1 t1 nx ab en lf bl tr (nI n) (nI r) mt (nI 1)) s.heap := hP
  have hl := lv_entry ([.ref h1]) (n := 1) (Nat.le_of_ble_eq_true rfl)
  rw [lg_entry_eq]
  generalize (lg_sl ([.ref h1]) ++ List.replicate (1 - (lg_sl ([.ref h1])).length) Slot.unset).toArray = ls at hl ⊢
  have hl : lv_has ls 1 [(0, .ref h1)] := hl
  refine lv_aload_n hx hb d_S_workOut_0 rfl (lv_at hl 0 rfl) ?_
  refine va_get (D := (dC, dI)) (ci := 1) (v := .int (nI 1)) (C := "FlowNest$Side") (T := T_S) (N := 10) hx hb hts nm_iS hown hK hP 0 rfl rfl 9 (by decide) (hts _ (List.mem_cons_of_mem _ nm_44)) (fun _ h9 => h9) rfl d_S_workOut_1 ?_
  refine wl_ifeqn (tgt := 20) hx hb (by omega) d_S_workOut_4 (by decide) (fun hc4 => ?_) (fun hc4 => ?_)
  · exact absurd hc4 (by decide)
  · obtain ⟨hr9, hL⟩ := hq rfl
    refine lv_aload_n hx hb d_S_workOut_7 rfl (lv_at hl 0 rfl) ?_
    have hPc := hP.sub (ws' := sd_ws cJ cI h1 n1 a1 e1 l1 b1 t1 nx ab en lf bl tr (nI n) (nI r) mt (nI 1)) [0, 1, 2, 3, 4, 5, 6] rfl
    have hDc := hD.sub (ws' := sd_ws cJ cI h1 n1 a1 e1 l1 b1 t1 nx ab en lf bl tr (nI n) (nI r) mt (nI 1)) [0, 1, 2, 3, 4, 5, 6] (by decide) rfl
    have hFc := va_free (wc := sd_ws cJ cI h1 n1 a1 e1 l1 b1 t1 nx ab en lf bl tr (nI n) (nI r) mt (nI 1)) hD hS hA [0, 1, 2, 3, 4, 5, 6] rfl
    refine va_callv (va_runV (C := "FlowNest$Side") (b := h1) (As := []) (rest := []) ⟨hx, hb, hml, hown, hts⟩ (c_S_goOver l dC dI cJ cI h1 n1 a1 e1 l1 b1 t1 s.heap.size nx ab en lf bl tr mt (nI 1) n r hn hr9 hL) (cwV 0 hts (nm_gV nm_111 nm_113 nm_s_S_goOver nm_2 nm_c_S_goOver) rfl rfl rfl (by decide +kernel) ⟨Nat.le_of_ble_eq_true rfl, Nat.le_of_ble_eq_true rfl⟩) ⟨cw_blindM, va_recv hK hP (ci := 1) rfl (q0 := 0) rfl, cw_preM hPc hDc hK hNw⟩ rfl rfl hl.1 rfl (lv_room (Nat.le_of_ble_eq_true rfl)) d_S_workOut_8 ⟨Nat.zero_le _, Nat.zero_le _⟩) hS (fun q _ h => hFc q h) hFc (fun u9 t H1 locs ht hvm hw2 hB hz1 hk1 hS => ?_)
    obtain ⟨en3, lf4, bl5, tr6, mt7⟩ := u9
    obtain ⟨hP1, hD1⟩ := hB
    rw [ht] at hP1
    obtain ⟨hP, hD⟩ := va_join (wr := ([] : List Nat).filterMap (fun (i : Nat) => (sd_ws cJ cI h1 n1 a1 e1 l1 b1 t1 nx ab en lf bl tr (nI n) (nI r) mt (nI 1))[i]?)) (w1 := sd_ws cJ cI h1 n1 a1 e1 l1 b1 t1 nx ab en3 lf4 bl5 tr6 (nI n) (nI r) mt7 (nI 1)) hP hD [0, 1, 2, 3, 4, 5, 6] [] rfl rfl (by decide) (by decide) hk1 hFc hP1 hD1
    generalize H1 = H at hP hS ⊢
    have hP : va_P (dC, dI) vwCl (sd_ws cJ cI h1 n1 a1 e1 l1 b1 t1 nx ab en3 lf4 bl5 tr6 (nI n) (nI r) mt7 (nI 1)) H := hP.sub (ws' := sd_ws cJ cI h1 n1 a1 e1 l1 b1 t1 nx ab en3 lf4 bl5 tr6 (nI n) (nI r) mt7 (nI 1)) [0, 1, 2, 3, 4, 5, 6] rfl
    have hD : va_D A (sd_ws cJ cI h1 n1 a1 e1 l1 b1 t1 nx ab en3 lf4 bl5 tr6 (nI n) (nI r) mt7 (nI 1)) := hD.sub (ws' := sd_ws cJ cI h1 n1 a1 e1 l1 b1 t1 nx ab en3 lf4 bl5 tr6 (nI n) (nI r) mt7 (nI 1)) [0, 1, 2, 3, 4, 5, 6] (by decide) rfl
    obtain ⟨g1, g2, g3, g4⟩ := hw2
    have hbl9 : sd_bl n nx r (bs_c mt7) bl5 lf4 := by rw [g3, g2]; exact (df_bl (by omega) hL hr9 bl g4).1
    refine lv_aload_n hx hb d_S_workOut_11 rfl (lv_at hl 0 rfl) ?_
    have hPc := hP.sub (ws' := sd_ws cJ cI h1 n1 a1 e1 l1 b1 t1 nx ab en3 lf4 bl5 tr6 (nI n) (nI r) mt7 (nI 1)) [0, 1, 2, 3, 4, 5, 6] rfl
    have hDc := hD.sub (ws' := sd_ws cJ cI h1 n1 a1 e1 l1 b1 t1 nx ab en3 lf4 bl5 tr6 (nI n) (nI r) mt7 (nI 1)) [0, 1, 2, 3, 4, 5, 6] (by decide) rfl
    have hFc := va_free (wc := sd_ws cJ cI h1 n1 a1 e1 l1 b1 t1 nx ab en3 lf4 bl5 tr6 (nI n) (nI r) mt7 (nI 1)) hD hS hA [0, 1, 2, 3, 4, 5, 6] rfl
    refine va_callv (va_runV (C := "FlowNest$Side") (b := h1) (As := []) (rest := []) ⟨hx, hb, hml, hown, hts⟩ (c_S_dominate l dC dI cJ cI h1 n1 a1 e1 l1 b1 t1 H.size nx ab en3 lf4 bl5 tr6 mt7 (nI 1) n r hn hr9 hL g4 hbl9) (cwV 0 hts (nm_gV nm_132 nm_134 nm_s_S_dominate nm_2 nm_c_S_dominate) rfl rfl rfl (by decide +kernel) ⟨Nat.le_of_ble_eq_true rfl, Nat.le_of_ble_eq_true rfl⟩) ⟨cw_blindM, va_recv hK hP (ci := 1) rfl (q0 := 0) rfl, cw_preM hPc hDc hK hNw⟩ rfl rfl hl.1 rfl (lv_room (Nat.le_of_ble_eq_true rfl)) d_S_workOut_12 ⟨Nat.zero_le _, Nat.zero_le _⟩) hS (fun q _ h => hFc q h) hFc (fun u9 t H1 locs ht hvm hw9 hB hz1 hk1 hS => ?_)
    obtain ⟨ab10, rfl⟩ : ∃ z, z = u9 := ⟨_, rfl⟩
    obtain ⟨hP1, hD1⟩ := hB
    rw [ht] at hP1
    obtain ⟨hP, hD⟩ := va_join (wr := ([] : List Nat).filterMap (fun (i : Nat) => (sd_ws cJ cI h1 n1 a1 e1 l1 b1 t1 nx ab en3 lf4 bl5 tr6 (nI n) (nI r) mt7 (nI 1))[i]?)) (w1 := sd_ws cJ cI h1 n1 a1 e1 l1 b1 t1 nx ab10 en3 lf4 bl5 tr6 (nI n) (nI r) mt7 (nI 1)) hP hD [0, 1, 2, 3, 4, 5, 6] [] rfl rfl (by decide) (by decide) hk1 hFc hP1 hD1
    generalize H1 = H at hP hS ⊢
    have hP : va_P (dC, dI) vwCl (sd_ws cJ cI h1 n1 a1 e1 l1 b1 t1 nx ab10 en3 lf4 bl5 tr6 (nI n) (nI r) mt7 (nI 1)) H := hP.sub (ws' := sd_ws cJ cI h1 n1 a1 e1 l1 b1 t1 nx ab10 en3 lf4 bl5 tr6 (nI n) (nI r) mt7 (nI 1)) [0, 1, 2, 3, 4, 5, 6] rfl
    have hD : va_D A (sd_ws cJ cI h1 n1 a1 e1 l1 b1 t1 nx ab10 en3 lf4 bl5 tr6 (nI n) (nI r) mt7 (nI 1)) := hD.sub (ws' := sd_ws cJ cI h1 n1 a1 e1 l1 b1 t1 nx ab10 en3 lf4 bl5 tr6 (nI n) (nI r) mt7 (nI 1)) [0, 1, 2, 3, 4, 5, 6] (by decide) rfl
    refine lv_aload_n hx hb d_S_workOut_15 rfl (lv_at hl 0 rfl) ?_
    refine lv_iconst (v := nI 0) hx hb d_S_workOut_16 (by decide) ?_
    refine va_put (D := (dC, dI)) (ci := 1) (v := .int (nI 0)) (ty := .boolean) (C := "FlowNest$Side") (T := T_S) (N := 10) hx hb hts nm_iS t_S t_S_ok nm_S hown hK hP hD hS 0 rfl rfl 9 (by decide) (hts _ (List.mem_cons_of_mem _ nm_44)) (fun _ h9 => h9) rfl (by decide +kernel) (by rfl) (by rfl) (Nat.le_of_ble_eq_true rfl) d_S_workOut_17 (fun H locs hP hD hS => ?_)
    have hP : va_P (dC, dI) vwCl (sd_ws cJ cI h1 n1 a1 e1 l1 b1 t1 nx ab10 en3 lf4 bl5 tr6 (nI n) (nI r) mt7 (nI 0)) H := hP
    have hD : va_D A (sd_ws cJ cI h1 n1 a1 e1 l1 b1 t1 nx ab10 en3 lf4 bl5 tr6 (nI n) (nI r) mt7 (nI 0)) := hD
    exact W.vret hx hb hr (fun t ht hW => ⟨⟨(ab10, en3, lf4, bl5, tr6, mt7), rfl, ⟨fun h => (by cases h), fun _ => ⟨hr9, hL, g4, hw9, hbl9, bl, g2, g1⟩⟩, by rw [ht]; exact hP, hD⟩, hS.F ht⟩) hS.2.2 d_S_workOut_20
theorem c_S_workOut (l : Launch) (dC : Nat → ClassId) (dI : Nat → Nat → Nat) (cJ cI : ClassId) (h1 n1 a1 e1 l1 b1 t1 hs : Nat) (nx : Nat → Int64) (ab : Nat → Int64) (en : Nat → Int32) (lf : Nat → Int32) (bl : Nat → Int32) (tr : Nat → Int32) (mt : Int64) (n r : Nat) (q : Bool) (hn : n ≤ 48) (hq : q = true → r < n ∧ ∀ u v, gf_E n nx u v → v < n) : Met l y_S_workOut w_S_workOut ({ frames := 4, cells := 0, slots := 0, locals := 96 }) (va_Pc [.ref h1] (cw_M (dC, dI) cJ cI (sd_ws cJ cI h1 n1 a1 e1 l1 b1 t1 nx ab en lf bl tr (nI n) (nI r) mt (bs_i q)) hs)) (va_Qv (fun (u9 : (Nat → Int64) × (Nat → Int32) × (Nat → Int32) × (Nat → Int32) × (Nat → Int32) × Int64) => match u9 with | (ab9, en9, lf9, bl9, tr9, mt9) => (q = false → ab9 = ab ∧ en9 = en ∧ lf9 = lf ∧ bl9 = bl ∧ mt9 = mt) ∧ (q = true → sd_G n r nx ab9 en9 lf9 bl9 mt9)) (fun (u9 : (Nat → Int64) × (Nat → Int32) × (Nat → Int32) × (Nat → Int32) × (Nat → Int32) × Int64) (t : State) => match u9 with | (ab9, en9, lf9, bl9, tr9, mt9) => va_P (dC, dI) vwCl (sd_ws cJ cI h1 n1 a1 e1 l1 b1 t1 nx ab9 en9 lf9 bl9 tr9 (nI n) (nI r) mt9 (nI 0)) t.heap ∧ va_D (va_A (sd_ws cJ cI h1 n1 a1 e1 l1 b1 t1 nx ab en lf bl tr (nI n) (nI r) mt (bs_i q)) hs) (sd_ws cJ cI h1 n1 a1 e1 l1 b1 t1 nx ab9 en9 lf9 bl9 tr9 (nI n) (nI r) mt9 (nI 0))) (va_A (sd_ws cJ cI h1 n1 a1 e1 l1 b1 t1 nx ab en lf bl tr (nI n) (nI r) mt (bs_i q)) hs)) 0 0 (va_A (sd_ws cJ cI h1 n1 a1 e1 l1 b1 t1 nx ab en lf bl tr (nI n) (nI r) mt (bs_i q)) hs) := by
  cases q
  · exact c_S_workOut_0 l dC dI cJ cI h1 n1 a1 e1 l1 b1 t1 hs nx ab en lf bl tr mt n r hn hq
  · exact c_S_workOut_1 l dC dI cJ cI h1 n1 a1 e1 l1 b1 t1 hs nx ab en lf bl tr mt n r hn hq
set_option maxHeartbeats 4000000 in
set_option maxRecDepth 100000 in
theorem c_N_workOut_0 (l : Launch) (dC : Nat → ClassId) (dI : Nat → Nat → Nat) (cJ cI : ClassId) (h2 c2 h1 n1 a1 e1 l1 b1 t1 g1 hs : Nat) (bo : Nat → Int64) (nx : Nat → Int64) (ab : Nat → Int64) (en : Nat → Int32) (lf : Nat → Int32) (bl : Nat → Int32) (tr : Nat → Int32) (mt : Int64) (sl : Int32) (gs : Nat → Int64) (n r : Nat) (hn : n ≤ 48) (hq : false = true → sd_G n r nx ab en lf bl mt ∧ ∀ v, v < n → gs v = gf_T n nx v) : Met l y_N_workOut w_N_workOut ({ frames := 4, cells := 0, slots := 0, locals := 106 }) (va_Pc [.ref h2, .ref h1, .ref g1] (cw_M (dC, dI) cJ cI (nb_ws cJ cI h2 c2 h1 n1 a1 e1 l1 b1 t1 g1 bo (nI 0) nx ab en lf bl tr (nI n) (nI r) mt sl gs) hs)) (va_Qv (fun (bo9 : Nat → Int64) => (false = false → bo9 = bo) ∧ (false = true → ∀ v, v < n → bo9 v = sp_lp n nx r v)) (fun (bo9 : Nat → Int64) (t : State) => va_P (dC, dI) vwCl (nb_ws cJ cI h2 c2 h1 n1 a1 e1 l1 b1 t1 g1 bo9 (nI 0) nx ab en lf bl tr (nI n) (nI r) mt sl gs) t.heap ∧ va_D (va_A (nb_ws cJ cI h2 c2 h1 n1 a1 e1 l1 b1 t1 g1 bo (nI 0) nx ab en lf bl tr (nI n) (nI r) mt sl gs) hs) (nb_ws cJ cI h2 c2 h1 n1 a1 e1 l1 b1 t1 g1 bo9 (nI 0) nx ab en lf bl tr (nI n) (nI r) mt sl gs)) (va_A (nb_ws cJ cI h2 c2 h1 n1 a1 e1 l1 b1 t1 g1 bo (nI 0) nx ab en lf bl tr (nI n) (nI r) mt sl gs) hs)) 0 0 (va_A (nb_ws cJ cI h2 c2 h1 n1 a1 e1 l1 b1 t1 g1 bo (nI 0) nx ab en lf bl tr (nI n) (nI r) mt sl gs) hs) := by
  refine Met.ofW (cc := b_N_workOut) (maxL := 4) (ret := none) (by decide) rfl ?_
  intro p e s m args below meth c s₁ B hml hv9
  obtain ⟨rfl, hsz, ⟨hP, hK, hNw⟩, hD0⟩ := hv9
  have hx := B.exec
  have hb := B.bytes
  have hr := B.returns
  have hts := atoms_spec (ws := w_N_workOut) B.pre
  have hown : s.vm.findClass "FlowNest$Nest" = some m.cls := findClass_of_methodNamed B.named
  have hlocks := B.notSynchronized
  subst hsz
  have hD := hD0.self (sz := s.heap.size)
  generalize hAe : va_A (nb_ws cJ cI h2 c2 h1 n1 a1 e1 l1 b1 t1 g1 bo (nI 0) nx ab en lf bl tr (nI n) (nI r) mt sl gs) s.heap.size = A at hD ⊢
  have hA : ∀ q : Nat, s.heap.size ≤ q → A q := fun q h => by rw [← hAe]; exact Or.inr h
  have hS : va_S A s.heap s.heap [] := va_S.rf
  have hP : va_P (dC, dI) vwCl (nb_ws cJ cI h2 c2 h1 n1 a1 e1 l1 b1 t1 g1 bo (nI 0) nx ab en lf bl tr (nI n) (nI r) mt sl gs) s.heap := hP
  have hl := lv_entry ([.ref h2, .ref h1, .ref g1]) (n := 4) (Nat.le_of_ble_eq_true rfl)
  rw [lg_entry_eq]
  generalize (lg_sl ([.ref h2, .ref h1, .ref g1]) ++ List.replicate (4 - (lg_sl ([.ref h2, .ref h1, .ref g1])).length) Slot.unset).toArray = ls at hl ⊢
  have hl : lv_has ls 4 [(0, .ref h2), (1, .ref h1), (2, .ref g1)] := hl
  refine lv_aload_n hx hb d_N_workOut_0 rfl (lv_at hl 0 rfl) ?_
  refine va_get (D := (dC, dI)) (ci := 0) (v := .int (nI 0)) (C := "FlowNest$Nest") (T := T_N) (N := 2) hx hb hts nm_iN hown hK hP 0 rfl rfl 1 (by decide) (hts _ (List.mem_cons_of_mem _ nm_76)) (fun _ h9 => h9) rfl d_N_workOut_1 ?_
  refine wl_ifeqn (tgt := 40) hx hb (by omega) d_N_workOut_4 (by decide) (fun hc4 => ?_) (fun hc4 => ?_)
  · exact W.vret hx hb hr (fun t ht hW => ⟨⟨bo, rfl, ⟨fun _ => rfl, fun h => by cases h⟩, by rw [ht]; exact hP, hD⟩, hS.F ht⟩) hS.2.2 d_N_workOut_40
  · exact absurd hc4 (by decide)
set_option maxHeartbeats 4000000 in
set_option maxRecDepth 100000 in
theorem c_N_workOut_1 (l : Launch) (dC : Nat → ClassId) (dI : Nat → Nat → Nat) (cJ cI : ClassId) (h2 c2 h1 n1 a1 e1 l1 b1 t1 g1 hs : Nat) (bo : Nat → Int64) (nx : Nat → Int64) (ab : Nat → Int64) (en : Nat → Int32) (lf : Nat → Int32) (bl : Nat → Int32) (tr : Nat → Int32) (mt : Int64) (sl : Int32) (gs : Nat → Int64) (n r : Nat) (hn : n ≤ 48) (hq : true = true → sd_G n r nx ab en lf bl mt ∧ ∀ v, v < n → gs v = gf_T n nx v) : Met l y_N_workOut w_N_workOut ({ frames := 4, cells := 0, slots := 0, locals := 106 }) (va_Pc [.ref h2, .ref h1, .ref g1] (cw_M (dC, dI) cJ cI (nb_ws cJ cI h2 c2 h1 n1 a1 e1 l1 b1 t1 g1 bo (nI 1) nx ab en lf bl tr (nI n) (nI r) mt sl gs) hs)) (va_Qv (fun (bo9 : Nat → Int64) => (true = false → bo9 = bo) ∧ (true = true → ∀ v, v < n → bo9 v = sp_lp n nx r v)) (fun (bo9 : Nat → Int64) (t : State) => va_P (dC, dI) vwCl (nb_ws cJ cI h2 c2 h1 n1 a1 e1 l1 b1 t1 g1 bo9 (nI 0) nx ab en lf bl tr (nI n) (nI r) mt sl gs) t.heap ∧ va_D (va_A (nb_ws cJ cI h2 c2 h1 n1 a1 e1 l1 b1 t1 g1 bo (nI 1) nx ab en lf bl tr (nI n) (nI r) mt sl gs) hs) (nb_ws cJ cI h2 c2 h1 n1 a1 e1 l1 b1 t1 g1 bo9 (nI 0) nx ab en lf bl tr (nI n) (nI r) mt sl gs)) (va_A (nb_ws cJ cI h2 c2 h1 n1 a1 e1 l1 b1 t1 g1 bo (nI 1) nx ab en lf bl tr (nI n) (nI r) mt sl gs) hs)) 0 0 (va_A (nb_ws cJ cI h2 c2 h1 n1 a1 e1 l1 b1 t1 g1 bo (nI 1) nx ab en lf bl tr (nI n) (nI r) mt sl gs) hs) := by
  refine Met.ofW (cc := b_N_workOut) (maxL := 4) (ret := none) (by decide) rfl ?_
  intro p e s m args below meth c s₁ B hml hv9
  obtain ⟨rfl, hsz, ⟨hP, hK, hNw⟩, hD0⟩ := hv9
  have hx := B.exec
  have hb := B.bytes
  have hr := B.returns
  have hts := atoms_spec (ws := w_N_workOut) B.pre
  have hown : s.vm.findClass "FlowNest$Nest" = some m.cls := findClass_of_methodNamed B.named
  have hlocks := B.notSynchronized
  subst hsz
  have hD := hD0.self (sz := s.heap.size)
  generalize hAe : va_A (nb_ws cJ cI h2 c2 h1 n1 a1 e1 l1 b1 t1 g1 bo (nI 1) nx ab en lf bl tr (nI n) (nI r) mt sl gs) s.heap.size = A at hD ⊢
  have hA : ∀ q : Nat, s.heap.size ≤ q → A q := fun q h => by rw [← hAe]; exact Or.inr h
  have hS : va_S A s.heap s.heap [] := va_S.rf
  have hP : va_P (dC, dI) vwCl (nb_ws cJ cI h2 c2 h1 n1 a1 e1 l1 b1 t1 g1 bo (nI 1) nx ab en lf bl tr (nI n) (nI r) mt sl gs) s.heap := hP
  have hl := lv_entry ([.ref h2, .ref h1, .ref g1]) (n := 4) (Nat.le_of_ble_eq_true rfl)
  rw [lg_entry_eq]
  generalize (lg_sl ([.ref h2, .ref h1, .ref g1]) ++ List.replicate (4 - (lg_sl ([.ref h2, .ref h1, .ref g1])).length) Slot.unset).toArray = ls at hl ⊢
  have hl : lv_has ls 4 [(0, .ref h2), (1, .ref h1), (2, .ref g1)] := hl
  refine lv_aload_n hx hb d_N_workOut_0 rfl (lv_at hl 0 rfl) ?_
  refine va_get (D := (dC, dI)) (ci := 0) (v := .int (nI 1)) (C := "FlowNest$Nest") (T := T_N) (N := 2) hx hb hts nm_iN hown hK hP 0 rfl rfl 1 (by decide) (hts _ (List.mem_cons_of_mem _ nm_76)) (fun _ h9 => h9) rfl d_N_workOut_1 ?_
  refine wl_ifeqn (tgt := 40) hx hb (by omega) d_N_workOut_4 (by decide) (fun hc4 => ?_) (fun hc4 => ?_)
  · exact absurd hc4 (by decide)
  · obtain ⟨hg, hgs⟩ := hq rfl
    refine lv_iconst (v := nI 0) hx hb d_N_workOut_7 (by decide) ?_
    refine lv_istore_n (lv' := [(3, .int (nI 0)), (0, .ref h2), (1, .ref h1), (2, .ref g1)]) hx hb d_N_workOut_8 rfl hl (by decide) rfl (fun ls hl => ?_)
    refine wl_loop (σ := (Nat → Int64) × Nat) (dC, dI) vwCl A 9 4 (fun (x : (Nat → Int64) × Nat) => match x with | (B, k) => [(0, .ref h2), (1, .ref h1), (2, .ref g1), (3, .int (nI k))]) (fun (x : (Nat → Int64) × Nat) => match x with | (B, k) => nb_ws cJ cI h2 c2 h1 n1 a1 e1 l1 b1 t1 g1 B (nI 1) nx ab en lf bl tr (nI n) (nI r) mt sl gs) (fun (x : (Nat → Int64) × Nat) => match x with | (B, k) => k ≤ n ∧ ∀ v, v < k → B v = sp_lp n nx r v) (fun (x : (Nat → Int64) × Nat) => match x with | (B, k) => n - k) ?_ (bo, 0) (⟨Nat.zero_le n, fun v hv => by omega⟩) hP hD hS (lv_sub hl [1, 2, 3, 0] rfl)
    intro x hI ih H locs ls hP hD hS hl
    obtain ⟨B, k⟩ := x
    have hI : k ≤ n ∧ ∀ v, v < k → B v = sp_lp n nx r v := hI
    have hP : va_P (dC, dI) vwCl (nb_ws cJ cI h2 c2 h1 n1 a1 e1 l1 b1 t1 g1 B (nI 1) nx ab en lf bl tr (nI n) (nI r) mt sl gs) H := hP
    have hD : va_D A (nb_ws cJ cI h2 c2 h1 n1 a1 e1 l1 b1 t1 g1 B (nI 1) nx ab en lf bl tr (nI n) (nI r) mt sl gs) := hD
    have hl : lv_has ls 4 [(0, .ref h2), (1, .ref h1), (2, .ref g1), (3, .int (nI k))] := hl
    refine lv_iload_n hx hb d_N_workOut_9 rfl (lv_at hl 3 rfl) ?_
    refine lv_aload_n hx hb d_N_workOut_10 rfl (lv_at hl 1 rfl) ?_
    refine va_get (D := (dC, dI)) (ci := 1) (v := .int (nI n)) (C := "FlowNest$Side") (T := T_S) (N := 10) hx hb hts nm_iS hown hK hP 2 rfl rfl 6 (by decide) (hts _ (List.mem_cons_of_mem _ nm_38)) (fun _ h9 => h9) rfl d_N_workOut_11 ?_
    refine wl_ige (tgt := 35) hx hb (by omega) (by omega) d_N_workOut_14 (by decide) (fun hc14 => ?_) (fun hc14 => ?_)
    · refine lv_aload_n hx hb d_N_workOut_35 rfl (lv_at hl 0 rfl) ?_
      refine lv_iconst (v := nI 0) hx hb d_N_workOut_36 (by decide) ?_
      refine va_put (D := (dC, dI)) (ci := 0) (v := .int (nI 0)) (ty := .boolean) (C := "FlowNest$Nest") (T := T_N) (N := 2) hx hb hts nm_iN t_N t_N_ok nm_N hown hK hP hD hS 0 rfl rfl 1 (by decide) (hts _ (List.mem_cons_of_mem _ nm_76)) (fun _ h9 => h9) rfl (by decide +kernel) (by rfl) (by rfl) (Nat.le_of_ble_eq_true rfl) d_N_workOut_37 (fun H locs hP hD hS => ?_)
      have hP : va_P (dC, dI) vwCl (nb_ws cJ cI h2 c2 h1 n1 a1 e1 l1 b1 t1 g1 B (nI 0) nx ab en lf bl tr (nI n) (nI r) mt sl gs) H := hP
      have hD : va_D A (nb_ws cJ cI h2 c2 h1 n1 a1 e1 l1 b1 t1 g1 B (nI 0) nx ab en lf bl tr (nI n) (nI r) mt sl gs) := hD
      exact W.vret hx hb hr (fun t ht hW => ⟨⟨B, rfl, ⟨fun h => (by cases h), fun _ v hv => hI.2 v (by omega)⟩, by rw [ht]; exact hP, hD⟩, hS.F ht⟩) hS.2.2 d_N_workOut_40
    · refine lv_aload_n hx hb d_N_workOut_17 rfl (lv_at hl 0 rfl) ?_
      refine va_get (D := (dC, dI)) (ci := 0) (v := .ref c2) (C := "FlowNest$Nest") (T := T_N) (N := 2) hx hb hts nm_iN hown hK hP 0 rfl rfl 0 (by decide) (hts _ (List.mem_cons_of_mem _ nm_74)) (fun _ h9 => h9) rfl d_N_workOut_18 ?_
      refine lv_iload_n hx hb d_N_workOut_21 rfl (lv_at hl 3 rfl) ?_
      refine lv_iload_n hx hb d_N_workOut_22 rfl (lv_at hl 3 rfl) ?_
      refine lv_aload_n hx hb d_N_workOut_23 rfl (lv_at hl 1 rfl) ?_
      refine lv_aload_n hx hb d_N_workOut_24 rfl (lv_at hl 2 rfl) ?_
      refine vp_callSl (va_Run.run (va_runS (As := [.int (nI k), .ref h1, .ref g1]) (rest := [.int (nI k), .ref c2]) ⟨hx, hb, hml, hown, hts⟩ (c_N_bodyOf l dC dI cJ cI h1 n1 a1 e1 l1 b1 t1 g1 nx ab en lf bl tr mt sl gs n r k hn (by omega) hg hgs) (va_cwS 3 hts (nm_gS nm_165 nm_166 nm_3 nm_c_N_bodyOf) rfl rfl rfl (by decide +kernel) ⟨Nat.le_of_ble_eq_true rfl, Nat.le_of_ble_eq_true rfl⟩) ⟨cw_blind, cw_pre (hP.sub (ws' := bo_ws cJ cI h1 n1 a1 e1 l1 b1 t1 g1 nx ab en lf bl tr (nI n) (nI r) mt sl gs) [2, 3, 4, 5, 6, 7, 8, 9] rfl) hK hNw⟩ rfl rfl hl.1 rfl (lv_room (Nat.le_of_ble_eq_true rfl)) d_N_workOut_25 ⟨Nat.zero_le _, Nat.zero_le _⟩)) (fun r1 hr2 => ?_)
      subst hr2
      refine wl_last (i := k) hx hb hK hP hD hS 1 0 rfl rfl (by omega) (by decide) d_N_workOut_28 (fun H locs hP hD hS => ?_)
      have hP : va_P (dC, dI) vwCl (nb_ws cJ cI h2 c2 h1 n1 a1 e1 l1 b1 t1 g1 (vp_updL B k (sp_lp n nx r k)) (nI 1) nx ab en lf bl tr (nI n) (nI r) mt sl gs) H := hP
      have hD : va_D A (nb_ws cJ cI h2 c2 h1 n1 a1 e1 l1 b1 t1 g1 (vp_updL B k (sp_lp n nx r k)) (nI 1) nx ab en lf bl tr (nI n) (nI r) mt sl gs) := hD
      refine lv_iinc (lv' := [(3, .int (nI (k + 1))), (0, .ref h2), (1, .ref h1), (2, .ref g1)]) (k := 3) (v := nI (k + 1)) hx hb d_N_workOut_29 hl rfl (nI_1 k) (by decide) rfl (fun ls hl => ?_)
      refine lv_goto (tgt := 9) hx hb d_N_workOut_32 (by decide) ?_
      exact ih ((vp_updL B k (sp_lp n nx r k)), (k + 1)) (show k + 1 ≤ n ∧ ∀ v, v < k + 1 → vp_updL B k (sp_lp n nx r k) v = sp_lp n nx r v from ⟨by omega, fun v hv => by
            by_cases e : v = k
            · subst e; exact pk_uLs
            · rw [pk_uLn e]; exact hI.2 v (by omega)⟩) (show n - (k + 1) < n - k by omega) _ _ _ hP hD hS (lv_sub hl [1, 2, 3, 0] rfl)
theorem c_N_workOut (l : Launch) (dC : Nat → ClassId) (dI : Nat → Nat → Nat) (cJ cI : ClassId) (h2 c2 h1 n1 a1 e1 l1 b1 t1 g1 hs : Nat) (bo : Nat → Int64) (nx : Nat → Int64) (ab : Nat → Int64) (en : Nat → Int32) (lf : Nat → Int32) (bl : Nat → Int32) (tr : Nat → Int32) (mt : Int64) (sl : Int32) (gs : Nat → Int64) (n r : Nat) (q : Bool) (hn : n ≤ 48) (hq : q = true → sd_G n r nx ab en lf bl mt ∧ ∀ v, v < n → gs v = gf_T n nx v) : Met l y_N_workOut w_N_workOut ({ frames := 4, cells := 0, slots := 0, locals := 106 }) (va_Pc [.ref h2, .ref h1, .ref g1] (cw_M (dC, dI) cJ cI (nb_ws cJ cI h2 c2 h1 n1 a1 e1 l1 b1 t1 g1 bo (bs_i q) nx ab en lf bl tr (nI n) (nI r) mt sl gs) hs)) (va_Qv (fun (bo9 : Nat → Int64) => (q = false → bo9 = bo) ∧ (q = true → ∀ v, v < n → bo9 v = sp_lp n nx r v)) (fun (bo9 : Nat → Int64) (t : State) => va_P (dC, dI) vwCl (nb_ws cJ cI h2 c2 h1 n1 a1 e1 l1 b1 t1 g1 bo9 (nI 0) nx ab en lf bl tr (nI n) (nI r) mt sl gs) t.heap ∧ va_D (va_A (nb_ws cJ cI h2 c2 h1 n1 a1 e1 l1 b1 t1 g1 bo (bs_i q) nx ab en lf bl tr (nI n) (nI r) mt sl gs) hs) (nb_ws cJ cI h2 c2 h1 n1 a1 e1 l1 b1 t1 g1 bo9 (nI 0) nx ab en lf bl tr (nI n) (nI r) mt sl gs)) (va_A (nb_ws cJ cI h2 c2 h1 n1 a1 e1 l1 b1 t1 g1 bo (bs_i q) nx ab en lf bl tr (nI n) (nI r) mt sl gs) hs)) 0 0 (va_A (nb_ws cJ cI h2 c2 h1 n1 a1 e1 l1 b1 t1 g1 bo (bs_i q) nx ab en lf bl tr (nI n) (nI r) mt sl gs) hs) := by
  cases q
  · exact c_N_workOut_0 l dC dI cJ cI h2 c2 h1 n1 a1 e1 l1 b1 t1 g1 hs bo nx ab en lf bl tr mt sl gs n r hn hq
  · exact c_N_workOut_1 l dC dI cJ cI h2 c2 h1 n1 a1 e1 l1 b1 t1 g1 hs bo nx ab en lf bl tr mt sl gs n r hn hq
