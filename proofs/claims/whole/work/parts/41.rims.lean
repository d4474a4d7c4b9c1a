/-! contracts of Side: what only reads (laid by wip/gen/side.py) -/
set_option maxHeartbeats 4000000 in
set_option maxRecDepth 100000 in
theorem c_S_rimOf (l : Launch) (dC : Nat → ClassId) (dI : Nat → Nat → Nat) (cJ cI : ClassId) (h1 n1 a1 e1 l1 b1 t1 : Nat) (nx : Nat → Int64) (ab : Nat → Int64) (en : Nat → Int32) (lf : Nat → Int32) (bl : Nat → Int32) (tr : Nat → Int32) (rt : Int32) (mt : Int64) (sl : Int32) (n v : Nat) (hn : n ≤ 48) (hv : v < 64) : Met l y_S_rimOf w_S_rimOf ({ frames := 2, cells := 0, slots := 0, locals := 42 }) (va_Pc [.ref h1, .int (nI v)] (cw_B (dC, dI) cJ cI (sd_ws cJ cI h1 n1 a1 e1 l1 b1 t1 nx ab en lf bl tr (nI n) rt mt sl))) (vp_Sl (fun r => r = cl_ta ab nx v n &&& ((cl_be ab v n &&& (bs_b v ^^^ (-1))) ^^^ (-1)))) 0 0 (fun _ => False) := by
  refine Met.ofW (cc := b_S_rimOf) (maxL := 7) (ret := (some .long)) (by decide) rfl ?_
  intro p e s m args below meth c s₁ B hml hv9
  obtain ⟨rfl, hP, hK, hNw⟩ := hv9
  have hx := B.exec
  have hb := B.bytes
  have hr := B.returns
  have hts := atoms_spec (ws := w_S_rimOf) B.pre
  have hown : s.vm.findClass "FlowNest$Side" = some m.cls := findClass_of_methodNamed B.named
  have hlocks := B.notSynchronized
  have hP : va_P (dC, dI) vwCl (sd_ws cJ cI h1 n1 a1 e1 l1 b1 t1 nx ab en lf bl tr (nI n) rt mt sl) s.heap := hP
  have hl := lv_entry ([.ref h1, .int (nI v)]) (n := 7) (Nat.le_of_ble_eq_true rfl)
  rw [lg_entry_eq]
  generalize (lg_sl ([.ref h1, .int (nI v)]) ++ List.replicate (7 - (lg_sl ([.ref h1, .int (nI v)])).length) Slot.unset).toArray = ls at hl ⊢
  have hl : lv_has ls 7 [(0, .ref h1), (1, .int (nI v))] := hl
  refine lv_lconst (v := 0) hx hb d_S_rimOf_0 (by decide) ?_
  refine lv_lstore_n (lv' := [(2, .long 0), (0, .ref h1), (1, .int (nI v))]) hx hb d_S_rimOf_1 rfl hl (by decide) rfl (fun ls hl => ?_)
  refine lv_lconst (v := 0) hx hb d_S_rimOf_2 (by decide) ?_
  refine lv_lstore (lv' := [(4, .long 0), (2, .long 0), (0, .ref h1), (1, .int (nI v))]) hx hb d_S_rimOf_3 hl (by decide) rfl (fun ls hl => ?_)
  refine lv_iconst (v := nI 0) hx hb d_S_rimOf_5 (by decide) ?_
  refine lv_istore (lv' := [(6, .int (nI 0)), (4, .long 0), (2, .long 0), (0, .ref h1), (1, .int (nI v))]) hx hb d_S_rimOf_6 hl (by decide) rfl (fun ls hl => ?_)
  refine wl_loopR (σ := Nat) 8 7 (fun (u : Nat) => [(0, .ref h1), (1, .int (nI v)), (2, .long (cl_be ab v u)), (4, .long (cl_ta ab nx v u)), (6, .int (nI u))]) (fun (u : Nat) => u ≤ n) (fun (u : Nat) => n - u) ?_ 0 (Nat.zero_le n) (lv_sub hl [3, 4, 2, 1, 0] rfl)
  clear hl
  intro u hI ih ls hl
  have hI : u ≤ n := hI
  have hl : lv_has ls 7 [(0, .ref h1), (1, .int (nI v)), (2, .long (cl_be ab v u)), (4, .long (cl_ta ab nx v u)), (6, .int (nI u))] := hl
  refine lv_iload hx hb d_S_rimOf_8 (lv_at hl 4 rfl) ?_
  refine lv_aload_n hx hb d_S_rimOf_10 rfl (lv_at hl 0 rfl) ?_
  refine va_get (D := (dC, dI)) (ci := 1) (v := .int (nI n)) (C := "FlowNest$Side") (T := T_S) (N := 10) hx hb hts nm_iS hown hK hP 0 rfl rfl 6 (by decide) (hts _ (List.mem_cons_of_mem _ nm_37)) (fun _ h9 => h9) rfl d_S_rimOf_11 ?_
  refine wl_ige (tgt := 57) hx hb (by omega) (by omega) d_S_rimOf_14 (by decide) (fun hc14 => ?_) (fun hc14 => ?_)
  · refine lv_lload hx hb d_S_rimOf_57 (lv_at hl 3 rfl) ?_
    refine lv_lload_n hx hb d_S_rimOf_59 rfl (lv_at hl 2 rfl) ?_
    refine lv_iload_n hx hb d_S_rimOf_60 rfl (lv_at hl 1 rfl) ?_
    refine vp_callSl (va_Run.run (va_runSN (As := [.int (nI v)]) (rest := [.long (cl_be ab v u), .long (cl_ta ab nx v u)]) ⟨hx, hb, hml, hown, hts⟩ (c_F_bit l v) ⟨va_cnB 1 hts (nm_gi nm_c_F_bit) rfl rfl rfl (nw_S_52 hNw) (hts _ (List.mem_cons_of_mem _ nm_1)) (by decide +kernel) ⟨Nat.le_of_ble_eq_true rfl, Nat.le_of_ble_eq_true rfl⟩, (hts _ (List.mem_cons_of_mem _ nm_119)), trivial⟩ ⟨fun _ _ _ _ q => ⟨q.1, trivial⟩, fun U hU hW => ⟨rfl, trivial⟩⟩ rfl rfl hl.1 rfl (lv_room (Nat.le_of_ble_eq_true rfl)) d_S_rimOf_61 ⟨Nat.zero_le _, Nat.zero_le _⟩)) (fun r hr => ?_)
    subst hr
    refine lv_ldc2 (v := -1) hx hb hown (hts _ (List.mem_cons_of_mem _ nm_121)) d_S_rimOf_64 ?_
    refine lv_lxor hx hb d_S_rimOf_67 ?_
    refine lv_land hx hb d_S_rimOf_68 ?_
    refine lv_ldc2 (v := -1) hx hb hown (hts _ (List.mem_cons_of_mem _ nm_121)) d_S_rimOf_69 ?_
    refine lv_lxor hx hb d_S_rimOf_72 ?_
    refine lv_land hx hb d_S_rimOf_73 ?_
    exact W.lret (v := (cl_ta ab nx v u) &&& (((cl_be ab v u) &&& ((bs_b v) ^^^ (-1))) ^^^ (-1))) hx hb hr (fun t ht hW => ⟨_, rfl, by rw [show u = n by omega], ht⟩) (fun _ h => nomatch h) d_S_rimOf_74
  · refine lv_aload_n hx hb d_S_rimOf_17 rfl (lv_at hl 0 rfl) ?_
    refine va_get (D := (dC, dI)) (ci := 1) (v := .ref a1) (C := "FlowNest$Side") (T := T_S) (N := 10) hx hb hts nm_iS hown hK hP 0 rfl rfl 1 (by decide) (hts _ (List.mem_cons_of_mem _ nm_28)) (fun _ h9 => h9) rfl d_S_rimOf_18 ?_
    refine lv_iload hx hb d_S_rimOf_21 (lv_at hl 4 rfl) ?_
    refine wl_lald (i := u) hx hb hK hP 2 0 rfl rfl (by omega) (by decide) d_S_rimOf_23 ?_
    refine lv_iload_n hx hb d_S_rimOf_24 rfl (lv_at hl 1 rfl) ?_
    refine vp_callSi (va_Run.run (va_runSN (As := [.long (ab u), .int (nI v)]) (rest := []) ⟨hx, hb, hml, hown, hts⟩ (c_F_has l (ab u) v (by omega)) ⟨va_cnB 2 hts (nm_gi nm_c_F_has) rfl rfl rfl (nw_S_71 hNw) (hts _ (List.mem_cons_of_mem _ nm_1)) (by decide +kernel) ⟨Nat.le_of_ble_eq_true rfl, Nat.le_of_ble_eq_true rfl⟩, (hts _ (List.mem_cons_of_mem _ nm_137)), trivial⟩ ⟨fun _ _ _ _ q => ⟨q.1, trivial⟩, fun U hU hW => ⟨rfl, trivial⟩⟩ rfl rfl hl.1 rfl (lv_room (Nat.le_of_ble_eq_true rfl)) d_S_rimOf_25 ⟨Nat.zero_le _, Nat.zero_le _⟩)) (fun r hr => ?_)
    subst hr
    refine wl_ifeqb (tgt := 51) hx hb d_S_rimOf_28 (by decide) (fun hc28 => ?_) (fun hc28 => ?_)
    · refine lv_iinc (lv' := [(6, .int (nI (u + 1))), (0, .ref h1), (1, .int (nI v)), (2, .long (cl_be ab v u)), (4, .long (cl_ta ab nx v u))]) (k := 4) (v := nI (u + 1)) hx hb d_S_rimOf_51 hl rfl (nI_1 u) (by decide) rfl (fun ls hl => ?_)
      refine lv_goto (tgt := 8) hx hb d_S_rimOf_54 (by decide) ?_
      rw [show cl_be ab v u = cl_be ab v (u + 1) from (if_neg (Bool.eq_false_iff.mp hc28)).symm, show cl_ta ab nx v u = cl_ta ab nx v (u + 1) from (if_neg (Bool.eq_false_iff.mp hc28)).symm] at hl
      exact ih (u + 1) (show u + 1 ≤ n by omega) (show n - (u + 1) < n - u by omega) _ (lv_sub hl [1, 2, 3, 4, 0] rfl)
    · refine lv_lload_n hx hb d_S_rimOf_31 rfl (lv_at hl 2 rfl) ?_
      refine lv_iload hx hb d_S_rimOf_32 (lv_at hl 4 rfl) ?_
      refine vp_callSl (va_Run.run (va_runSN (As := [.int (nI u)]) (rest := [.long (cl_be ab v u)]) ⟨hx, hb, hml, hown, hts⟩ (c_F_bit l u) ⟨va_cnB 1 hts (nm_gi nm_c_F_bit) rfl rfl rfl (nw_S_52 hNw) (hts _ (List.mem_cons_of_mem _ nm_1)) (by decide +kernel) ⟨Nat.le_of_ble_eq_true rfl, Nat.le_of_ble_eq_true rfl⟩, (hts _ (List.mem_cons_of_mem _ nm_119)), trivial⟩ ⟨fun _ _ _ _ q => ⟨q.1, trivial⟩, fun U hU hW => ⟨rfl, trivial⟩⟩ rfl rfl hl.1 rfl (lv_room (Nat.le_of_ble_eq_true rfl)) d_S_rimOf_34 ⟨Nat.zero_le _, Nat.zero_le _⟩)) (fun r hr => ?_)
      subst hr
      refine lv_lor hx hb d_S_rimOf_37 ?_
      refine lv_lstore_n (lv' := [(2, .long ((cl_be ab v u) ||| (bs_b u))), (0, .ref h1), (1, .int (nI v)), (4, .long (cl_ta ab nx v u)), (6, .int (nI u))]) hx hb d_S_rimOf_38 rfl hl (by decide) rfl (fun ls hl => ?_)
      refine lv_lload hx hb d_S_rimOf_39 (lv_at hl 3 rfl) ?_
      refine lv_aload_n hx hb d_S_rimOf_41 rfl (lv_at hl 1 rfl) ?_
      refine va_get (D := (dC, dI)) (ci := 1) (v := .ref n1) (C := "FlowNest$Side") (T := T_S) (N := 10) hx hb hts nm_iS hown hK hP 0 rfl rfl 0 (by decide) (hts _ (List.mem_cons_of_mem _ nm_26)) (fun _ h9 => h9) rfl d_S_rimOf_42 ?_
      refine lv_iload hx hb d_S_rimOf_45 (lv_at hl 4 rfl) ?_
      refine wl_lald (i := u) hx hb hK hP 1 0 rfl rfl (by omega) (by decide) d_S_rimOf_47 ?_
      refine lv_lor hx hb d_S_rimOf_48 ?_
      refine lv_lstore (lv' := [(4, .long ((cl_ta ab nx v u) ||| (nx u))), (2, .long ((cl_be ab v u) ||| (bs_b u))), (0, .ref h1), (1, .int (nI v)), (6, .int (nI u))]) hx hb d_S_rimOf_49 hl (by decide) rfl (fun ls hl => ?_)
      refine lv_iinc (lv' := [(6, .int (nI (u + 1))), (4, .long ((cl_ta ab nx v u) ||| (nx u))), (2, .long ((cl_be ab v u) ||| (bs_b u))), (0, .ref h1), (1, .int (nI v))]) (k := 4) (v := nI (u + 1)) hx hb d_S_rimOf_51 hl rfl (nI_1 u) (by decide) rfl (fun ls hl => ?_)
      refine lv_goto (tgt := 8) hx hb d_S_rimOf_54 (by decide) ?_
      rw [show cl_be ab v u ||| bs_b u = cl_be ab v (u + 1) from (if_pos hc28).symm, show cl_ta ab nx v u ||| nx u = cl_ta ab nx v (u + 1) from (if_pos hc28).symm] at hl
      exact ih (u + 1) (show u + 1 ≤ n by omega) (show n - (u + 1) < n - u by omega) _ (lv_sub hl [3, 4, 2, 1, 0] rfl)
set_option maxHeartbeats 4000000 in
set_option maxRecDepth 100000 in
theorem c_S_closestAbove (l : Launch) (dC : Nat → ClassId) (dI : Nat → Nat → Nat) (cJ cI : ClassId) (h1 n1 a1 e1 l1 b1 t1 : Nat) (nx : Nat → Int64) (ab : Nat → Int64) (en : Nat → Int32) (lf : Nat → Int32) (bl : Nat → Int32) (tr : Nat → Int32) (rt : Int32) (mt : Int64) (sl : Int32) (n v : Nat) (hn : n ≤ 48) (hv : v < n) : Met l y_S_closestAbove w_S_closestAbove ({ frames := 2, cells := 0, slots := 0, locals := 42 }) (va_Pc [.ref h1, .int (nI v)] (cw_B (dC, dI) cJ cI (sd_ws cJ cI h1 n1 a1 e1 l1 b1 t1 nx ab en lf bl tr (nI n) rt mt sl))) (vp_Si (fun r => (∃ u, u < n ∧ (bs_t (ab v &&& (bs_b v ^^^ (-1))) u = true ∧ ab u = ab v &&& (bs_b v ^^^ (-1))) ∧ r = nI u) ∨ ((∀ u, u < n → ¬ (bs_t (ab v &&& (bs_b v ^^^ (-1))) u = true ∧ ab u = ab v &&& (bs_b v ^^^ (-1)))) ∧ r = -1))) 0 0 (fun _ => False) := by
  refine Met.ofW (cc := b_S_closestAbove) (maxL := 5) (ret := (some .int)) (by decide) rfl ?_
  intro p e s m args below meth c s₁ B hml hv9
  obtain ⟨rfl, hP, hK, hNw⟩ := hv9
  have hx := B.exec
  have hb := B.bytes
  have hr := B.returns
  have hts := atoms_spec (ws := w_S_closestAbove) B.pre
  have hown : s.vm.findClass "FlowNest$Side" = some m.cls := findClass_of_methodNamed B.named
  have hlocks := B.notSynchronized
  have hP : va_P (dC, dI) vwCl (sd_ws cJ cI h1 n1 a1 e1 l1 b1 t1 nx ab en lf bl tr (nI n) rt mt sl) s.heap := hP
  have hl := lv_entry ([.ref h1, .int (nI v)]) (n := 5) (Nat.le_of_ble_eq_true rfl)
  rw [lg_entry_eq]
  generalize (lg_sl ([.ref h1, .int (nI v)]) ++ List.replicate (5 - (lg_sl ([.ref h1, .int (nI v)])).length) Slot.unset).toArray = ls at hl ⊢
  have hl : lv_has ls 5 [(0, .ref h1), (1, .int (nI v))] := hl
  refine lv_aload_n hx hb d_S_closestAbove_0 rfl (lv_at hl 0 rfl) ?_
  refine va_get (D := (dC, dI)) (ci := 1) (v := .ref a1) (C := "FlowNest$Side") (T := T_S) (N := 10) hx hb hts nm_iS hown hK hP 0 rfl rfl 1 (by decide) (hts _ (List.mem_cons_of_mem _ nm_28)) (fun _ h9 => h9) rfl d_S_closestAbove_1 ?_
  refine lv_iload_n hx hb d_S_closestAbove_4 rfl (lv_at hl 1 rfl) ?_
  refine wl_lald (i := v) hx hb hK hP 2 0 rfl rfl (by omega) (by decide) d_S_closestAbove_5 ?_
  refine lv_iload_n hx hb d_S_closestAbove_6 rfl (lv_at hl 1 rfl) ?_
  refine vp_callSl (va_Run.run (va_runSN (As := [.int (nI v)]) (rest := [.long (ab v)]) ⟨hx, hb, hml, hown, hts⟩ (c_F_bit l v) ⟨va_cnB 1 hts (nm_gi nm_c_F_bit) rfl rfl rfl (nw_S_52 hNw) (hts _ (List.mem_cons_of_mem _ nm_1)) (by decide +kernel) ⟨Nat.le_of_ble_eq_true rfl, Nat.le_of_ble_eq_true rfl⟩, (hts _ (List.mem_cons_of_mem _ nm_119)), trivial⟩ ⟨fun _ _ _ _ q => ⟨q.1, trivial⟩, fun U hU hW => ⟨rfl, trivial⟩⟩ rfl rfl hl.1 rfl (lv_room (Nat.le_of_ble_eq_true rfl)) d_S_closestAbove_7 ⟨Nat.zero_le _, Nat.zero_le _⟩)) (fun r hr => ?_)
  subst hr
  refine lv_ldc2 (v := -1) hx hb hown (hts _ (List.mem_cons_of_mem _ nm_121)) d_S_closestAbove_10 ?_
  refine lv_lxor hx hb d_S_closestAbove_13 ?_
  refine lv_land hx hb d_S_closestAbove_14 ?_
  refine lv_lstore_n (lv' := [(2, .long ((ab v) &&& ((bs_b v) ^^^ (-1)))), (0, .ref h1), (1, .int (nI v))]) hx hb d_S_closestAbove_15 rfl hl (by decide) rfl (fun ls hl => ?_)
  refine lv_iconst (v := nI 0) hx hb d_S_closestAbove_16 (by decide) ?_
  refine lv_istore (lv' := [(4, .int (nI 0)), (2, .long ((ab v) &&& ((bs_b v) ^^^ (-1)))), (0, .ref h1), (1, .int (nI v))]) hx hb d_S_closestAbove_17 hl (by decide) rfl (fun ls hl => ?_)
  refine wl_loopR (σ := Nat) 19 5 (fun (u : Nat) => [(0, .ref h1), (1, .int (nI v)), (2, .long (ab v &&& (bs_b v ^^^ -1))), (4, .int (nI u))]) (fun (u : Nat) => u ≤ n ∧ ∀ x, x < u → ¬ (bs_t (ab v &&& (bs_b v ^^^ (-1))) x = true ∧ ab x = ab v &&& (bs_b v ^^^ (-1)))) (fun (u : Nat) => n - u) ?_ 0 (⟨Nat.zero_le n, fun x hx => absurd hx (Nat.not_lt_zero x)⟩) (lv_sub hl [2, 3, 1, 0] rfl)
  clear hl
  intro u hI ih ls hl
  have hI : u ≤ n ∧ ∀ x, x < u → ¬ (bs_t (ab v &&& (bs_b v ^^^ (-1))) x = true ∧ ab x = ab v &&& (bs_b v ^^^ (-1))) := hI
  have hl : lv_has ls 5 [(0, .ref h1), (1, .int (nI v)), (2, .long (ab v &&& (bs_b v ^^^ -1))), (4, .int (nI u))] := hl
  refine lv_iload hx hb d_S_closestAbove_19 (lv_at hl 3 rfl) ?_
  refine lv_aload_n hx hb d_S_closestAbove_21 rfl (lv_at hl 0 rfl) ?_
  refine va_get (D := (dC, dI)) (ci := 1) (v := .int (nI n)) (C := "FlowNest$Side") (T := T_S) (N := 10) hx hb hts nm_iS hown hK hP 0 rfl rfl 6 (by decide) (hts _ (List.mem_cons_of_mem _ nm_37)) (fun _ h9 => h9) rfl d_S_closestAbove_22 ?_
  refine wl_ige (tgt := 58) hx hb (by omega) (by omega) d_S_closestAbove_25 (by decide) (fun hc25 => ?_) (fun hc25 => ?_)
  · refine lv_iconst (v := -1) hx hb d_S_closestAbove_58 (by decide) ?_
    exact W.iret (v := -1) hx hb hr (fun t ht hW => ⟨_, rfl, Or.inr ⟨fun x hx => hI.2 x (by omega), rfl⟩, ht⟩) (fun _ h => nomatch h) d_S_closestAbove_59
  · refine lv_lload_n hx hb d_S_closestAbove_28 rfl (lv_at hl 2 rfl) ?_
    refine lv_iload hx hb d_S_closestAbove_29 (lv_at hl 3 rfl) ?_
    refine vp_callSi (va_Run.run (va_runSN (As := [.long (ab v &&& (bs_b v ^^^ -1)), .int (nI u)]) (rest := []) ⟨hx, hb, hml, hown, hts⟩ (c_F_has l (ab v &&& (bs_b v ^^^ -1)) u (by omega)) ⟨va_cnB 2 hts (nm_gi nm_c_F_has) rfl rfl rfl (nw_S_71 hNw) (hts _ (List.mem_cons_of_mem _ nm_1)) (by decide +kernel) ⟨Nat.le_of_ble_eq_true rfl, Nat.le_of_ble_eq_true rfl⟩, (hts _ (List.mem_cons_of_mem _ nm_137)), trivial⟩ ⟨fun _ _ _ _ q => ⟨q.1, trivial⟩, fun U hU hW => ⟨rfl, trivial⟩⟩ rfl rfl hl.1 rfl (lv_room (Nat.le_of_ble_eq_true rfl)) d_S_closestAbove_31 ⟨Nat.zero_le _, Nat.zero_le _⟩)) (fun r hr => ?_)
    subst hr
    refine wl_ifeqb (tgt := 52) hx hb d_S_closestAbove_34 (by decide) (fun hc34 => ?_) (fun hc34 => ?_)
    · refine lv_iinc (lv' := [(4, .int (nI (u + 1))), (0, .ref h1), (1, .int (nI v)), (2, .long (ab v &&& (bs_b v ^^^ -1)))]) (k := 3) (v := nI (u + 1)) hx hb d_S_closestAbove_52 hl rfl (nI_1 u) (by decide) rfl (fun ls hl => ?_)
      refine lv_goto (tgt := 19) hx hb d_S_closestAbove_55 (by decide) ?_
      exact ih (u + 1) (show u + 1 ≤ n ∧ ∀ x, x < u + 1 → ¬ (bs_t (ab v &&& (bs_b v ^^^ (-1))) x = true ∧ ab x = ab v &&& (bs_b v ^^^ (-1))) from ⟨by omega, lt_s hI.2 (fun q => by rw [q.1] at hc34; cases hc34)⟩) (show n - (u + 1) < n - u by omega) _ (lv_sub hl [1, 2, 3, 0] rfl)
    · refine lv_aload_n hx hb d_S_closestAbove_37 rfl (lv_at hl 0 rfl) ?_
      refine va_get (D := (dC, dI)) (ci := 1) (v := .ref a1) (C := "FlowNest$Side") (T := T_S) (N := 10) hx hb hts nm_iS hown hK hP 0 rfl rfl 1 (by decide) (hts _ (List.mem_cons_of_mem _ nm_28)) (fun _ h9 => h9) rfl d_S_closestAbove_38 ?_
      refine lv_iload hx hb d_S_closestAbove_41 (lv_at hl 3 rfl) ?_
      refine wl_lald (i := u) hx hb hK hP 2 0 rfl rfl (by omega) (by decide) d_S_closestAbove_43 ?_
      refine lv_lload_n hx hb d_S_closestAbove_44 rfl (lv_at hl 2 rfl) ?_
      refine wl_lcmpne (tgt := 52) hx hb d_S_closestAbove_45 d_S_closestAbove_46 (by decide) (fun hc45 => ?_) (fun hc45 => ?_)
      · refine lv_iinc (lv' := [(4, .int (nI (u + 1))), (0, .ref h1), (1, .int (nI v)), (2, .long (ab v &&& (bs_b v ^^^ -1)))]) (k := 3) (v := nI (u + 1)) hx hb d_S_closestAbove_52 hl rfl (nI_1 u) (by decide) rfl (fun ls hl => ?_)
        refine lv_goto (tgt := 19) hx hb d_S_closestAbove_55 (by decide) ?_
        exact ih (u + 1) (show u + 1 ≤ n ∧ ∀ x, x < u + 1 → ¬ (bs_t (ab v &&& (bs_b v ^^^ (-1))) x = true ∧ ab x = ab v &&& (bs_b v ^^^ (-1))) from ⟨by omega, lt_s hI.2 (fun q => hc45 q.2)⟩) (show n - (u + 1) < n - u by omega) _ (lv_sub hl [1, 2, 3, 0] rfl)
      · refine lv_iload hx hb d_S_closestAbove_49 (lv_at hl 3 rfl) ?_
        exact W.iret (v := nI u) hx hb hr (fun t ht hW => ⟨_, rfl, Or.inl ⟨u, by omega, ⟨hc34, hc45⟩, rfl⟩, ht⟩) (fun _ h => nomatch h) d_S_closestAbove_51
set_option maxHeartbeats 4000000 in
set_option maxRecDepth 100000 in
theorem c_S_rimsFrom (l : Launch) (dC : Nat → ClassId) (dI : Nat → Nat → Nat) (cJ cI : ClassId) (h1 n1 a1 e1 l1 b1 t1 : Nat) (nx : Nat → Int64) (ab : Nat → Int64) (en : Nat → Int32) (lf : Nat → Int32) (bl : Nat → Int32) (tr : Nat → Int32) (mt : Int64) (sl : Int32) (n r : Nat) (S : Int64) (hn : n ≤ 48) (hg : 0 < n → sd_G n r nx ab en lf bl mt) : Met l y_S_rimsFrom w_S_rimsFrom ({ frames := 3, cells := 0, slots := 0, locals := 68 }) (va_Pc [.ref h1, .long S] (cw_B (dC, dI) cJ cI (sd_ws cJ cI h1 n1 a1 e1 l1 b1 t1 nx ab en lf bl tr (nI n) (nI r) mt sl))) (vp_Sl (fun r9 => (n = 0 → r9 = 0) ∧ (0 < n → r9 = sp_sp n nx r S))) 0 0 (fun _ => False) := by
  refine Met.ofW (cc := b_S_rimsFrom) (maxL := 11) (ret := (some .long)) (by decide) rfl ?_
  intro p e s m args below meth c s₁ B hml hv9
  obtain ⟨rfl, hP, hK, hNw⟩ := hv9
  have hx := B.exec
  have hb := B.bytes
  have hr := B.returns
  have hts := atoms_spec (ws := w_S_rimsFrom) B.pre
  have hown : s.vm.findClass "FlowNest$Side" = some m.cls := findClass_of_methodNamed B.named
  have hlocks := B.notSynchronized
  have hP : va_P (dC, dI) vwCl (sd_ws cJ cI h1 n1 a1 e1 l1 b1 t1 nx ab en lf bl tr (nI n) (nI r) mt sl) s.heap := hP
  have hl := lv_entry ([.ref h1, .long S]) (n := 11) (Nat.le_of_ble_eq_true rfl)
  rw [lg_entry_eq]
  generalize (lg_sl ([.ref h1, .long S]) ++ List.replicate (11 - (lg_sl ([.ref h1, .long S])).length) Slot.unset).toArray = ls at hl ⊢
  have hl : lv_has ls 11 [(0, .ref h1), (1, .long S)] := hl
  refine lv_lconst (v := 0) hx hb d_S_rimsFrom_0 (by decide) ?_
  refine lv_lstore_n (lv' := [(3, .long 0), (0, .ref h1), (1, .long S)]) hx hb d_S_rimsFrom_1 rfl hl (by decide) rfl (fun ls hl => ?_)
  refine lv_lconst (v := 0) hx hb d_S_rimsFrom_2 (by decide) ?_
  refine lv_lstore (lv' := [(5, .long 0), (3, .long 0), (0, .ref h1), (1, .long S)]) hx hb d_S_rimsFrom_3 hl (by decide) rfl (fun ls hl => ?_)
  refine lv_lload_n hx hb d_S_rimsFrom_5 rfl (lv_at hl 3 rfl) ?_
  refine lv_aload_n hx hb d_S_rimsFrom_6 rfl (lv_at hl 2 rfl) ?_
  refine va_get (D := (dC, dI)) (ci := 1) (v := .long mt) (C := "FlowNest$Side") (T := T_S) (N := 10) hx hb hts nm_iS hown hK hP 0 rfl rfl 8 (by decide) (hts _ (List.mem_cons_of_mem _ nm_41)) (fun _ h9 => h9) rfl d_S_rimsFrom_7 ?_
  refine lv_land hx hb d_S_rimsFrom_10 ?_
  refine lv_lstore (lv' := [(7, .long (S &&& mt)), (5, .long 0), (3, .long 0), (0, .ref h1), (1, .long S)]) hx hb d_S_rimsFrom_11 hl (by decide) rfl (fun ls hl => ?_)
  refine lv_iconst (v := nI 0) hx hb d_S_rimsFrom_13 (by decide) ?_
  refine lv_istore (lv' := [(9, .int (nI 0)), (7, .long (S &&& mt)), (5, .long 0), (3, .long 0), (0, .ref h1), (1, .long S)]) hx hb d_S_rimsFrom_14 hl (by decide) rfl (fun ls hl => ?_)
  refine wl_loopR (σ := Int64 × Int64 × Int64 × Nat) 16 11 (fun (x : Int64 × Int64 × Int64 × Nat) => match x with | (found, done, opn, step) => [(0, .ref h1), (3, .long found), (5, .long done), (7, .long opn), (9, .int (nI step))]) (fun (x : Int64 × Int64 × Int64 × Nat) => match x with | (found, done, opn, step) => step ≤ n ∧ (n = 0 → found = 0) ∧ (0 < n → cl_W n nx r S found done opn step)) (fun (x : Int64 × Int64 × Int64 × Nat) => match x with | (found, done, opn, step) => n - step) ?_ (0, 0, (S &&& mt), 0) (⟨Nat.zero_le n, fun _ => rfl, fun q => cl_W0 (hg q).2.2.1⟩) (lv_sub hl [4, 3, 2, 1, 0] rfl)
  clear hl
  intro x hI ih ls hl
  obtain ⟨found, done, opn, step⟩ := x
  have hI : step ≤ n ∧ (n = 0 → found = 0) ∧ (0 < n → cl_W n nx r S found done opn step) := hI
  have hl : lv_has ls 11 [(0, .ref h1), (3, .long found), (5, .long done), (7, .long opn), (9, .int (nI step))] := hl
  refine lv_iload hx hb d_S_rimsFrom_16 (lv_at hl 4 rfl) ?_
  refine lv_aload_n hx hb d_S_rimsFrom_18 rfl (lv_at hl 0 rfl) ?_
  refine va_get (D := (dC, dI)) (ci := 1) (v := .int (nI n)) (C := "FlowNest$Side") (T := T_S) (N := 10) hx hb hts nm_iS hown hK hP 0 rfl rfl 6 (by decide) (hts _ (List.mem_cons_of_mem _ nm_37)) (fun _ h9 => h9) rfl d_S_rimsFrom_19 ?_
  refine wl_ige (tgt := 78) hx hb (by omega) (by omega) d_S_rimsFrom_22 (by decide) (fun hc22 => ?_) (fun hc22 => ?_)
  · refine lv_lload_n hx hb d_S_rimsFrom_78 rfl (lv_at hl 1 rfl) ?_
    exact W.lret (v := found) hx hb hr (fun t ht hW => ⟨_, rfl, ⟨hI.2.1, fun q => cl_We (hg q).2.1 (hg q).1 (hI.2.2 q) (Or.inr hc22)⟩, ht⟩) (fun _ h => nomatch h) d_S_rimsFrom_79
  · refine lv_lload hx hb d_S_rimsFrom_25 (lv_at hl 3 rfl) ?_
    refine lv_lconst (v := 0) hx hb d_S_rimsFrom_27 (by decide) ?_
    refine wl_lcmpeq (tgt := 78) hx hb d_S_rimsFrom_28 d_S_rimsFrom_29 (by decide) (fun hc28 => ?_) (fun hc28 => ?_)
    · refine lv_lload_n hx hb d_S_rimsFrom_78 rfl (lv_at hl 1 rfl) ?_
      exact W.lret (v := found) hx hb hr (fun t ht hW => ⟨_, rfl, ⟨hI.2.1, fun q => cl_We (hg q).2.1 (hg q).1 (hI.2.2 q) (Or.inl hc28)⟩, ht⟩) (fun _ h => nomatch h) d_S_rimsFrom_79
    · refine lv_lload hx hb d_S_rimsFrom_32 (lv_at hl 3 rfl) ?_
      refine lv_iconst (v := -1) hx hb d_S_rimsFrom_34 (by decide) ?_
      refine vp_callSi (va_Run.run (va_runSN (As := [.long opn, .int (-1)]) (rest := []) ⟨hx, hb, hml, hown, hts⟩ (c_F_following l opn (-1) 0 (by decide) (by decide)) ⟨va_cnB 2 hts (nm_gi nm_c_F_following) rfl rfl rfl (nw_S_67 hNw) (hts _ (List.mem_cons_of_mem _ nm_1)) (by decide +kernel) ⟨Nat.le_of_ble_eq_true rfl, Nat.le_of_ble_eq_true rfl⟩, (hts _ (List.mem_cons_of_mem _ nm_123)), trivial⟩ ⟨fun _ _ _ _ q => ⟨q.1, trivial⟩, fun U hU hW => ⟨rfl, trivial⟩⟩ rfl rfl hl.1 rfl (lv_room (Nat.le_of_ble_eq_true rfl)) d_S_rimsFrom_35 ⟨Nat.zero_le _, Nat.zero_le _⟩)) (fun r hr => ?_)
      subst hr
      have hg0 := hg (by omega)
      have hW := hI.2.2 (by omega)
      have hv64 : bs_fo opn 0 < 64 := by
        obtain ⟨i, h1, h2⟩ := bs_ne0 hc28
        rcases Nat.lt_or_ge (bs_fo opn 0) 64 with q | q
        · exact q
        · rw [bs_fo_no (Nat.zero_le i) (by omega)] at h2; cases h2
      have hvo := (bs_fo_in hv64).2
      generalize hve : bs_fo opn 0 = v at *
      refine lv_istore (lv' := [(10, .int (nI v)), (0, .ref h1), (3, .long found), (5, .long done), (7, .long opn), (9, .int (nI step))]) hx hb d_S_rimsFrom_38 hl (by decide) rfl (fun ls hl => ?_)
      refine lv_lload hx hb d_S_rimsFrom_40 (lv_at hl 3 rfl) ?_
      refine lv_iload hx hb d_S_rimsFrom_42 (lv_at hl 0 rfl) ?_
      refine vp_callSl (va_Run.run (va_runSN (As := [.int (nI v)]) (rest := [.long done]) ⟨hx, hb, hml, hown, hts⟩ (c_F_bit l v) ⟨va_cnB 1 hts (nm_gi nm_c_F_bit) rfl rfl rfl (nw_S_52 hNw) (hts _ (List.mem_cons_of_mem _ nm_1)) (by decide +kernel) ⟨Nat.le_of_ble_eq_true rfl, Nat.le_of_ble_eq_true rfl⟩, (hts _ (List.mem_cons_of_mem _ nm_119)), trivial⟩ ⟨fun _ _ _ _ q => ⟨q.1, trivial⟩, fun U hU hW => ⟨rfl, trivial⟩⟩ rfl rfl hl.1 rfl (lv_room (Nat.le_of_ble_eq_true rfl)) d_S_rimsFrom_44 ⟨Nat.zero_le _, Nat.zero_le _⟩)) (fun r hr => ?_)
      subst hr
      refine lv_lor hx hb d_S_rimsFrom_47 ?_
      refine lv_lstore (lv' := [(5, .long (done ||| (bs_b v))), (10, .int (nI v)), (0, .ref h1), (3, .long found), (7, .long opn), (9, .int (nI step))]) hx hb d_S_rimsFrom_48 hl (by decide) rfl (fun ls hl => ?_)
      refine lv_lload_n hx hb d_S_rimsFrom_50 rfl (lv_at hl 3 rfl) ?_
      refine lv_aload_n hx hb d_S_rimsFrom_51 rfl (lv_at hl 2 rfl) ?_
      refine lv_iload hx hb d_S_rimsFrom_52 (lv_at hl 1 rfl) ?_
      refine vp_callSl (va_Run.run (va_runV (C := "FlowNest$Side") (b := h1) (As := [.int (nI v)]) (rest := [.long found]) ⟨hx, hb, hml, hown, hts⟩ (c_S_rimOf l dC dI cJ cI h1 n1 a1 e1 l1 b1 t1 nx ab en lf bl tr (nI r) mt sl n v hn (by omega)) (cwV 1 hts (nm_gV nm_149 nm_150 nm_151 nm_2 nm_c_S_rimOf) rfl rfl rfl (by decide +kernel) ⟨Nat.le_of_ble_eq_true rfl, Nat.le_of_ble_eq_true rfl⟩) ⟨cw_blind, va_recv hK hP (ci := 1) rfl (q0 := 0) rfl, cw_pre hP hK hNw⟩ rfl rfl hl.1 rfl (lv_room (Nat.le_of_ble_eq_true rfl)) d_S_rimsFrom_54 ⟨Nat.zero_le _, Nat.zero_le _⟩)) (fun r1 hr2 => ?_)
      rw [cl_rim (by omega) hg0.2.1 hg0.1 hg0.2.2.2.1 (by omega)] at hr2
      subst hr2
      refine lv_lor hx hb d_S_rimsFrom_57 ?_
      refine lv_lstore_n (lv' := [(3, .long (found ||| (sp_fr n nx r v))), (5, .long (done ||| (bs_b v))), (10, .int (nI v)), (0, .ref h1), (7, .long opn), (9, .int (nI step))]) hx hb d_S_rimsFrom_58 rfl hl (by decide) rfl (fun ls hl => ?_)
      refine lv_lload hx hb d_S_rimsFrom_59 (lv_at hl 4 rfl) ?_
      refine lv_lload_n hx hb d_S_rimsFrom_61 rfl (lv_at hl 0 rfl) ?_
      refine lv_lor hx hb d_S_rimsFrom_62 ?_
      refine lv_lload hx hb d_S_rimsFrom_63 (lv_at hl 1 rfl) ?_
      refine lv_ldc2 (v := -1) hx hb hown (hts _ (List.mem_cons_of_mem _ nm_121)) d_S_rimsFrom_65 ?_
      refine lv_lxor hx hb d_S_rimsFrom_68 ?_
      refine lv_land hx hb d_S_rimsFrom_69 ?_
      refine lv_lstore (lv' := [(7, .long ((opn ||| (found ||| (sp_fr n nx r v))) &&& ((done ||| (bs_b v)) ^^^ (-1)))), (3, .long (found ||| (sp_fr n nx r v))), (5, .long (done ||| (bs_b v))), (10, .int (nI v)), (0, .ref h1), (9, .int (nI step))]) hx hb d_S_rimsFrom_70 hl (by decide) rfl (fun ls hl => ?_)
      refine lv_iinc (lv' := [(9, .int (nI (step + 1))), (7, .long ((opn ||| (found ||| (sp_fr n nx r v))) &&& ((done ||| (bs_b v)) ^^^ (-1)))), (3, .long (found ||| (sp_fr n nx r v))), (5, .long (done ||| (bs_b v))), (10, .int (nI v)), (0, .ref h1)]) (k := 5) (v := nI (step + 1)) hx hb d_S_rimsFrom_72 hl rfl (nI_1 step) (by decide) rfl (fun ls hl => ?_)
      refine lv_goto (tgt := 16) hx hb d_S_rimsFrom_75 (by decide) ?_
      exact ih ((found ||| sp_fr n nx r v), (done ||| bs_b v), ((opn ||| (found ||| sp_fr n nx r v)) &&& ((done ||| bs_b v) ^^^ (-1))), (step + 1)) (show step + 1 ≤ n ∧ (n = 0 → (found ||| sp_fr n nx r v) = 0) ∧ (0 < n → cl_W n nx r S (found ||| sp_fr n nx r v) (done ||| bs_b v) ((opn ||| (found ||| sp_fr n nx r v)) &&& ((done ||| bs_b v) ^^^ (-1))) (step + 1)) from ⟨by omega, fun q => by omega, fun _ => cl_Ws (by omega) hg0.2.1 hg0.1 hW hvo⟩) (show n - (step + 1) < n - step by omega) _ (lv_sub hl [5, 2, 3, 1, 0] rfl)
