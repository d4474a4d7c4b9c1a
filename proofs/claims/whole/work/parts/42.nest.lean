/-! contracts of Side.ringsGoBack and of Nest: what only reads (laid by wip/gen/nest.py) -/
set_option maxHeartbeats 4000000 in
set_option maxRecDepth 100000 in
theorem c_S_ringsGoBack (l : Launch) (dC : Nat → ClassId) (dI : Nat → Nat → Nat) (cJ cI : ClassId) (h1 n1 a1 e1 l1 b1 t1 : Nat) (nx : Nat → Int64) (ab : Nat → Int64) (en : Nat → Int32) (lf : Nat → Int32) (bl : Nat → Int32) (tr : Nat → Int32) (mt : Int64) (sl : Int32) (n r : Nat) (hn : n ≤ 48) (hg : 0 < n → sd_G n r nx ab en lf bl mt) (h0 : n = 0 → mt = 0) : Met l y_S_ringsGoBack w_S_ringsGoBack ({ frames := 1, cells := 0, slots := 0, locals := 21 }) (va_Pc [.ref h1] (cw_B (dC, dI) cJ cI (sd_ws cJ cI h1 n1 a1 e1 l1 b1 t1 nx ab en lf bl tr (nI n) (nI r) mt sl))) (vp_Si (fun r9 => (n = 0 → r9 = nI 1) ∧ (0 < n → r9 = bs_i (gf_d (sp_Red n nx r))))) 0 0 (fun _ => False) := by
  refine Met.ofW (cc := b_S_ringsGoBack) (maxL := 6) (ret := (some .boolean)) (by decide) rfl ?_
  intro p e s m args below meth c s₁ B hml hv9
  obtain ⟨rfl, hP, hK, hNw⟩ := hv9
  have hx := B.exec
  have hb := B.bytes
  have hr := B.returns
  have hts := atoms_spec (ws := w_S_ringsGoBack) B.pre
  have hown : s.vm.findClass "FlowNest$Side" = some m.cls := findClass_of_methodNamed B.named
  have hlocks := B.notSynchronized
  have hP : va_P (dC, dI) vwCl (sd_ws cJ cI h1 n1 a1 e1 l1 b1 t1 nx ab en lf bl tr (nI n) (nI r) mt sl) s.heap := hP
  have hl := lv_entry ([.ref h1]) (n := 6) (Nat.le_of_ble_eq_true rfl)
  rw [lg_entry_eq]
  generalize (lg_sl ([.ref h1]) ++ List.replicate (6 - (lg_sl ([.ref h1])).length) Slot.unset).toArray = ls at hl ⊢
  have hl : lv_has ls 6 [(0, .ref h1)] := hl
  refine lv_lconst (v := 0) hx hb d_S_ringsGoBack_0 (by decide) ?_
  refine lv_lstore_n (lv' := [(1, .long 0), (0, .ref h1)]) hx hb d_S_ringsGoBack_1 rfl hl (by decide) rfl (fun ls hl => ?_)
  refine lv_aload_n hx hb d_S_ringsGoBack_2 rfl (lv_at hl 1 rfl) ?_
  refine va_get (D := (dC, dI)) (ci := 1) (v := .long mt) (C := "FlowNest$Side") (T := T_S) (N := 10) hx hb hts nm_iS hown hK hP 0 rfl rfl 8 (by decide) (hts _ (List.mem_cons_of_mem _ nm_41)) (fun _ h9 => h9) rfl d_S_ringsGoBack_3 ?_
  refine vp_callSi (va_Run.run (va_runS (As := [.long mt]) (rest := []) ⟨hx, hb, hml, hown, hts⟩ (c_B_bitCount l mt) (va_cwS 1 hts (nm_gS nm_140 nm_127 nm_11 nm_c_B_bitCount) rfl rfl rfl (by decide +kernel) ⟨Nat.le_of_ble_eq_true rfl, Nat.le_of_ble_eq_true rfl⟩) ⟨fun _ _ _ _ q => ⟨q.1, trivial⟩, fun U hU hW => ⟨rfl, trivial⟩⟩ rfl rfl hl.1 rfl (lv_room (Nat.le_of_ble_eq_true rfl)) d_S_ringsGoBack_6 ⟨Nat.zero_le _, Nat.zero_le _⟩)) (fun r hr => ?_)
  subst hr
  refine lv_istore_n (lv' := [(3, .int (nI (bs_c mt))), (1, .long 0), (0, .ref h1)]) hx hb d_S_ringsGoBack_9 rfl hl (by decide) rfl (fun ls hl => ?_)
  refine lv_iconst (v := nI 0) hx hb d_S_ringsGoBack_10 (by decide) ?_
  refine lv_istore (lv' := [(4, .int (nI 0)), (3, .int (nI (bs_c mt))), (1, .long 0), (0, .ref h1)]) hx hb d_S_ringsGoBack_11 hl (by decide) rfl (fun ls hl => ?_)
  refine wl_loopR (σ := Int64 × Nat) 13 6 (fun (x : Int64 × Nat) => match x with | (done, k) => [(0, .ref h1), (1, .long done), (3, .int (nI (bs_c mt))), (4, .int (nI k))]) (fun (x : Int64 × Nat) => match x with | (done, k) => k ≤ bs_c mt ∧ (0 < n → cl_X n nx r bl lf done k)) (fun (x : Int64 × Nat) => match x with | (done, k) => bs_c mt - k) ?_ (0, 0) (⟨Nat.zero_le _, fun _ => cl_X0 n nx r bl lf⟩) (lv_sub hl [3, 2, 1, 0] rfl)
  clear hl
  intro x hI ih ls hl
  obtain ⟨done, k⟩ := x
  have hI : k ≤ bs_c mt ∧ (0 < n → cl_X n nx r bl lf done k) := hI
  have hl : lv_has ls 6 [(0, .ref h1), (1, .long done), (3, .int (nI (bs_c mt))), (4, .int (nI k))] := hl
  have hc64 := bs_c_le mt
  refine lv_iload hx hb d_S_ringsGoBack_13 (lv_at hl 3 rfl) ?_
  refine lv_iload_n hx hb d_S_ringsGoBack_15 rfl (lv_at hl 2 rfl) ?_
  refine wl_ige (tgt := 74) hx hb (by omega) (by omega) d_S_ringsGoBack_16 (by decide) (fun hc16 => ?_) (fun hc16 => ?_)
  · refine lv_iconst (v := nI 1) hx hb d_S_ringsGoBack_74 (by decide) ?_
    exact W.zret (v := nI 1) hx hb hr (by decide) (fun t ht hW => ⟨_, rfl, ⟨fun _ => rfl, fun q => (bs_i_t (fun z => gf_df.mp z (cl_Xe (hg q).2.2.2.2.1 (hg q).2.1 (hg q).1 (by rw [← show k = bs_c mt by omega]; exact hI.2 q)))).symm⟩, ht⟩) (fun _ h => nomatch h) d_S_ringsGoBack_75
  · have hn0 : 0 < n := Nat.pos_of_ne_zero (fun q => by rw [h0 q] at hc16; exact absurd hc16 (by rw [show bs_c 0 = 0 from ct_zero (fun i _ => bs_0 i)]; omega))
    have hg0 := hg hn0
    have hX := hI.2 hn0
    have hcn := hg0.2.2.2.2.1.1
    obtain ⟨u, hu1, hu2, hu3, hu4⟩ := hg0.2.2.2.2.1.2.1 k hc16
    refine lv_aload_n hx hb d_S_ringsGoBack_19 rfl (lv_at hl 0 rfl) ?_
    refine va_get (D := (dC, dI)) (ci := 1) (v := .ref b1) (C := "FlowNest$Side") (T := T_S) (N := 10) hx hb hts nm_iS hown hK hP 0 rfl rfl 4 (by decide) (hts _ (List.mem_cons_of_mem _ nm_35)) (fun _ h9 => h9) rfl d_S_ringsGoBack_20 ?_
    refine lv_iload hx hb d_S_ringsGoBack_23 (lv_at hl 3 rfl) ?_
    refine wl_iald (i := k) hx hb hK hP 5 1 rfl rfl (by omega) (by decide) d_S_ringsGoBack_25 ?_
    rw [show bl k = nI u from hu2]
    refine lv_istore (lv' := [(5, .int (nI u)), (0, .ref h1), (1, .long done), (3, .int (nI (bs_c mt))), (4, .int (nI k))]) hx hb d_S_ringsGoBack_26 hl (by decide) rfl (fun ls hl => ?_)
    refine lv_aload_n hx hb d_S_ringsGoBack_28 rfl (lv_at hl 1 rfl) ?_
    refine va_get (D := (dC, dI)) (ci := 1) (v := .ref n1) (C := "FlowNest$Side") (T := T_S) (N := 10) hx hb hts nm_iS hown hK hP 0 rfl rfl 0 (by decide) (hts _ (List.mem_cons_of_mem _ nm_26)) (fun _ h9 => h9) rfl d_S_ringsGoBack_29 ?_
    refine lv_iload hx hb d_S_ringsGoBack_32 (lv_at hl 0 rfl) ?_
    refine wl_lald (i := u) hx hb hK hP 1 0 rfl rfl (by omega) (by decide) d_S_ringsGoBack_34 ?_
    refine lv_aload_n hx hb d_S_ringsGoBack_35 rfl (lv_at hl 1 rfl) ?_
    refine va_get (D := (dC, dI)) (ci := 1) (v := .ref a1) (C := "FlowNest$Side") (T := T_S) (N := 10) hx hb hts nm_iS hown hK hP 0 rfl rfl 1 (by decide) (hts _ (List.mem_cons_of_mem _ nm_28)) (fun _ h9 => h9) rfl d_S_ringsGoBack_36 ?_
    refine lv_iload hx hb d_S_ringsGoBack_39 (lv_at hl 0 rfl) ?_
    refine wl_lald (i := u) hx hb hK hP 2 0 rfl rfl (by omega) (by decide) d_S_ringsGoBack_41 ?_
    refine lv_ldc2 (v := -1) hx hb hown (hts _ (List.mem_cons_of_mem _ nm_121)) d_S_ringsGoBack_42 ?_
    refine lv_lxor hx hb d_S_ringsGoBack_45 ?_
    refine lv_land hx hb d_S_ringsGoBack_46 ?_
    refine lv_lload_n hx hb d_S_ringsGoBack_47 rfl (lv_at hl 2 rfl) ?_
    refine lv_ldc2 (v := -1) hx hb hown (hts _ (List.mem_cons_of_mem _ nm_121)) d_S_ringsGoBack_48 ?_
    refine lv_lxor hx hb d_S_ringsGoBack_51 ?_
    refine lv_land hx hb d_S_ringsGoBack_52 ?_
    refine lv_lconst (v := 0) hx hb d_S_ringsGoBack_53 (by decide) ?_
    refine wl_lcmpeq (tgt := 60) hx hb d_S_ringsGoBack_54 d_S_ringsGoBack_55 (by decide) (fun hc54 => ?_) (fun hc54 => ?_)
    · refine lv_lload_n hx hb d_S_ringsGoBack_60 rfl (lv_at hl 2 rfl) ?_
      refine lv_iload hx hb d_S_ringsGoBack_61 (lv_at hl 0 rfl) ?_
      refine vp_callSl (va_Run.run (va_runSN (As := [.int (nI u)]) (rest := [.long done]) ⟨hx, hb, hml, hown, hts⟩ (c_F_bit l u) ⟨va_cnB 1 hts (nm_gi nm_c_F_bit) rfl rfl rfl (nw_S_52 hNw) (hts _ (List.mem_cons_of_mem _ nm_1)) (by decide +kernel) ⟨Nat.le_of_ble_eq_true rfl, Nat.le_of_ble_eq_true rfl⟩, (hts _ (List.mem_cons_of_mem _ nm_119)), trivial⟩ ⟨fun _ _ _ _ q => ⟨q.1, trivial⟩, fun U hU hW => ⟨rfl, trivial⟩⟩ rfl rfl hl.1 rfl (lv_room (Nat.le_of_ble_eq_true rfl)) d_S_ringsGoBack_63 ⟨Nat.zero_le _, Nat.zero_le _⟩)) (fun r hr => ?_)
      subst hr
      refine lv_lor hx hb d_S_ringsGoBack_66 ?_
      refine lv_lstore_n (lv' := [(1, .long (done ||| (bs_b u))), (5, .int (nI u)), (0, .ref h1), (3, .int (nI (bs_c mt))), (4, .int (nI k))]) hx hb d_S_ringsGoBack_67 rfl hl (by decide) rfl (fun ls hl => ?_)
      refine lv_iinc (lv' := [(4, .int (nI (k + 1))), (1, .long (done ||| (bs_b u))), (5, .int (nI u)), (0, .ref h1), (3, .int (nI (bs_c mt)))]) (k := 4) (v := nI (k + 1)) hx hb d_S_ringsGoBack_68 hl rfl (nI_1 k) (by decide) rfl (fun ls hl => ?_)
      refine lv_goto (tgt := 13) hx hb d_S_ringsGoBack_71 (by decide) ?_
      exact ih ((done ||| bs_b u), (k + 1)) (show k + 1 ≤ bs_c mt ∧ (0 < n → cl_X n nx r bl lf (done ||| bs_b u) (k + 1)) from ⟨by omega, fun _ => cl_Xs (by omega) hg0.2.1 hg0.2.2.2.2.1 hX hc16 hu2 hu1 hg0.2.2.2.1 hc54⟩) (show bs_c mt - (k + 1) < bs_c mt - k by omega) _ (lv_sub hl [3, 1, 4, 0] rfl)
    · refine lv_iconst (v := nI 0) hx hb d_S_ringsGoBack_58 (by decide) ?_
      obtain ⟨b0, hlf, -⟩ := hg0.2.2.2.2.2
      exact W.zret (v := nI 0) hx hb hr (by decide) (fun t ht hW => ⟨_, rfl, ⟨fun q => by omega, fun _ => (bs_i_f (gf_df.mpr (cl_Xf (by omega) hg0.2.1 hg0.1 hlf hg0.2.2.2.2.1 hX hc16 hu2 hu1 hg0.2.2.2.1 hc54))).symm⟩, ht⟩) (fun _ h => nomatch h) d_S_ringsGoBack_59
set_option maxHeartbeats 4000000 in
set_option maxRecDepth 100000 in
theorem c_N_flood (l : Launch) (dC : Nat → ClassId) (dI : Nat → Nat → Nat) (cJ cI : ClassId) (g1 : Nat) (gs : Nat → Int64) (n : Nat) (start within : Int64) (hn : n ≤ 48) (hw : ∀ i, bs_t within i = true → i < n) : Met l y_N_flood w_N_flood ({ frames := 2, cells := 0, slots := 0, locals := 45 }) (va_Pc [.long start, .long within, .ref g1, .int (nI n)] (cw_B (dC, dI) cJ cI (fl_ws cJ cI g1 gs))) (vp_Sl (fun r => ∀ i, bs_t r i = true ↔ ∃ u, bs_t start u = true ∧ bs_t within u = true ∧ gf_R (fun a b => gf_E n gs a b ∧ bs_t within b = true) u i)) 0 0 (fun _ => False) := by
  refine Met.ofW (cc := b_N_flood) (maxL := 14) (ret := (some .long)) (by decide) rfl ?_
  intro p e s m args below meth c s₁ B hml hv9
  obtain ⟨rfl, hP, hK, hNw⟩ := hv9
  have hx := B.exec
  have hb := B.bytes
  have hr := B.returns
  have hts := atoms_spec (ws := w_N_flood) B.pre
  have hown : s.vm.findClass "FlowNest$Nest" = some m.cls := findClass_of_methodNamed B.named
  have hlocks := B.notSynchronized
  have hP : va_P (dC, dI) vwCl (fl_ws cJ cI g1 gs) s.heap := hP
  have hl := lv_entry ([.long start, .long within, .ref g1, .int (nI n)]) (n := 14) (Nat.le_of_ble_eq_true rfl)
  rw [lg_entry_eq]
  generalize (lg_sl ([.long start, .long within, .ref g1, .int (nI n)]) ++ List.replicate (14 - (lg_sl ([.long start, .long within, .ref g1, .int (nI n)])).length) Slot.unset).toArray = ls at hl ⊢
  have hl : lv_has ls 14 [(0, .long start), (2, .long within), (4, .ref g1), (5, .int (nI n))] := hl
  refine lv_lload_n hx hb d_N_flood_0 rfl (lv_at hl 0 rfl) ?_
  refine lv_lload_n hx hb d_N_flood_1 rfl (lv_at hl 1 rfl) ?_
  refine lv_land hx hb d_N_flood_2 ?_
  refine lv_lstore (lv' := [(6, .long (start &&& within)), (0, .long start), (2, .long within), (4, .ref g1), (5, .int (nI n))]) hx hb d_N_flood_3 hl (by decide) rfl (fun ls hl => ?_)
  refine lv_lload hx hb d_N_flood_5 (lv_at hl 0 rfl) ?_
  refine lv_lstore (lv' := [(8, .long (start &&& within)), (6, .long (start &&& within)), (0, .long start), (2, .long within), (4, .ref g1), (5, .int (nI n))]) hx hb d_N_flood_7 hl (by decide) rfl (fun ls hl => ?_)
  refine lv_iconst (v := nI 0) hx hb d_N_flood_9 (by decide) ?_
  refine lv_istore (lv' := [(10, .int (nI 0)), (8, .long (start &&& within)), (6, .long (start &&& within)), (0, .long start), (2, .long within), (4, .ref g1), (5, .int (nI n))]) hx hb d_N_flood_10 hl (by decide) rfl (fun ls hl => ?_)
  refine wl_loopR (σ := Int64 × Int64 × Nat) 12 14 (fun (x : Int64 × Int64 × Nat) => match x with | (found, opn, step) => [(2, .long within), (4, .ref g1), (5, .int (nI n)), (6, .long found), (8, .long opn), (10, .int (nI step))]) (fun (x : Int64 × Int64 × Nat) => match x with | (found, opn, step) => step ≤ n ∧ cl_V n gs start within found opn step) (fun (x : Int64 × Int64 × Nat) => match x with | (found, opn, step) => n - step) ?_ ((start &&& within), (start &&& within), 0) (⟨Nat.zero_le n, cl_V0 n gs start within⟩) (lv_sub hl [4, 5, 6, 2, 1, 0] rfl)
  clear hl
  intro x hI ih ls hl
  obtain ⟨found, opn, step⟩ := x
  have hI : step ≤ n ∧ cl_V n gs start within found opn step := hI
  have hl : lv_has ls 14 [(2, .long within), (4, .ref g1), (5, .int (nI n)), (6, .long found), (8, .long opn), (10, .int (nI step))] := hl
  refine lv_iload hx hb d_N_flood_12 (lv_at hl 5 rfl) ?_
  refine lv_iload hx hb d_N_flood_14 (lv_at hl 2 rfl) ?_
  refine wl_ige (tgt := 80) hx hb (by omega) (by omega) d_N_flood_16 (by decide) (fun hc16 => ?_) (fun hc16 => ?_)
  · refine lv_lload hx hb d_N_flood_80 (lv_at hl 3 rfl) ?_
    exact W.lret (v := found) hx hb hr (fun t ht hW => ⟨_, rfl, cl_Ve hw hI.2 (Or.inr hc16), ht⟩) (fun _ h => nomatch h) d_N_flood_82
  · refine lv_lload hx hb d_N_flood_19 (lv_at hl 4 rfl) ?_
    refine lv_lconst (v := 0) hx hb d_N_flood_21 (by decide) ?_
    refine wl_lcmpeq (tgt := 80) hx hb d_N_flood_22 d_N_flood_23 (by decide) (fun hc22 => ?_) (fun hc22 => ?_)
    · refine lv_lload hx hb d_N_flood_80 (lv_at hl 3 rfl) ?_
      exact W.lret (v := found) hx hb hr (fun t ht hW => ⟨_, rfl, cl_Ve hw hI.2 (Or.inl hc22), ht⟩) (fun _ h => nomatch h) d_N_flood_82
    · refine lv_lload hx hb d_N_flood_26 (lv_at hl 4 rfl) ?_
      refine lv_iconst (v := -1) hx hb d_N_flood_28 (by decide) ?_
      refine vp_callSi (va_Run.run (va_runSN (As := [.long opn, .int (-1)]) (rest := []) ⟨hx, hb, hml, hown, hts⟩ (c_F_following l opn (-1) 0 (by decide) (by decide)) ⟨va_cnB 2 hts (nm_gi nm_c_F_following) rfl rfl rfl (nw_N_29 hNw) (hts _ (List.mem_cons_of_mem _ nm_1)) (by decide +kernel) ⟨Nat.le_of_ble_eq_true rfl, Nat.le_of_ble_eq_true rfl⟩, (hts _ (List.mem_cons_of_mem _ nm_123)), trivial⟩ ⟨fun _ _ _ _ q => ⟨q.1, trivial⟩, fun U hU hW => ⟨rfl, trivial⟩⟩ rfl rfl hl.1 rfl (lv_room (Nat.le_of_ble_eq_true rfl)) d_N_flood_29 ⟨Nat.zero_le _, Nat.zero_le _⟩)) (fun r hr => ?_)
      subst hr
      have hv64 : bs_fo opn 0 < 64 := by
        obtain ⟨i, h1, h2⟩ := bs_ne0 hc22
        rcases Nat.lt_or_ge (bs_fo opn 0) 64 with q | q
        · exact q
        · rw [bs_fo_no (Nat.zero_le i) (by omega)] at h2; cases h2
      have hvo := (bs_fo_in hv64).2
      generalize hve : bs_fo opn 0 = v at *
      have hvn : v < n := hw v (hI.2.1 v (hI.2.2.2.2.1 v hvo)).1
      refine lv_istore (lv' := [(11, .int (nI v)), (2, .long within), (4, .ref g1), (5, .int (nI n)), (6, .long found), (8, .long opn), (10, .int (nI step))]) hx hb d_N_flood_32 hl (by decide) rfl (fun ls hl => ?_)
      refine lv_aload hx hb d_N_flood_34 (lv_at hl 2 rfl) ?_
      refine lv_iload hx hb d_N_flood_36 (lv_at hl 0 rfl) ?_
      refine wl_lald (i := v) hx hb hK hP 0 0 rfl rfl (by omega) (by decide) d_N_flood_38 ?_
      refine lv_lload_n hx hb d_N_flood_39 rfl (lv_at hl 1 rfl) ?_
      refine lv_land hx hb d_N_flood_40 ?_
      refine lv_lload hx hb d_N_flood_41 (lv_at hl 4 rfl) ?_
      refine lv_ldc2 (v := -1) hx hb hown (hts _ (List.mem_cons_of_mem _ nm_171)) d_N_flood_43 ?_
      refine lv_lxor hx hb d_N_flood_46 ?_
      refine lv_land hx hb d_N_flood_47 ?_
      refine lv_lstore (lv' := [(12, .long (((gs v) &&& within) &&& (found ^^^ (-1)))), (11, .int (nI v)), (2, .long within), (4, .ref g1), (5, .int (nI n)), (6, .long found), (8, .long opn), (10, .int (nI step))]) hx hb d_N_flood_48 hl (by decide) rfl (fun ls hl => ?_)
      refine lv_lload hx hb d_N_flood_50 (lv_at hl 5 rfl) ?_
      refine lv_lload hx hb d_N_flood_52 (lv_at hl 0 rfl) ?_
      refine lv_lor hx hb d_N_flood_54 ?_
      refine lv_lstore (lv' := [(6, .long (found ||| (((gs v) &&& within) &&& (found ^^^ (-1))))), (12, .long (((gs v) &&& within) &&& (found ^^^ (-1)))), (11, .int (nI v)), (2, .long within), (4, .ref g1), (5, .int (nI n)), (8, .long opn), (10, .int (nI step))]) hx hb d_N_flood_55 hl (by decide) rfl (fun ls hl => ?_)
      refine lv_lload hx hb d_N_flood_57 (lv_at hl 6 rfl) ?_
      refine lv_iload hx hb d_N_flood_59 (lv_at hl 2 rfl) ?_
      refine vp_callSl (va_Run.run (va_runSN (As := [.int (nI v)]) (rest := [.long opn]) ⟨hx, hb, hml, hown, hts⟩ (c_F_bit l v) ⟨va_cnB 1 hts (nm_gi nm_c_F_bit) rfl rfl rfl (nw_N_40 hNw) (hts _ (List.mem_cons_of_mem _ nm_1)) (by decide +kernel) ⟨Nat.le_of_ble_eq_true rfl, Nat.le_of_ble_eq_true rfl⟩, (hts _ (List.mem_cons_of_mem _ nm_119)), trivial⟩ ⟨fun _ _ _ _ q => ⟨q.1, trivial⟩, fun U hU hW => ⟨rfl, trivial⟩⟩ rfl rfl hl.1 rfl (lv_room (Nat.le_of_ble_eq_true rfl)) d_N_flood_61 ⟨Nat.zero_le _, Nat.zero_le _⟩)) (fun r hr => ?_)
      subst hr
      refine lv_ldc2 (v := -1) hx hb hown (hts _ (List.mem_cons_of_mem _ nm_171)) d_N_flood_64 ?_
      refine lv_lxor hx hb d_N_flood_67 ?_
      refine lv_land hx hb d_N_flood_68 ?_
      refine lv_lload hx hb d_N_flood_69 (lv_at hl 1 rfl) ?_
      refine lv_lor hx hb d_N_flood_71 ?_
      refine lv_lstore (lv' := [(8, .long ((opn &&& ((bs_b v) ^^^ (-1))) ||| (((gs v) &&& within) &&& (found ^^^ (-1))))), (6, .long (found ||| (((gs v) &&& within) &&& (found ^^^ (-1))))), (12, .long (((gs v) &&& within) &&& (found ^^^ (-1)))), (11, .int (nI v)), (2, .long within), (4, .ref g1), (5, .int (nI n)), (10, .int (nI step))]) hx hb d_N_flood_72 hl (by decide) rfl (fun ls hl => ?_)
      refine lv_iinc (lv' := [(10, .int (nI (step + 1))), (8, .long ((opn &&& ((bs_b v) ^^^ (-1))) ||| (((gs v) &&& within) &&& (found ^^^ (-1))))), (6, .long (found ||| (((gs v) &&& within) &&& (found ^^^ (-1))))), (12, .long (((gs v) &&& within) &&& (found ^^^ (-1)))), (11, .int (nI v)), (2, .long within), (4, .ref g1), (5, .int (nI n))]) (k := 7) (v := nI (step + 1)) hx hb d_N_flood_74 hl rfl (nI_1 step) (by decide) rfl (fun ls hl => ?_)
      refine lv_goto (tgt := 12) hx hb d_N_flood_77 (by decide) ?_
      exact ih ((found ||| ((gs v &&& within) &&& (found ^^^ (-1)))), ((opn &&& (bs_b v ^^^ (-1))) ||| ((gs v &&& within) &&& (found ^^^ (-1)))), (step + 1)) (show step + 1 ≤ n ∧ cl_V n gs start within (found ||| ((gs v &&& within) &&& (found ^^^ (-1)))) ((opn &&& (bs_b v ^^^ (-1))) ||| ((gs v &&& within) &&& (found ^^^ (-1)))) (step + 1) from ⟨by omega, cl_Vs hw hI.2 hvo⟩) (show n - (step + 1) < n - step by omega) _ (lv_sub hl [5, 6, 7, 2, 1, 0] rfl)
set_option maxHeartbeats 4000000 in
set_option maxRecDepth 100000 in
theorem c_N_bodyOf (l : Launch) (dC : Nat → ClassId) (dI : Nat → Nat → Nat) (cJ cI : ClassId) (h1 n1 a1 e1 l1 b1 t1 g1 : Nat) (nx : Nat → Int64) (ab : Nat → Int64) (en : Nat → Int32) (lf : Nat → Int32) (bl : Nat → Int32) (tr : Nat → Int32) (mt : Int64) (sl : Int32) (gs : Nat → Int64) (n r v : Nat) (hn : n ≤ 48) (hv : v < n) (hg : sd_G n r nx ab en lf bl mt) (hgs : ∀ v, v < n → gs v = gf_T n nx v) : Met l y_N_bodyOf w_N_bodyOf ({ frames := 3, cells := 0, slots := 0, locals := 78 }) (va_Pc [.int (nI v), .ref h1, .ref g1] (cw_B (dC, dI) cJ cI (bo_ws cJ cI h1 n1 a1 e1 l1 b1 t1 g1 nx ab en lf bl tr (nI n) (nI r) mt sl gs))) (vp_Sl (fun r9 => r9 = sp_lp n nx r v)) 0 0 (fun _ => False) := by
  refine Met.ofW (cc := b_N_bodyOf) (maxL := 9) (ret := (some .long)) (by decide) rfl ?_
  intro p e s m args below meth c s₁ B hml hv9
  obtain ⟨rfl, hP, hK, hNw⟩ := hv9
  have hx := B.exec
  have hb := B.bytes
  have hr := B.returns
  have hts := atoms_spec (ws := w_N_bodyOf) B.pre
  have hown : s.vm.findClass "FlowNest$Nest" = some m.cls := findClass_of_methodNamed B.named
  have hlocks := B.notSynchronized
  have hP : va_P (dC, dI) vwCl (bo_ws cJ cI h1 n1 a1 e1 l1 b1 t1 g1 nx ab en lf bl tr (nI n) (nI r) mt sl gs) s.heap := hP
  have hl := lv_entry ([.int (nI v), .ref h1, .ref g1]) (n := 9) (Nat.le_of_ble_eq_true rfl)
  rw [lg_entry_eq]
  generalize (lg_sl ([.int (nI v), .ref h1, .ref g1]) ++ List.replicate (9 - (lg_sl ([.int (nI v), .ref h1, .ref g1])).length) Slot.unset).toArray = ls at hl ⊢
  have hl : lv_has ls 9 [(0, .int (nI v)), (1, .ref h1), (2, .ref g1)] := hl
  refine lv_lconst (v := 0) hx hb d_N_bodyOf_0 (by decide) ?_
  refine lv_lstore_n (lv' := [(3, .long 0), (0, .int (nI v)), (1, .ref h1), (2, .ref g1)]) hx hb d_N_bodyOf_1 rfl hl (by decide) rfl (fun ls hl => ?_)
  refine lv_aload_n hx hb d_N_bodyOf_2 rfl (lv_at hl 3 rfl) ?_
  refine lv_iload_n hx hb d_N_bodyOf_3 rfl (lv_at hl 1 rfl) ?_
  refine wl_lald (i := v) hx hb hK hP 7 0 rfl rfl (by omega) (by decide) d_N_bodyOf_4 ?_
  refine lv_lstore (lv' := [(5, .long (gs v)), (3, .long 0), (0, .int (nI v)), (1, .ref h1), (2, .ref g1)]) hx hb d_N_bodyOf_5 hl (by decide) rfl (fun ls hl => ?_)
  refine lv_lload hx hb d_N_bodyOf_7 (lv_at hl 0 rfl) ?_
  refine lv_iconst (v := -1) hx hb d_N_bodyOf_9 (by decide) ?_
  refine vp_callSi (va_Run.run (va_runSN (As := [.long (gs v), .int (-1)]) (rest := []) ⟨hx, hb, hml, hown, hts⟩ (c_F_following l (gs v) (-1) 0 (by decide) (by decide)) ⟨va_cnB 2 hts (nm_gi nm_c_F_following) rfl rfl rfl (nw_N_29 hNw) (hts _ (List.mem_cons_of_mem _ nm_1)) (by decide +kernel) ⟨Nat.le_of_ble_eq_true rfl, Nat.le_of_ble_eq_true rfl⟩, (hts _ (List.mem_cons_of_mem _ nm_123)), trivial⟩ ⟨fun _ _ _ _ q => ⟨q.1, trivial⟩, fun U hU hW => ⟨rfl, trivial⟩⟩ rfl rfl hl.1 rfl (lv_room (Nat.le_of_ble_eq_true rfl)) d_N_bodyOf_10 ⟨Nat.zero_le _, Nat.zero_le _⟩)) (fun r hr => ?_)
  subst hr
  refine lv_istore (lv' := [(7, .int (nI (bs_fo (gs v) 0))), (5, .long (gs v)), (3, .long 0), (0, .int (nI v)), (1, .ref h1), (2, .ref g1)]) hx hb d_N_bodyOf_13 hl (by decide) rfl (fun ls hl => ?_)
  refine lv_iconst (v := nI 0) hx hb d_N_bodyOf_15 (by decide) ?_
  refine lv_istore (lv' := [(8, .int (nI 0)), (7, .int (nI (bs_fo (gs v) 0))), (5, .long (gs v)), (3, .long 0), (0, .int (nI v)), (1, .ref h1), (2, .ref g1)]) hx hb d_N_bodyOf_16 hl (by decide) rfl (fun ls hl => ?_)
  refine wl_loopR (σ := Int64 × Nat × Nat) 18 9 (fun (x : Int64 × Nat × Nat) => match x with | (back, w, step) => [(0, .int (nI v)), (1, .ref h1), (2, .ref g1), (3, .long back), (5, .long (gs v)), (7, .int (nI w)), (8, .int (nI step))]) (fun (x : Int64 × Nat × Nat) => match x with | (back, w, step) => step ≤ n ∧ cl_K n (gs v) ab v back w step) (fun (x : Int64 × Nat × Nat) => match x with | (back, w, step) => 64 - w) ?_ (0, (bs_fo (gs v) 0), 0) (⟨Nat.zero_le n, cl_K0 n (gs v) ab v⟩) (lv_sub hl [4, 5, 6, 3, 2, 1, 0] rfl)
  clear hl
  intro x hI ih ls hl
  obtain ⟨back, w, step⟩ := x
  have hI : step ≤ n ∧ cl_K n (gs v) ab v back w step := hI
  have hl : lv_has ls 9 [(0, .int (nI v)), (1, .ref h1), (2, .ref g1), (3, .long back), (5, .long (gs v)), (7, .int (nI w)), (8, .int (nI step))] := hl
  have hw64 := hI.2.2.1
  refine lv_iload hx hb d_N_bodyOf_18 (lv_at hl 6 rfl) ?_
  refine lv_aload_n hx hb d_N_bodyOf_20 rfl (lv_at hl 1 rfl) ?_
  refine va_get (D := (dC, dI)) (ci := 1) (v := .int (nI n)) (C := "FlowNest$Side") (T := T_S) (N := 10) hx hb hts nm_iS hown hK hP 0 rfl rfl 6 (by decide) (hts _ (List.mem_cons_of_mem _ nm_38)) (fun _ h9 => h9) rfl d_N_bodyOf_21 ?_
  refine wl_ige (tgt := 73) hx hb (by omega) (by omega) d_N_bodyOf_24 (by decide) (fun hc24 => ?_) (fun hc24 => ?_)
  · have hbk := cl_Ke (by omega) hg.2.1 hv hg.2.2.2.1 (by rw [← hgs v hv]; exact hI.2) (show n ≤ w by have := hI.2.1; omega)
    have hwn : ∀ i, bs_t (mt &&& (bs_b v ^^^ (-1))) i = true → i < n := fun i hi => gf_lt hg.2.1 hg.1 ((hg.2.2.1 i).mp (by rw [bs_and, Bool.and_eq_true] at hi; exact hi.1))
    refine lv_lload_n hx hb d_N_bodyOf_73 rfl (lv_at hl 3 rfl) ?_
    refine lv_lconst (v := 0) hx hb d_N_bodyOf_74 (by decide) ?_
    refine wl_lcmpne (tgt := 81) hx hb d_N_bodyOf_75 d_N_bodyOf_76 (by decide) (fun hc75 => ?_) (fun hc75 => ?_)
    · refine lv_iload_n hx hb d_N_bodyOf_81 rfl (lv_at hl 0 rfl) ?_
      refine vp_callSl (va_Run.run (va_runSN (As := [.int (nI v)]) (rest := []) ⟨hx, hb, hml, hown, hts⟩ (c_F_bit l v) ⟨va_cnB 1 hts (nm_gi nm_c_F_bit) rfl rfl rfl (nw_N_40 hNw) (hts _ (List.mem_cons_of_mem _ nm_1)) (by decide +kernel) ⟨Nat.le_of_ble_eq_true rfl, Nat.le_of_ble_eq_true rfl⟩, (hts _ (List.mem_cons_of_mem _ nm_119)), trivial⟩ ⟨fun _ _ _ _ q => ⟨q.1, trivial⟩, fun U hU hW => ⟨rfl, trivial⟩⟩ rfl rfl hl.1 rfl (lv_room (Nat.le_of_ble_eq_true rfl)) d_N_bodyOf_82 ⟨Nat.zero_le _, Nat.zero_le _⟩)) (fun r hr => ?_)
      subst hr
      refine lv_lload_n hx hb d_N_bodyOf_85 rfl (lv_at hl 3 rfl) ?_
      refine lv_aload_n hx hb d_N_bodyOf_86 rfl (lv_at hl 1 rfl) ?_
      refine va_get (D := (dC, dI)) (ci := 1) (v := .long mt) (C := "FlowNest$Side") (T := T_S) (N := 10) hx hb hts nm_iS hown hK hP 0 rfl rfl 8 (by decide) (hts _ (List.mem_cons_of_mem _ nm_42)) (fun _ h9 => h9) rfl d_N_bodyOf_87 ?_
      refine lv_iload_n hx hb d_N_bodyOf_90 rfl (lv_at hl 0 rfl) ?_
      refine vp_callSl (va_Run.run (va_runSN (As := [.int (nI v)]) (rest := [.long mt, .long back, .long (bs_b v)]) ⟨hx, hb, hml, hown, hts⟩ (c_F_bit l v) ⟨va_cnB 1 hts (nm_gi nm_c_F_bit) rfl rfl rfl (nw_N_40 hNw) (hts _ (List.mem_cons_of_mem _ nm_1)) (by decide +kernel) ⟨Nat.le_of_ble_eq_true rfl, Nat.le_of_ble_eq_true rfl⟩, (hts _ (List.mem_cons_of_mem _ nm_119)), trivial⟩ ⟨fun _ _ _ _ q => ⟨q.1, trivial⟩, fun U hU hW => ⟨rfl, trivial⟩⟩ rfl rfl hl.1 rfl (lv_room (Nat.le_of_ble_eq_true rfl)) d_N_bodyOf_91 ⟨Nat.zero_le _, Nat.zero_le _⟩)) (fun r hr => ?_)
      subst hr
      refine lv_ldc2 (v := -1) hx hb hown (hts _ (List.mem_cons_of_mem _ nm_171)) d_N_bodyOf_94 ?_
      refine lv_lxor hx hb d_N_bodyOf_97 ?_
      refine lv_land hx hb d_N_bodyOf_98 ?_
      refine lv_aload_n hx hb d_N_bodyOf_99 rfl (lv_at hl 2 rfl) ?_
      refine lv_aload_n hx hb d_N_bodyOf_100 rfl (lv_at hl 1 rfl) ?_
      refine va_get (D := (dC, dI)) (ci := 1) (v := .int (nI n)) (C := "FlowNest$Side") (T := T_S) (N := 10) hx hb hts nm_iS hown hK hP 0 rfl rfl 6 (by decide) (hts _ (List.mem_cons_of_mem _ nm_38)) (fun _ h9 => h9) rfl d_N_bodyOf_101 ?_
      refine vp_callSl (va_Run.run (va_runS (As := [.long back, .long (mt &&& ((bs_b v) ^^^ (-1))), .ref g1, .int (nI n)]) (rest := [.long (bs_b v)]) ⟨hx, hb, hml, hown, hts⟩ (c_N_flood l dC dI cJ cI g1 gs n back (mt &&& ((bs_b v) ^^^ (-1))) hn hwn) (va_cwS 4 hts (nm_gS nm_172 nm_173 nm_3 nm_c_N_flood) rfl rfl rfl (by decide +kernel) ⟨Nat.le_of_ble_eq_true rfl, Nat.le_of_ble_eq_true rfl⟩) ⟨cw_blind, cw_pre (hP.sub (ws' := fl_ws cJ cI g1 gs) [7] rfl) hK hNw⟩ rfl rfl hl.1 rfl (lv_room (Nat.le_of_ble_eq_true rfl)) d_N_bodyOf_104 ⟨Nat.zero_le _, Nat.zero_le _⟩)) (fun r1 hr2 => ?_)
      refine lv_lor hx hb d_N_bodyOf_107 ?_
      have hfl : ∀ i, bs_t r1 i = true ↔ ∃ u, bs_t back u = true ∧ bs_t (mt &&& (bs_b v ^^^ (-1))) u = true ∧ gf_R (fun a b => gf_E n (gf_T n nx) a b ∧ bs_t (mt &&& (bs_b v ^^^ (-1))) b = true) u i := fun i => (hr2 i).trans ⟨fun ⟨u, q1, q2, q3⟩ => ⟨u, q1, q2, gf_mono (fun a b z => ⟨(gf_E_congr hgs a b).mp z.1, z.2⟩) q3⟩, fun ⟨u, q1, q2, q3⟩ => ⟨u, q1, q2, gf_mono (fun a b z => ⟨(gf_E_congr hgs a b).mpr z.1, z.2⟩) q3⟩⟩
      exact W.lret (v := (bs_b v) ||| r1) hx hb hr (fun t ht hW => ⟨_, rfl, cl_body (by omega) hg.2.1 hv hg.2.2.1 hbk hfl hc75, ht⟩) (fun _ h => nomatch h) d_N_bodyOf_108
    · refine lv_lconst (v := 0) hx hb d_N_bodyOf_79 (by decide) ?_
      exact W.lret (v := 0) hx hb hr (fun t ht hW => ⟨_, rfl, cl_body0 hbk hc75, ht⟩) (fun _ h => nomatch h) d_N_bodyOf_80
  · refine lv_iload hx hb d_N_bodyOf_27 (lv_at hl 5 rfl) ?_
    refine lv_aload_n hx hb d_N_bodyOf_29 rfl (lv_at hl 1 rfl) ?_
    refine va_get (D := (dC, dI)) (ci := 1) (v := .int (nI n)) (C := "FlowNest$Side") (T := T_S) (N := 10) hx hb hts nm_iS hown hK hP 0 rfl rfl 6 (by decide) (hts _ (List.mem_cons_of_mem _ nm_38)) (fun _ h9 => h9) rfl d_N_bodyOf_30 ?_
    refine wl_ige (tgt := 73) hx hb (by omega) (by omega) d_N_bodyOf_33 (by decide) (fun hc33 => ?_) (fun hc33 => ?_)
    · have hbk := cl_Ke (by omega) hg.2.1 hv hg.2.2.2.1 (by rw [← hgs v hv]; exact hI.2) (show n ≤ w by have := hI.2.1; omega)
      have hwn : ∀ i, bs_t (mt &&& (bs_b v ^^^ (-1))) i = true → i < n := fun i hi => gf_lt hg.2.1 hg.1 ((hg.2.2.1 i).mp (by rw [bs_and, Bool.and_eq_true] at hi; exact hi.1))
      refine lv_lload_n hx hb d_N_bodyOf_73 rfl (lv_at hl 3 rfl) ?_
      refine lv_lconst (v := 0) hx hb d_N_bodyOf_74 (by decide) ?_
      refine wl_lcmpne (tgt := 81) hx hb d_N_bodyOf_75 d_N_bodyOf_76 (by decide) (fun hc75 => ?_) (fun hc75 => ?_)
      · refine lv_iload_n hx hb d_N_bodyOf_81 rfl (lv_at hl 0 rfl) ?_
        refine vp_callSl (va_Run.run (va_runSN (As := [.int (nI v)]) (rest := []) ⟨hx, hb, hml, hown, hts⟩ (c_F_bit l v) ⟨va_cnB 1 hts (nm_gi nm_c_F_bit) rfl rfl rfl (nw_N_40 hNw) (hts _ (List.mem_cons_of_mem _ nm_1)) (by decide +kernel) ⟨Nat.le_of_ble_eq_true rfl, Nat.le_of_ble_eq_true rfl⟩, (hts _ (List.mem_cons_of_mem _ nm_119)), trivial⟩ ⟨fun _ _ _ _ q => ⟨q.1, trivial⟩, fun U hU hW => ⟨rfl, trivial⟩⟩ rfl rfl hl.1 rfl (lv_room (Nat.le_of_ble_eq_true rfl)) d_N_bodyOf_82 ⟨Nat.zero_le _, Nat.zero_le _⟩)) (fun r hr => ?_)
        subst hr
        refine lv_lload_n hx hb d_N_bodyOf_85 rfl (lv_at hl 3 rfl) ?_
        refine lv_aload_n hx hb d_N_bodyOf_86 rfl (lv_at hl 1 rfl) ?_
        refine va_get (D := (dC, dI)) (ci := 1) (v := .long mt) (C := "FlowNest$Side") (T := T_S) (N := 10) hx hb hts nm_iS hown hK hP 0 rfl rfl 8 (by decide) (hts _ (List.mem_cons_of_mem _ nm_42)) (fun _ h9 => h9) rfl d_N_bodyOf_87 ?_
        refine lv_iload_n hx hb d_N_bodyOf_90 rfl (lv_at hl 0 rfl) ?_
        refine vp_callSl (va_Run.run (va_runSN (As := [.int (nI v)]) (rest := [.long mt, .long back, .long (bs_b v)]) ⟨hx, hb, hml, hown, hts⟩ (c_F_bit l v) ⟨va_cnB 1 hts (nm_gi nm_c_F_bit) rfl rfl rfl (nw_N_40 hNw) (hts _ (List.mem_cons_of_mem _ nm_1)) (by decide +kernel) ⟨Nat.le_of_ble_eq_true rfl, Nat.le_of_ble_eq_true rfl⟩, (hts _ (List.mem_cons_of_mem _ nm_119)), trivial⟩ ⟨fun _ _ _ _ q => ⟨q.1, trivial⟩, fun U hU hW => ⟨rfl, trivial⟩⟩ rfl rfl hl.1 rfl (lv_room (Nat.le_of_ble_eq_true rfl)) d_N_bodyOf_91 ⟨Nat.zero_le _, Nat.zero_le _⟩)) (fun r hr => ?_)
        subst hr
        refine lv_ldc2 (v := -1) hx hb hown (hts _ (List.mem_cons_of_mem _ nm_171)) d_N_bodyOf_94 ?_
        refine lv_lxor hx hb d_N_bodyOf_97 ?_
        refine lv_land hx hb d_N_bodyOf_98 ?_
        refine lv_aload_n hx hb d_N_bodyOf_99 rfl (lv_at hl 2 rfl) ?_
        refine lv_aload_n hx hb d_N_bodyOf_100 rfl (lv_at hl 1 rfl) ?_
        refine va_get (D := (dC, dI)) (ci := 1) (v := .int (nI n)) (C := "FlowNest$Side") (T := T_S) (N := 10) hx hb hts nm_iS hown hK hP 0 rfl rfl 6 (by decide) (hts _ (List.mem_cons_of_mem _ nm_38)) (fun _ h9 => h9) rfl d_N_bodyOf_101 ?_
        refine vp_callSl (va_Run.run (va_runS (As := [.long back, .long (mt &&& ((bs_b v) ^^^ (-1))), .ref g1, .int (nI n)]) (rest := [.long (bs_b v)]) ⟨hx, hb, hml, hown, hts⟩ (c_N_flood l dC dI cJ cI g1 gs n back (mt &&& ((bs_b v) ^^^ (-1))) hn hwn) (va_cwS 4 hts (nm_gS nm_172 nm_173 nm_3 nm_c_N_flood) rfl rfl rfl (by decide +kernel) ⟨Nat.le_of_ble_eq_true rfl, Nat.le_of_ble_eq_true rfl⟩) ⟨cw_blind, cw_pre (hP.sub (ws' := fl_ws cJ cI g1 gs) [7] rfl) hK hNw⟩ rfl rfl hl.1 rfl (lv_room (Nat.le_of_ble_eq_true rfl)) d_N_bodyOf_104 ⟨Nat.zero_le _, Nat.zero_le _⟩)) (fun r3 hr4 => ?_)
        refine lv_lor hx hb d_N_bodyOf_107 ?_
        have hfl : ∀ i, bs_t r3 i = true ↔ ∃ u, bs_t back u = true ∧ bs_t (mt &&& (bs_b v ^^^ (-1))) u = true ∧ gf_R (fun a b => gf_E n (gf_T n nx) a b ∧ bs_t (mt &&& (bs_b v ^^^ (-1))) b = true) u i := fun i => (hr4 i).trans ⟨fun ⟨u, q1, q2, q3⟩ => ⟨u, q1, q2, gf_mono (fun a b z => ⟨(gf_E_congr hgs a b).mp z.1, z.2⟩) q3⟩, fun ⟨u, q1, q2, q3⟩ => ⟨u, q1, q2, gf_mono (fun a b z => ⟨(gf_E_congr hgs a b).mpr z.1, z.2⟩) q3⟩⟩
        exact W.lret (v := (bs_b v) ||| r3) hx hb hr (fun t ht hW => ⟨_, rfl, cl_body (by omega) hg.2.1 hv hg.2.2.1 hbk hfl hc75, ht⟩) (fun _ h => nomatch h) d_N_bodyOf_108
      · refine lv_lconst (v := 0) hx hb d_N_bodyOf_79 (by decide) ?_
        exact W.lret (v := 0) hx hb hr (fun t ht hW => ⟨_, rfl, cl_body0 hbk hc75, ht⟩) (fun _ h => nomatch h) d_N_bodyOf_80
    · refine lv_aload_n hx hb d_N_bodyOf_36 rfl (lv_at hl 1 rfl) ?_
      refine va_get (D := (dC, dI)) (ci := 1) (v := .ref a1) (C := "FlowNest$Side") (T := T_S) (N := 10) hx hb hts nm_iS hown hK hP 0 rfl rfl 1 (by decide) (hts _ (List.mem_cons_of_mem _ nm_29)) (fun _ h9 => h9) rfl d_N_bodyOf_37 ?_
      refine lv_iload hx hb d_N_bodyOf_40 (lv_at hl 5 rfl) ?_
      refine wl_lald (i := w) hx hb hK hP 2 0 rfl rfl (by omega) (by decide) d_N_bodyOf_42 ?_
      refine lv_iload_n hx hb d_N_bodyOf_43 rfl (lv_at hl 0 rfl) ?_
      refine vp_callSi (va_Run.run (va_runSN (As := [.long (ab w), .int (nI v)]) (rest := []) ⟨hx, hb, hml, hown, hts⟩ (c_F_has l (ab w) v (by omega)) ⟨va_cnB 2 hts (nm_gi nm_c_F_has) rfl rfl rfl (nw_N_36 hNw) (hts _ (List.mem_cons_of_mem _ nm_1)) (by decide +kernel) ⟨Nat.le_of_ble_eq_true rfl, Nat.le_of_ble_eq_true rfl⟩, (hts _ (List.mem_cons_of_mem _ nm_137)), trivial⟩ ⟨fun _ _ _ _ q => ⟨q.1, trivial⟩, fun U hU hW => ⟨rfl, trivial⟩⟩ rfl rfl hl.1 rfl (lv_room (Nat.le_of_ble_eq_true rfl)) d_N_bodyOf_44 ⟨Nat.zero_le _, Nat.zero_le _⟩)) (fun r hr => ?_)
      subst hr
      refine wl_ifeqb (tgt := 58) hx hb d_N_bodyOf_47 (by decide) (fun hc47 => ?_) (fun hc47 => ?_)
      · refine lv_lload hx hb d_N_bodyOf_58 (lv_at hl 4 rfl) ?_
        refine lv_iload hx hb d_N_bodyOf_60 (lv_at hl 5 rfl) ?_
        refine vp_callSi (va_Run.run (va_runSN (As := [.long (gs v), .int (nI w)]) (rest := []) ⟨hx, hb, hml, hown, hts⟩ (c_F_following l (gs v) (nI w) (w + 1) (nI_1 w) (by omega)) ⟨va_cnB 2 hts (nm_gi nm_c_F_following) rfl rfl rfl (nw_N_29 hNw) (hts _ (List.mem_cons_of_mem _ nm_1)) (by decide +kernel) ⟨Nat.le_of_ble_eq_true rfl, Nat.le_of_ble_eq_true rfl⟩, (hts _ (List.mem_cons_of_mem _ nm_123)), trivial⟩ ⟨fun _ _ _ _ q => ⟨q.1, trivial⟩, fun U hU hW => ⟨rfl, trivial⟩⟩ rfl rfl hl.1 rfl (lv_room (Nat.le_of_ble_eq_true rfl)) d_N_bodyOf_62 ⟨Nat.zero_le _, Nat.zero_le _⟩)) (fun r hr => ?_)
        subst hr
        refine lv_istore (lv' := [(7, .int (nI (bs_fo (gs v) (w + 1)))), (0, .int (nI v)), (1, .ref h1), (2, .ref g1), (3, .long back), (5, .long (gs v)), (8, .int (nI step))]) hx hb d_N_bodyOf_65 hl (by decide) rfl (fun ls hl => ?_)
        refine lv_iinc (lv' := [(8, .int (nI (step + 1))), (7, .int (nI (bs_fo (gs v) (w + 1)))), (0, .int (nI v)), (1, .ref h1), (2, .ref g1), (3, .long back), (5, .long (gs v))]) (k := 6) (v := nI (step + 1)) hx hb d_N_bodyOf_67 hl rfl (nI_1 step) (by decide) rfl (fun ls hl => ?_)
        refine lv_goto (tgt := 18) hx hb d_N_bodyOf_70 (by decide) ?_
        exact ih (back, (bs_fo (gs v) (w + 1)), (step + 1)) (show step + 1 ≤ n ∧ cl_K n (gs v) ab v back (bs_fo (gs v) (w + 1)) (step + 1) from ⟨by omega, cl_Ks hI.2 hc33 (by omega) (cl_no (Bool.eq_false_iff.mp hc47))⟩) (show 64 - bs_fo (gs v) (w + 1) < 64 - w by have := bs_fo_ge (x := gs v) (k := w + 1) (by omega); have := hI.2.2.1; omega) _ (lv_sub hl [2, 3, 4, 5, 6, 1, 0] rfl)
      · refine lv_lload_n hx hb d_N_bodyOf_50 rfl (lv_at hl 3 rfl) ?_
        refine lv_iload hx hb d_N_bodyOf_51 (lv_at hl 5 rfl) ?_
        refine vp_callSl (va_Run.run (va_runSN (As := [.int (nI w)]) (rest := [.long back]) ⟨hx, hb, hml, hown, hts⟩ (c_F_bit l w) ⟨va_cnB 1 hts (nm_gi nm_c_F_bit) rfl rfl rfl (nw_N_40 hNw) (hts _ (List.mem_cons_of_mem _ nm_1)) (by decide +kernel) ⟨Nat.le_of_ble_eq_true rfl, Nat.le_of_ble_eq_true rfl⟩, (hts _ (List.mem_cons_of_mem _ nm_119)), trivial⟩ ⟨fun _ _ _ _ q => ⟨q.1, trivial⟩, fun U hU hW => ⟨rfl, trivial⟩⟩ rfl rfl hl.1 rfl (lv_room (Nat.le_of_ble_eq_true rfl)) d_N_bodyOf_53 ⟨Nat.zero_le _, Nat.zero_le _⟩)) (fun r hr => ?_)
        subst hr
        refine lv_lor hx hb d_N_bodyOf_56 ?_
        refine lv_lstore_n (lv' := [(3, .long (back ||| (bs_b w))), (0, .int (nI v)), (1, .ref h1), (2, .ref g1), (5, .long (gs v)), (7, .int (nI w)), (8, .int (nI step))]) hx hb d_N_bodyOf_57 rfl hl (by decide) rfl (fun ls hl => ?_)
        refine lv_lload hx hb d_N_bodyOf_58 (lv_at hl 4 rfl) ?_
        refine lv_iload hx hb d_N_bodyOf_60 (lv_at hl 5 rfl) ?_
        refine vp_callSi (va_Run.run (va_runSN (As := [.long (gs v), .int (nI w)]) (rest := []) ⟨hx, hb, hml, hown, hts⟩ (c_F_following l (gs v) (nI w) (w + 1) (nI_1 w) (by omega)) ⟨va_cnB 2 hts (nm_gi nm_c_F_following) rfl rfl rfl (nw_N_29 hNw) (hts _ (List.mem_cons_of_mem _ nm_1)) (by decide +kernel) ⟨Nat.le_of_ble_eq_true rfl, Nat.le_of_ble_eq_true rfl⟩, (hts _ (List.mem_cons_of_mem _ nm_123)), trivial⟩ ⟨fun _ _ _ _ q => ⟨q.1, trivial⟩, fun U hU hW => ⟨rfl, trivial⟩⟩ rfl rfl hl.1 rfl (lv_room (Nat.le_of_ble_eq_true rfl)) d_N_bodyOf_62 ⟨Nat.zero_le _, Nat.zero_le _⟩)) (fun r hr => ?_)
        subst hr
        refine lv_istore (lv' := [(7, .int (nI (bs_fo (gs v) (w + 1)))), (3, .long (back ||| (bs_b w))), (0, .int (nI v)), (1, .ref h1), (2, .ref g1), (5, .long (gs v)), (8, .int (nI step))]) hx hb d_N_bodyOf_65 hl (by decide) rfl (fun ls hl => ?_)
        refine lv_iinc (lv' := [(8, .int (nI (step + 1))), (7, .int (nI (bs_fo (gs v) (w + 1)))), (3, .long (back ||| (bs_b w))), (0, .int (nI v)), (1, .ref h1), (2, .ref g1), (5, .long (gs v))]) (k := 6) (v := nI (step + 1)) hx hb d_N_bodyOf_67 hl rfl (nI_1 step) (by decide) rfl (fun ls hl => ?_)
        refine lv_goto (tgt := 18) hx hb d_N_bodyOf_70 (by decide) ?_
        exact ih ((back ||| bs_b w), (bs_fo (gs v) (w + 1)), (step + 1)) (show step + 1 ≤ n ∧ cl_K n (gs v) ab v (back ||| bs_b w) (bs_fo (gs v) (w + 1)) (step + 1) from ⟨by omega, cl_Ks hI.2 hc33 (by omega) (cl_or (by omega) hc47)⟩) (show 64 - bs_fo (gs v) (w + 1) < 64 - w by have := bs_fo_ge (x := gs v) (k := w + 1) (by omega); have := hI.2.2.1; omega) _ (lv_sub hl [3, 4, 5, 2, 6, 1, 0] rfl)
set_option maxHeartbeats 4000000 in
set_option maxRecDepth 100000 in
theorem c_N_count (l : Launch) (dC : Nat → ClassId) (dI : Nat → Nat → Nat) (cJ cI : ClassId) (h2 c2 : Nat) (bo : Nat → Int64) (ns : Int32) (n : Nat) (hn : n ≤ 48) : Met l y_N_count w_N_count ({ frames := 0, cells := 0, slots := 0, locals := 0 }) (va_Pc [.ref h2, .int (nI n)] (cw_B (dC, dI) cJ cI (ns_ws cJ cI h2 c2 bo ns))) (vp_Si (fun r => r = nI (ct_n (fun i => !decide (bo i = 0)) n))) 0 0 (fun _ => False) := by
  refine Met.ofW (cc := b_N_count) (maxL := 4) (ret := (some .int)) (by decide) rfl ?_
  intro p e s m args below meth c s₁ B hml hv9
  obtain ⟨rfl, hP, hK, hNw⟩ := hv9
  have hx := B.exec
  have hb := B.bytes
  have hr := B.returns
  have hts := atoms_spec (ws := w_N_count) B.pre
  have hown : s.vm.findClass "FlowNest$Nest" = some m.cls := findClass_of_methodNamed B.named
  have hlocks := B.notSynchronized
  have hP : va_P (dC, dI) vwCl (ns_ws cJ cI h2 c2 bo ns) s.heap := hP
  have hl := lv_entry ([.ref h2, .int (nI n)]) (n := 4) (Nat.le_of_ble_eq_true rfl)
  rw [lg_entry_eq]
  generalize (lg_sl ([.ref h2, .int (nI n)]) ++ List.replicate (4 - (lg_sl ([.ref h2, .int (nI n)])).length) Slot.unset).toArray = ls at hl ⊢
  have hl : lv_has ls 4 [(0, .ref h2), (1, .int (nI n))] := hl
  refine lv_iconst (v := nI 0) hx hb d_N_count_0 (by decide) ?_
  refine lv_istore_n (lv' := [(2, .int (nI 0)), (0, .ref h2), (1, .int (nI n))]) hx hb d_N_count_1 rfl hl (by decide) rfl (fun ls hl => ?_)
  refine lv_iconst (v := nI 0) hx hb d_N_count_2 (by decide) ?_
  refine lv_istore_n (lv' := [(3, .int (nI 0)), (2, .int (nI 0)), (0, .ref h2), (1, .int (nI n))]) hx hb d_N_count_3 rfl hl (by decide) rfl (fun ls hl => ?_)
  refine wl_loopR (σ := Nat) 4 4 (fun (k : Nat) => [(0, .ref h2), (1, .int (nI n)), (2, .int (nI (ct_n (fun i => !decide (bo i = 0)) k))), (3, .int (nI k))]) (fun (k : Nat) => k ≤ n) (fun (k : Nat) => n - k) ?_ 0 (Nat.zero_le n) (lv_sub hl [2, 3, 1, 0] rfl)
  clear hl
  intro k hI ih ls hl
  have hI : k ≤ n := hI
  have hl : lv_has ls 4 [(0, .ref h2), (1, .int (nI n)), (2, .int (nI (ct_n (fun i => !decide (bo i = 0)) k))), (3, .int (nI k))] := hl
  refine lv_iload_n hx hb d_N_count_4 rfl (lv_at hl 3 rfl) ?_
  refine lv_iload_n hx hb d_N_count_5 rfl (lv_at hl 1 rfl) ?_
  refine wl_ige (tgt := 34) hx hb (by omega) (by omega) d_N_count_6 (by decide) (fun hc6 => ?_) (fun hc6 => ?_)
  · refine lv_iload_n hx hb d_N_count_34 rfl (lv_at hl 2 rfl) ?_
    exact W.iret (v := nI (ct_n (fun i => !decide (bo i = 0)) k)) hx hb hr (fun t ht hW => ⟨_, rfl, by rw [show k = n by omega], ht⟩) (fun _ h => nomatch h) d_N_count_35
  · refine lv_iload_n hx hb d_N_count_9 rfl (lv_at hl 2 rfl) ?_
    refine lv_aload_n hx hb d_N_count_10 rfl (lv_at hl 0 rfl) ?_
    refine va_get (D := (dC, dI)) (ci := 0) (v := .ref c2) (C := "FlowNest$Nest") (T := T_N) (N := 2) hx hb hts nm_iN hown hK hP 0 rfl rfl 0 (by decide) (hts _ (List.mem_cons_of_mem _ nm_74)) (fun _ h9 => h9) rfl d_N_count_11 ?_
    refine lv_iload_n hx hb d_N_count_14 rfl (lv_at hl 3 rfl) ?_
    refine wl_lald (i := k) hx hb hK hP 1 0 rfl rfl (by omega) (by decide) d_N_count_15 ?_
    refine lv_lconst (v := 0) hx hb d_N_count_16 (by decide) ?_
    refine wl_lcmpeq (tgt := 25) hx hb d_N_count_17 d_N_count_18 (by decide) (fun hc17 => ?_) (fun hc17 => ?_)
    · refine lv_iconst (v := nI 0) hx hb d_N_count_25 (by decide) ?_
      refine wl_iaddn hx hb d_N_count_26 ?_
      refine lv_istore_n (lv' := [(2, .int (nI ((ct_n (fun i => !decide (bo i = 0)) k) + 0))), (0, .ref h2), (1, .int (nI n)), (3, .int (nI k))]) hx hb d_N_count_27 rfl hl (by decide) rfl (fun ls hl => ?_)
      refine lv_iinc (lv' := [(3, .int (nI (k + 1))), (2, .int (nI ((ct_n (fun i => !decide (bo i = 0)) k) + 0))), (0, .ref h2), (1, .int (nI n))]) (k := 3) (v := nI (k + 1)) hx hb d_N_count_28 hl rfl (nI_1 k) (by decide) rfl (fun ls hl => ?_)
      refine lv_goto (tgt := 4) hx hb d_N_count_31 (by decide) ?_
      rw [show ct_n (fun i => !decide (bo i = 0)) k + 0 = ct_n (fun i => !decide (bo i = 0)) (k + 1) from ct_s0 (p := fun i => !decide (bo i = 0)) (by simp [hc17])] at hl
      exact ih (k + 1) (show k + 1 ≤ n by omega) (show n - (k + 1) < n - k by omega) _ (lv_sub hl [2, 3, 1, 0] rfl)
    · refine lv_iconst (v := nI 1) hx hb d_N_count_21 (by decide) ?_
      refine lv_goto (tgt := 26) hx hb d_N_count_22 (by decide) ?_
      refine wl_iaddn hx hb d_N_count_26 ?_
      refine lv_istore_n (lv' := [(2, .int (nI ((ct_n (fun i => !decide (bo i = 0)) k) + 1))), (0, .ref h2), (1, .int (nI n)), (3, .int (nI k))]) hx hb d_N_count_27 rfl hl (by decide) rfl (fun ls hl => ?_)
      refine lv_iinc (lv' := [(3, .int (nI (k + 1))), (2, .int (nI ((ct_n (fun i => !decide (bo i = 0)) k) + 1))), (0, .ref h2), (1, .int (nI n))]) (k := 3) (v := nI (k + 1)) hx hb d_N_count_28 hl rfl (nI_1 k) (by decide) rfl (fun ls hl => ?_)
      refine lv_goto (tgt := 4) hx hb d_N_count_31 (by decide) ?_
      rw [show ct_n (fun i => !decide (bo i = 0)) k + 1 = ct_n (fun i => !decide (bo i = 0)) (k + 1) from ct_s1 (p := fun i => !decide (bo i = 0)) (by simp [hc17])] at hl
      exact ih (k + 1) (show k + 1 ≤ n by omega) (show n - (k + 1) < n - k by omega) _ (lv_sub hl [2, 3, 1, 0] rfl)
set_option maxHeartbeats 4000000 in
set_option maxRecDepth 100000 in
theorem c_N_countAround (l : Launch) (dC : Nat → ClassId) (dI : Nat → Nat → Nat) (cJ cI : ClassId) (h2 c2 : Nat) (bo : Nat → Int64) (ns : Int32) (n v : Nat) (hn : n ≤ 48) (hv : v < 64) : Met l y_N_countAround w_N_countAround ({ frames := 2, cells := 0, slots := 0, locals := 42 }) (va_Pc [.ref h2, .int (nI v), .int (nI n)] (cw_B (dC, dI) cJ cI (ns_ws cJ cI h2 c2 bo ns))) (vp_Si (fun r => r = nI (ct_n (fun i => bs_t (bo i) v) n))) 0 0 (fun _ => False) := by
  refine Met.ofW (cc := b_N_countAround) (maxL := 5) (ret := (some .int)) (by decide) rfl ?_
  intro p e s m args below meth c s₁ B hml hv9
  obtain ⟨rfl, hP, hK, hNw⟩ := hv9
  have hx := B.exec
  have hb := B.bytes
  have hr := B.returns
  have hts := atoms_spec (ws := w_N_countAround) B.pre
  have hown : s.vm.findClass "FlowNest$Nest" = some m.cls := findClass_of_methodNamed B.named
  have hlocks := B.notSynchronized
  have hP : va_P (dC, dI) vwCl (ns_ws cJ cI h2 c2 bo ns) s.heap := hP
  have hl := lv_entry ([.ref h2, .int (nI v), .int (nI n)]) (n := 5) (Nat.le_of_ble_eq_true rfl)
  rw [lg_entry_eq]
  generalize (lg_sl ([.ref h2, .int (nI v), .int (nI n)]) ++ List.replicate (5 - (lg_sl ([.ref h2, .int (nI v), .int (nI n)])).length) Slot.unset).toArray = ls at hl ⊢
  have hl : lv_has ls 5 [(0, .ref h2), (1, .int (nI v)), (2, .int (nI n))] := hl
  refine lv_iconst (v := nI 0) hx hb d_N_countAround_0 (by decide) ?_
  refine lv_istore_n (lv' := [(3, .int (nI 0)), (0, .ref h2), (1, .int (nI v)), (2, .int (nI n))]) hx hb d_N_countAround_1 rfl hl (by decide) rfl (fun ls hl => ?_)
  refine lv_iconst (v := nI 0) hx hb d_N_countAround_2 (by decide) ?_
  refine lv_istore (lv' := [(4, .int (nI 0)), (3, .int (nI 0)), (0, .ref h2), (1, .int (nI v)), (2, .int (nI n))]) hx hb d_N_countAround_3 hl (by decide) rfl (fun ls hl => ?_)
  refine wl_loopR (σ := Nat) 5 5 (fun (k : Nat) => [(0, .ref h2), (1, .int (nI v)), (2, .int (nI n)), (3, .int (nI (ct_n (fun i => bs_t (bo i) v) k))), (4, .int (nI k))]) (fun (k : Nat) => k ≤ n) (fun (k : Nat) => n - k) ?_ 0 (Nat.zero_le n) (lv_sub hl [2, 3, 4, 1, 0] rfl)
  clear hl
  intro k hI ih ls hl
  have hI : k ≤ n := hI
  have hl : lv_has ls 5 [(0, .ref h2), (1, .int (nI v)), (2, .int (nI n)), (3, .int (nI (ct_n (fun i => bs_t (bo i) v) k))), (4, .int (nI k))] := hl
  refine lv_iload hx hb d_N_countAround_5 (lv_at hl 4 rfl) ?_
  refine lv_iload_n hx hb d_N_countAround_7 rfl (lv_at hl 2 rfl) ?_
  refine wl_ige (tgt := 39) hx hb (by omega) (by omega) d_N_countAround_8 (by decide) (fun hc8 => ?_) (fun hc8 => ?_)
  · refine lv_iload_n hx hb d_N_countAround_39 rfl (lv_at hl 3 rfl) ?_
    exact W.iret (v := nI (ct_n (fun i => bs_t (bo i) v) k)) hx hb hr (fun t ht hW => ⟨_, rfl, by rw [show k = n by omega], ht⟩) (fun _ h => nomatch h) d_N_countAround_40
  · refine lv_iload_n hx hb d_N_countAround_11 rfl (lv_at hl 3 rfl) ?_
    refine lv_aload_n hx hb d_N_countAround_12 rfl (lv_at hl 0 rfl) ?_
    refine va_get (D := (dC, dI)) (ci := 0) (v := .ref c2) (C := "FlowNest$Nest") (T := T_N) (N := 2) hx hb hts nm_iN hown hK hP 0 rfl rfl 0 (by decide) (hts _ (List.mem_cons_of_mem _ nm_74)) (fun _ h9 => h9) rfl d_N_countAround_13 ?_
    refine lv_iload hx hb d_N_countAround_16 (lv_at hl 4 rfl) ?_
    refine wl_lald (i := k) hx hb hK hP 1 0 rfl rfl (by omega) (by decide) d_N_countAround_18 ?_
    refine lv_iload_n hx hb d_N_countAround_19 rfl (lv_at hl 1 rfl) ?_
    refine vp_callSi (va_Run.run (va_runSN (As := [.long (bo k), .int (nI v)]) (rest := [.int (nI (ct_n (fun i => bs_t (bo i) v) k))]) ⟨hx, hb, hml, hown, hts⟩ (c_F_has l (bo k) v (by omega)) ⟨va_cnB 2 hts (nm_gi nm_c_F_has) rfl rfl rfl (nw_N_36 hNw) (hts _ (List.mem_cons_of_mem _ nm_1)) (by decide +kernel) ⟨Nat.le_of_ble_eq_true rfl, Nat.le_of_ble_eq_true rfl⟩, (hts _ (List.mem_cons_of_mem _ nm_137)), trivial⟩ ⟨fun _ _ _ _ q => ⟨q.1, trivial⟩, fun U hU hW => ⟨rfl, trivial⟩⟩ rfl rfl hl.1 rfl (lv_room (Nat.le_of_ble_eq_true rfl)) d_N_countAround_20 ⟨Nat.zero_le _, Nat.zero_le _⟩)) (fun r hr => ?_)
    subst hr
    refine wl_ifeqb (tgt := 30) hx hb d_N_countAround_23 (by decide) (fun hc23 => ?_) (fun hc23 => ?_)
    · refine lv_iconst (v := nI 0) hx hb d_N_countAround_30 (by decide) ?_
      refine wl_iaddn hx hb d_N_countAround_31 ?_
      refine lv_istore_n (lv' := [(3, .int (nI ((ct_n (fun i => bs_t (bo i) v) k) + 0))), (0, .ref h2), (1, .int (nI v)), (2, .int (nI n)), (4, .int (nI k))]) hx hb d_N_countAround_32 rfl hl (by decide) rfl (fun ls hl => ?_)
      refine lv_iinc (lv' := [(4, .int (nI (k + 1))), (3, .int (nI ((ct_n (fun i => bs_t (bo i) v) k) + 0))), (0, .ref h2), (1, .int (nI v)), (2, .int (nI n))]) (k := 4) (v := nI (k + 1)) hx hb d_N_countAround_33 hl rfl (nI_1 k) (by decide) rfl (fun ls hl => ?_)
      refine lv_goto (tgt := 5) hx hb d_N_countAround_36 (by decide) ?_
      rw [show ct_n (fun i => bs_t (bo i) v) k + 0 = ct_n (fun i => bs_t (bo i) v) (k + 1) from ct_s0 (p := fun i => bs_t (bo i) v) hc23] at hl
      exact ih (k + 1) (show k + 1 ≤ n by omega) (show n - (k + 1) < n - k by omega) _ (lv_sub hl [2, 3, 4, 1, 0] rfl)
    · refine lv_iconst (v := nI 1) hx hb d_N_countAround_26 (by decide) ?_
      refine lv_goto (tgt := 31) hx hb d_N_countAround_27 (by decide) ?_
      refine wl_iaddn hx hb d_N_countAround_31 ?_
      refine lv_istore_n (lv' := [(3, .int (nI ((ct_n (fun i => bs_t (bo i) v) k) + 1))), (0, .ref h2), (1, .int (nI v)), (2, .int (nI n)), (4, .int (nI k))]) hx hb d_N_countAround_32 rfl hl (by decide) rfl (fun ls hl => ?_)
      refine lv_iinc (lv' := [(4, .int (nI (k + 1))), (3, .int (nI ((ct_n (fun i => bs_t (bo i) v) k) + 1))), (0, .ref h2), (1, .int (nI v)), (2, .int (nI n))]) (k := 4) (v := nI (k + 1)) hx hb d_N_countAround_33 hl rfl (nI_1 k) (by decide) rfl (fun ls hl => ?_)
      refine lv_goto (tgt := 5) hx hb d_N_countAround_36 (by decide) ?_
      rw [show ct_n (fun i => bs_t (bo i) v) k + 1 = ct_n (fun i => bs_t (bo i) v) (k + 1) from ct_s1 (p := fun i => bs_t (bo i) v) hc23] at hl
      exact ih (k + 1) (show k + 1 ≤ n by omega) (show n - (k + 1) < n - k by omega) _ (lv_sub hl [2, 3, 4, 1, 0] rfl)
set_option maxHeartbeats 4000000 in
set_option maxRecDepth 100000 in
theorem c_N_leastAround (l : Launch) (dC : Nat → ClassId) (dI : Nat → Nat → Nat) (cJ cI : ClassId) (h2 c2 : Nat) (bo : Nat → Int64) (ns : Int32) (n v : Nat) (but : Int32) (hn : n ≤ 48) (hv : v < 64) : Met l y_N_leastAround w_N_leastAround ({ frames := 2, cells := 0, slots := 0, locals := 42 }) (va_Pc [.ref h2, .int (nI v), .int but, .int (nI n)] (cw_B (dC, dI) cJ cI (ns_ws cJ cI h2 c2 bo ns))) (vp_Si (fun r => r = sp_hi (sp_hd bo (fun i => !decide (nI i = but) && bs_t (bo i) v) n))) 0 0 (fun _ => False) := by
  refine Met.ofW (cc := b_N_leastAround) (maxL := 7) (ret := (some .int)) (by decide) rfl ?_
  intro p e s m args below meth c s₁ B hml hv9
  obtain ⟨rfl, hP, hK, hNw⟩ := hv9
  have hx := B.exec
  have hb := B.bytes
  have hr := B.returns
  have hts := atoms_spec (ws := w_N_leastAround) B.pre
  have hown : s.vm.findClass "FlowNest$Nest" = some m.cls := findClass_of_methodNamed B.named
  have hlocks := B.notSynchronized
  have hP : va_P (dC, dI) vwCl (ns_ws cJ cI h2 c2 bo ns) s.heap := hP
  have hl := lv_entry ([.ref h2, .int (nI v), .int but, .int (nI n)]) (n := 7) (Nat.le_of_ble_eq_true rfl)
  rw [lg_entry_eq]
  generalize (lg_sl ([.ref h2, .int (nI v), .int but, .int (nI n)]) ++ List.replicate (7 - (lg_sl ([.ref h2, .int (nI v), .int but, .int (nI n)])).length) Slot.unset).toArray = ls at hl ⊢
  have hl : lv_has ls 7 [(0, .ref h2), (1, .int (nI v)), (2, .int but), (3, .int (nI n))] := hl
  refine lv_iconst (v := -1) hx hb d_N_leastAround_0 (by decide) ?_
  refine lv_istore (lv' := [(4, .int (-1)), (0, .ref h2), (1, .int (nI v)), (2, .int but), (3, .int (nI n))]) hx hb d_N_leastAround_1 hl (by decide) rfl (fun ls hl => ?_)
  refine lv_iconst (v := nI 0) hx hb d_N_leastAround_3 (by decide) ?_
  refine lv_istore (lv' := [(5, .int (nI 0)), (4, .int (-1)), (0, .ref h2), (1, .int (nI v)), (2, .int but), (3, .int (nI n))]) hx hb d_N_leastAround_4 hl (by decide) rfl (fun ls hl => ?_)
  refine wl_loopR (σ := Nat) 6 7 (fun (h : Nat) => [(0, .ref h2), (1, .int (nI v)), (2, .int but), (3, .int (nI n)), (4, .int (sp_hi (sp_hd bo (fun i => !decide (nI i = but) && bs_t (bo i) v) h))), (5, .int (nI h))]) (fun (h : Nat) => h ≤ n) (fun (h : Nat) => n - h) ?_ 0 (Nat.zero_le n) (lv_sub hl [2, 3, 4, 5, 1, 0] rfl)
  clear hl
  intro h hI ih ls hl
  have hI : h ≤ n := hI
  have hl : lv_has ls 7 [(0, .ref h2), (1, .int (nI v)), (2, .int but), (3, .int (nI n)), (4, .int (sp_hi (sp_hd bo (fun i => !decide (nI i = but) && bs_t (bo i) v) h))), (5, .int (nI h))] := hl
  refine lv_iload hx hb d_N_leastAround_6 (lv_at hl 5 rfl) ?_
  refine lv_iload_n hx hb d_N_leastAround_8 rfl (lv_at hl 3 rfl) ?_
  refine wl_ige (tgt := 83) hx hb (by omega) (by omega) d_N_leastAround_9 (by decide) (fun hc9 => ?_) (fun hc9 => ?_)
  · refine lv_iload hx hb d_N_leastAround_83 (lv_at hl 4 rfl) ?_
    exact W.iret (v := sp_hi (sp_hd bo (fun i => !decide (nI i = but) && bs_t (bo i) v) h)) hx hb hr (fun t ht hW => ⟨_, rfl, by rw [show h = n by omega], ht⟩) (fun _ h => nomatch h) d_N_leastAround_85
  · refine lv_iload hx hb d_N_leastAround_12 (lv_at hl 5 rfl) ?_
    refine lv_iload_n hx hb d_N_leastAround_14 rfl (lv_at hl 2 rfl) ?_
    refine lv_icmp_eq (tgt := 36) hx hb d_N_leastAround_15 (by decide) (fun hc15 => ?_) (fun hc15 => ?_)
    · refine lv_iconst (v := nI 0) hx hb d_N_leastAround_36 (by decide) ?_
      refine lv_istore (lv' := [(6, .int (nI 0)), (0, .ref h2), (1, .int (nI v)), (2, .int but), (3, .int (nI n)), (4, .int (sp_hi (sp_hd bo (fun i => !decide (nI i = but) && bs_t (bo i) v) h))), (5, .int (nI h))]) hx hb d_N_leastAround_37 hl (by decide) rfl (fun ls hl => ?_)
      refine lv_iload hx hb d_N_leastAround_39 (lv_at hl 0 rfl) ?_
      refine wl_ifeqn (tgt := 77) hx hb (by omega) d_N_leastAround_41 (by decide) (fun hc41 => ?_) (fun hc41 => ?_)
      · refine lv_iinc (lv' := [(5, .int (nI (h + 1))), (6, .int (nI 0)), (0, .ref h2), (1, .int (nI v)), (2, .int but), (3, .int (nI n)), (4, .int (sp_hi (sp_hd bo (fun i => !decide (nI i = but) && bs_t (bo i) v) h)))]) (k := 6) (v := nI (h + 1)) hx hb d_N_leastAround_77 hl rfl (nI_1 h) (by decide) rfl (fun ls hl => ?_)
        refine lv_goto (tgt := 6) hx hb d_N_leastAround_80 (by decide) ?_
        have hk9 : sp_hd bo (fun i => !decide (nI i = but) && bs_t (bo i) v) (h + 1) = sp_hd bo (fun i => !decide (nI i = but) && bs_t (bo i) v) h := sp_hd_keep (fun q => by have := q.1; simp [hc15] at this)
        rw [← hk9] at hl
        exact ih (h + 1) (show h + 1 ≤ n by omega) (show n - (h + 1) < n - h by omega) _ (lv_sub hl [2, 3, 4, 5, 6, 0] rfl)
      · exact absurd hc41 (by decide)
    · refine lv_aload_n hx hb d_N_leastAround_18 rfl (lv_at hl 0 rfl) ?_
      refine va_get (D := (dC, dI)) (ci := 0) (v := .ref c2) (C := "FlowNest$Nest") (T := T_N) (N := 2) hx hb hts nm_iN hown hK hP 0 rfl rfl 0 (by decide) (hts _ (List.mem_cons_of_mem _ nm_74)) (fun _ h9 => h9) rfl d_N_leastAround_19 ?_
      refine lv_iload hx hb d_N_leastAround_22 (lv_at hl 5 rfl) ?_
      refine wl_lald (i := h) hx hb hK hP 1 0 rfl rfl (by omega) (by decide) d_N_leastAround_24 ?_
      refine lv_iload_n hx hb d_N_leastAround_25 rfl (lv_at hl 1 rfl) ?_
      refine vp_callSi (va_Run.run (va_runSN (As := [.long (bo h), .int (nI v)]) (rest := []) ⟨hx, hb, hml, hown, hts⟩ (c_F_has l (bo h) v (by omega)) ⟨va_cnB 2 hts (nm_gi nm_c_F_has) rfl rfl rfl (nw_N_36 hNw) (hts _ (List.mem_cons_of_mem _ nm_1)) (by decide +kernel) ⟨Nat.le_of_ble_eq_true rfl, Nat.le_of_ble_eq_true rfl⟩, (hts _ (List.mem_cons_of_mem _ nm_137)), trivial⟩ ⟨fun _ _ _ _ q => ⟨q.1, trivial⟩, fun U hU hW => ⟨rfl, trivial⟩⟩ rfl rfl hl.1 rfl (lv_room (Nat.le_of_ble_eq_true rfl)) d_N_leastAround_26 ⟨Nat.zero_le _, Nat.zero_le _⟩)) (fun r hr => ?_)
      subst hr
      refine wl_ifeqb (tgt := 36) hx hb d_N_leastAround_29 (by decide) (fun hc29 => ?_) (fun hc29 => ?_)
      · refine lv_iconst (v := nI 0) hx hb d_N_leastAround_36 (by decide) ?_
        refine lv_istore (lv' := [(6, .int (nI 0)), (0, .ref h2), (1, .int (nI v)), (2, .int but), (3, .int (nI n)), (4, .int (sp_hi (sp_hd bo (fun i => !decide (nI i = but) && bs_t (bo i) v) h))), (5, .int (nI h))]) hx hb d_N_leastAround_37 hl (by decide) rfl (fun ls hl => ?_)
        refine lv_iload hx hb d_N_leastAround_39 (lv_at hl 0 rfl) ?_
        refine wl_ifeqn (tgt := 77) hx hb (by omega) d_N_leastAround_41 (by decide) (fun hc41 => ?_) (fun hc41 => ?_)
        · refine lv_iinc (lv' := [(5, .int (nI (h + 1))), (6, .int (nI 0)), (0, .ref h2), (1, .int (nI v)), (2, .int but), (3, .int (nI n)), (4, .int (sp_hi (sp_hd bo (fun i => !decide (nI i = but) && bs_t (bo i) v) h)))]) (k := 6) (v := nI (h + 1)) hx hb d_N_leastAround_77 hl rfl (nI_1 h) (by decide) rfl (fun ls hl => ?_)
          refine lv_goto (tgt := 6) hx hb d_N_leastAround_80 (by decide) ?_
          have hk9 : sp_hd bo (fun i => !decide (nI i = but) && bs_t (bo i) v) (h + 1) = sp_hd bo (fun i => !decide (nI i = but) && bs_t (bo i) v) h := sp_hd_keep (fun q => by have := q.1; simp [hc29] at this)
          rw [← hk9] at hl
          exact ih (h + 1) (show h + 1 ≤ n by omega) (show n - (h + 1) < n - h by omega) _ (lv_sub hl [2, 3, 4, 5, 6, 0] rfl)
        · exact absurd hc41 (by decide)
      · refine lv_iconst (v := nI 1) hx hb d_N_leastAround_32 (by decide) ?_
        refine lv_goto (tgt := 37) hx hb d_N_leastAround_33 (by decide) ?_
        refine lv_istore (lv' := [(6, .int (nI 1)), (0, .ref h2), (1, .int (nI v)), (2, .int but), (3, .int (nI n)), (4, .int (sp_hi (sp_hd bo (fun i => !decide (nI i = but) && bs_t (bo i) v) h))), (5, .int (nI h))]) hx hb d_N_leastAround_37 hl (by decide) rfl (fun ls hl => ?_)
        refine lv_iload hx hb d_N_leastAround_39 (lv_at hl 0 rfl) ?_
        refine wl_ifeqn (tgt := 77) hx hb (by omega) d_N_leastAround_41 (by decide) (fun hc41 => ?_) (fun hc41 => ?_)
        · exact absurd hc41 (by decide)
        · refine lv_iload hx hb d_N_leastAround_44 (lv_at hl 5 rfl) ?_
          refine lv_iconst (v := -1) hx hb d_N_leastAround_46 (by decide) ?_
          refine lv_icmp_eq (tgt := 73) hx hb d_N_leastAround_47 (by decide) (fun hc47 => ?_) (fun hc47 => ?_)
          · refine lv_iload hx hb d_N_leastAround_73 (lv_at hl 6 rfl) ?_
            refine lv_istore (lv' := [(4, .int (nI h)), (6, .int (nI 1)), (0, .ref h2), (1, .int (nI v)), (2, .int but), (3, .int (nI n)), (5, .int (nI h))]) hx hb d_N_leastAround_75 hl (by decide) rfl (fun ls hl => ?_)
            refine lv_iinc (lv' := [(5, .int (nI (h + 1))), (4, .int (nI h)), (6, .int (nI 1)), (0, .ref h2), (1, .int (nI v)), (2, .int but), (3, .int (nI n))]) (k := 6) (v := nI (h + 1)) hx hb d_N_leastAround_77 hl rfl (nI_1 h) (by decide) rfl (fun ls hl => ?_)
            refine lv_goto (tgt := 6) hx hb d_N_leastAround_80 (by decide) ?_
            rw [show nI h = sp_hi (sp_hd bo (fun i => !decide (nI i = but) && bs_t (bo i) v) (h + 1)) from by rw [sp_hd_set (by simp [hc15, hc29]) (Or.inl (sp_hi_64 hc47 (by rcases sp_hd_lt bo (fun i => !decide (nI i = but) && bs_t (bo i) v) h with q | q <;> omega)))]; exact (sp_hi_nat (by omega)).symm] at hl
            exact ih (h + 1) (show h + 1 ≤ n by omega) (show n - (h + 1) < n - h by omega) _ (lv_sub hl [3, 4, 5, 6, 1, 0] rfl)
          · have hX := (sp_hd_lt bo (fun i => !decide (nI i = but) && bs_t (bo i) v) h).resolve_left (sp_hi_ne hc47)
            rw [sp_hi_nat (show sp_hd bo (fun i => !decide (nI i = but) && bs_t (bo i) v) h < 64 by omega)] at hl
            refine lv_aload_n hx hb d_N_leastAround_50 rfl (lv_at hl 1 rfl) ?_
            refine va_get (D := (dC, dI)) (ci := 0) (v := .ref c2) (C := "FlowNest$Nest") (T := T_N) (N := 2) hx hb hts nm_iN hown hK hP 0 rfl rfl 0 (by decide) (hts _ (List.mem_cons_of_mem _ nm_74)) (fun _ h9 => h9) rfl d_N_leastAround_51 ?_
            refine lv_iload hx hb d_N_leastAround_54 (lv_at hl 6 rfl) ?_
            refine wl_lald (i := h) hx hb hK hP 1 0 rfl rfl (by omega) (by decide) d_N_leastAround_56 ?_
            refine vp_callSi (va_Run.run (va_runS (As := [.long (bo h)]) (rest := []) ⟨hx, hb, hml, hown, hts⟩ (c_B_bitCount l (bo h)) (va_cwS 1 hts (nm_gS nm_400 nm_127 nm_11 nm_c_B_bitCount) rfl rfl rfl (by decide +kernel) ⟨Nat.le_of_ble_eq_true rfl, Nat.le_of_ble_eq_true rfl⟩) ⟨fun _ _ _ _ q => ⟨q.1, trivial⟩, fun U hU hW => ⟨rfl, trivial⟩⟩ rfl rfl hl.1 rfl (lv_room (Nat.le_of_ble_eq_true rfl)) d_N_leastAround_57 ⟨Nat.zero_le _, Nat.zero_le _⟩)) (fun r hr => ?_)
            subst hr
            refine lv_aload_n hx hb d_N_leastAround_60 rfl (lv_at hl 1 rfl) ?_
            refine va_get (D := (dC, dI)) (ci := 0) (v := .ref c2) (C := "FlowNest$Nest") (T := T_N) (N := 2) hx hb hts nm_iN hown hK hP 0 rfl rfl 0 (by decide) (hts _ (List.mem_cons_of_mem _ nm_74)) (fun _ h9 => h9) rfl d_N_leastAround_61 ?_
            refine lv_iload hx hb d_N_leastAround_64 (lv_at hl 5 rfl) ?_
            refine wl_lald (i := (sp_hd bo (fun i => !decide (nI i = but) && bs_t (bo i) v) h)) hx hb hK hP 1 0 rfl rfl (by omega) (by decide) d_N_leastAround_66 ?_
            refine vp_callSi (va_Run.run (va_runS (As := [.long (bo (sp_hd bo (fun i => !decide (nI i = but) && bs_t (bo i) v) h))]) (rest := [.int (nI (bs_c (bo h)))]) ⟨hx, hb, hml, hown, hts⟩ (c_B_bitCount l (bo (sp_hd bo (fun i => !decide (nI i = but) && bs_t (bo i) v) h))) (va_cwS 1 hts (nm_gS nm_400 nm_127 nm_11 nm_c_B_bitCount) rfl rfl rfl (by decide +kernel) ⟨Nat.le_of_ble_eq_true rfl, Nat.le_of_ble_eq_true rfl⟩) ⟨fun _ _ _ _ q => ⟨q.1, trivial⟩, fun U hU hW => ⟨rfl, trivial⟩⟩ rfl rfl hl.1 rfl (lv_room (Nat.le_of_ble_eq_true rfl)) d_N_leastAround_67 ⟨Nat.zero_le _, Nat.zero_le _⟩)) (fun r hr => ?_)
            subst hr
            have hcA := bs_c_le (bo h)
            have hcB := bs_c_le (bo (sp_hd bo (fun i => !decide (nI i = but) && bs_t (bo i) v) h))
            refine wl_ige (tgt := 77) hx hb (by omega) (by omega) d_N_leastAround_70 (by decide) (fun hc70 => ?_) (fun hc70 => ?_)
            · refine lv_iinc (lv' := [(5, .int (nI (h + 1))), (6, .int (nI 1)), (0, .ref h2), (1, .int (nI v)), (2, .int but), (3, .int (nI n)), (4, .int (nI (sp_hd bo (fun i => !decide (nI i = but) && bs_t (bo i) v) h)))]) (k := 6) (v := nI (h + 1)) hx hb d_N_leastAround_77 hl rfl (nI_1 h) (by decide) rfl (fun ls hl => ?_)
              refine lv_goto (tgt := 6) hx hb d_N_leastAround_80 (by decide) ?_
              have hk9 : sp_hd bo (fun i => !decide (nI i = but) && bs_t (bo i) v) (h + 1) = sp_hd bo (fun i => !decide (nI i = but) && bs_t (bo i) v) h := sp_hd_keep (fun q => q.2.elim (fun z => by omega) (fun z => by omega))
              rw [← sp_hi_nat (show sp_hd bo (fun i => !decide (nI i = but) && bs_t (bo i) v) h < 64 by omega), ← hk9] at hl
              exact ih (h + 1) (show h + 1 ≤ n by omega) (show n - (h + 1) < n - h by omega) _ (lv_sub hl [2, 3, 4, 5, 6, 0] rfl)
            · refine lv_iload hx hb d_N_leastAround_73 (lv_at hl 6 rfl) ?_
              refine lv_istore (lv' := [(4, .int (nI h)), (6, .int (nI 1)), (0, .ref h2), (1, .int (nI v)), (2, .int but), (3, .int (nI n)), (5, .int (nI h))]) hx hb d_N_leastAround_75 hl (by decide) rfl (fun ls hl => ?_)
              refine lv_iinc (lv' := [(5, .int (nI (h + 1))), (4, .int (nI h)), (6, .int (nI 1)), (0, .ref h2), (1, .int (nI v)), (2, .int but), (3, .int (nI n))]) (k := 6) (v := nI (h + 1)) hx hb d_N_leastAround_77 hl rfl (nI_1 h) (by decide) rfl (fun ls hl => ?_)
              refine lv_goto (tgt := 6) hx hb d_N_leastAround_80 (by decide) ?_
              rw [show nI h = sp_hi (sp_hd bo (fun i => !decide (nI i = but) && bs_t (bo i) v) (h + 1)) from by rw [sp_hd_set (by simp [hc15, hc29]) (Or.inr hc70)]; exact (sp_hi_nat (by omega)).symm] at hl
              exact ih (h + 1) (show h + 1 ≤ n by omega) (show n - (h + 1) < n - h by omega) _ (lv_sub hl [3, 4, 5, 6, 1, 0] rfl)
