/-! contracts of Side.pushAlong, dominate (laid by wip/gen/work1.py) -/
set_option maxHeartbeats 4000000 in
set_option maxRecDepth 100000 in
theorem c_S_pushAlong (l : Launch) (dC : Nat → ClassId) (dI : Nat → Nat → Nat) (cJ cI : ClassId) (h1 n1 a1 e1 l1 b1 t1 hs : Nat) (nx : Nat → Int64) (ab : Nat → Int64) (en : Nat → Int32) (lf : Nat → Int32) (bl : Nat → Int32) (tr : Nat → Int32) (rt : Int32) (mt : Int64) (sl : Int32) (n u : Nat) (hn : n ≤ 48) (hu : u < n) : Met l y_S_pushAlong w_S_pushAlong ({ frames := 2, cells := 0, slots := 0, locals := 45 }) (va_Pc [.ref h1, .int (nI u)] (cw_M (dC, dI) cJ cI (sd_ws cJ cI h1 n1 a1 e1 l1 b1 t1 nx ab en lf bl tr (nI n) rt mt sl) hs)) (va_Qi (fun (r : Int32) (u9 : Unit) => ∃ b, r = bs_i b ∧ (b = false → dm_pu n (nx u) u ab = ab)) (fun (u9 : Unit) (t : State) => va_P (dC, dI) vwCl (sd_ws cJ cI h1 n1 a1 e1 l1 b1 t1 nx (dm_pu n (nx u) u ab) en lf bl tr (nI n) rt mt sl) t.heap ∧ va_D (va_A (sd_ws cJ cI h1 n1 a1 e1 l1 b1 t1 nx ab en lf bl tr (nI n) rt mt sl) hs) (sd_ws cJ cI h1 n1 a1 e1 l1 b1 t1 nx (dm_pu n (nx u) u ab) en lf bl tr (nI n) rt mt sl)) (va_A (sd_ws cJ cI h1 n1 a1 e1 l1 b1 t1 nx ab en lf bl tr (nI n) rt mt sl) hs)) 0 0 (va_A (sd_ws cJ cI h1 n1 a1 e1 l1 b1 t1 nx ab en lf bl tr (nI n) rt mt sl) hs) := by
  refine Met.ofW (cc := b_S_pushAlong) (maxL := 9) (ret := (some .boolean)) (by decide) rfl ?_
  intro p e s m args below meth c s₁ B hml hv9
  obtain ⟨rfl, hsz, ⟨hP, hK, hNw⟩, hD0⟩ := hv9
  have hx := B.exec
  have hb := B.bytes
  have hr := B.returns
  have hts := atoms_spec (ws := w_S_pushAlong) B.pre
  have hown : s.vm.findClass "FlowNest$Side" = some m.cls := findClass_of_methodNamed B.named
  have hlocks := B.notSynchronized
  subst hsz
  have hD := hD0.self (sz := s.heap.size)
  generalize hAe : va_A (sd_ws cJ cI h1 n1 a1 e1 l1 b1 t1 nx ab en lf bl tr (nI n) rt mt sl) s.heap.size = A at hD ⊢
  have hA : ∀ q : Nat, s.heap.size ≤ q → A q := fun q h => by rw [← hAe]; exact Or.inr h
  have hS : va_S A s.heap s.heap [] := va_S.rf
  have hP : va_P (dC, dI) vwCl (sd_ws cJ cI h1 n1 a1 e1 l1 b1 t1 nx ab en lf bl tr (nI n) rt mt sl) s.heap := hP
  have hl := lv_entry ([.ref h1, .int (nI u)]) (n := 9) (Nat.le_of_ble_eq_true rfl)
  rw [lg_entry_eq]
  generalize (lg_sl ([.ref h1, .int (nI u)]) ++ List.replicate (9 - (lg_sl ([.ref h1, .int (nI u)])).length) Slot.unset).toArray = ls at hl ⊢
  have hl : lv_has ls 9 [(0, .ref h1), (1, .int (nI u))] := hl
  refine lv_iconst (v := nI 0) hx hb d_S_pushAlong_0 (by decide) ?_
  refine lv_istore_n (lv' := [(2, .int (nI 0)), (0, .ref h1), (1, .int (nI u))]) hx hb d_S_pushAlong_1 rfl hl (by decide) rfl (fun ls hl => ?_)
  refine lv_aload_n hx hb d_S_pushAlong_2 rfl (lv_at hl 1 rfl) ?_
  refine va_get (D := (dC, dI)) (ci := 1) (v := .ref n1) (C := "FlowNest$Side") (T := T_S) (N := 10) hx hb hts nm_iS hown hK hP 0 rfl rfl 0 (by decide) (hts _ (List.mem_cons_of_mem _ nm_26)) (fun _ h9 => h9) rfl d_S_pushAlong_3 ?_
  refine lv_iload_n hx hb d_S_pushAlong_6 rfl (lv_at hl 2 rfl) ?_
  refine wl_lald (i := u) hx hb hK hP 1 0 rfl rfl (by omega) (by decide) d_S_pushAlong_7 ?_
  refine lv_lstore_n (lv' := [(3, .long (nx u)), (2, .int (nI 0)), (0, .ref h1), (1, .int (nI u))]) hx hb d_S_pushAlong_8 rfl hl (by decide) rfl (fun ls hl => ?_)
  refine lv_lload_n hx hb d_S_pushAlong_9 rfl (lv_at hl 0 rfl) ?_
  refine lv_iconst (v := -1) hx hb d_S_pushAlong_10 (by decide) ?_
  refine vp_callSi (va_Run.run (va_runSN (As := [.long (nx u), .int (-1)]) (rest := []) ⟨hx, hb, hml, hown, hts⟩ (c_F_following l (nx u) (-1) 0 (by decide) (by decide)) ⟨va_cnB 2 hts (nm_gi nm_c_F_following) rfl rfl rfl (nw_S_67 hNw) (hts _ (List.mem_cons_of_mem _ nm_1)) (by decide +kernel) ⟨Nat.le_of_ble_eq_true rfl, Nat.le_of_ble_eq_true rfl⟩, (hts _ (List.mem_cons_of_mem _ nm_123)), trivial⟩ ⟨fun _ _ _ _ q => ⟨q.1, trivial⟩, fun U hU hW => ⟨rfl, trivial⟩⟩ rfl rfl hl.1 rfl (lv_room (Nat.le_of_ble_eq_true rfl)) d_S_pushAlong_11 ⟨Nat.zero_le _, Nat.zero_le _⟩)) (fun r hr => ?_)
  subst hr
  refine lv_istore (lv' := [(5, .int (nI (bs_fo (nx u) 0))), (3, .long (nx u)), (2, .int (nI 0)), (0, .ref h1), (1, .int (nI u))]) hx hb d_S_pushAlong_14 hl (by decide) rfl (fun ls hl => ?_)
  refine lv_iconst (v := nI 0) hx hb d_S_pushAlong_16 (by decide) ?_
  refine lv_istore (lv' := [(6, .int (nI 0)), (5, .int (nI (bs_fo (nx u) 0))), (3, .long (nx u)), (2, .int (nI 0)), (0, .ref h1), (1, .int (nI u))]) hx hb d_S_pushAlong_17 hl (by decide) rfl (fun ls hl => ?_)
  rw [show ab = dm_pw n (nx u) u ab (bs_fo (nx u) 0) from (dm_pw_0 n (nx u) u ab).symm] at hP hD
  refine wl_loop (σ := Bool × Nat × Nat) (dC, dI) vwCl A 19 9 (fun (x : Bool × Nat × Nat) => match x with | (b, w, step) => [(0, .ref h1), (1, .int (nI u)), (2, .int (bs_i b)), (3, .long (nx u)), (5, .int (nI w)), (6, .int (nI step))]) (fun (x : Bool × Nat × Nat) => match x with | (b, w, step) => sd_ws cJ cI h1 n1 a1 e1 l1 b1 t1 nx (dm_pw n (nx u) u ab w) en lf bl tr (nI n) rt mt sl) (fun (x : Bool × Nat × Nat) => match x with | (b, w, step) => step ≤ w ∧ w ≤ 64 ∧ (w < 64 → bs_t (nx u) w = true) ∧ (b = false → dm_pw n (nx u) u ab w = ab)) (fun (x : Bool × Nat × Nat) => match x with | (b, w, step) => 64 - w) ?_ (false, (bs_fo (nx u) 0), 0) (⟨Nat.zero_le _, bs_fo_le _ _, fun q => (bs_fo_in q).2, fun _ => dm_pw_0 n (nx u) u ab⟩) hP hD hS (lv_sub hl [4, 5, 3, 2, 1, 0] rfl)
  intro x hI ih H locs ls hP hD hS hl
  obtain ⟨b, w, step⟩ := x
  have hI : step ≤ w ∧ w ≤ 64 ∧ (w < 64 → bs_t (nx u) w = true) ∧ (b = false → dm_pw n (nx u) u ab w = ab) := hI
  have hP : va_P (dC, dI) vwCl (sd_ws cJ cI h1 n1 a1 e1 l1 b1 t1 nx (dm_pw n (nx u) u ab w) en lf bl tr (nI n) rt mt sl) H := hP
  have hD : va_D A (sd_ws cJ cI h1 n1 a1 e1 l1 b1 t1 nx (dm_pw n (nx u) u ab w) en lf bl tr (nI n) rt mt sl) := hD
  have hl : lv_has ls 9 [(0, .ref h1), (1, .int (nI u)), (2, .int (bs_i b)), (3, .long (nx u)), (5, .int (nI w)), (6, .int (nI step))] := hl
  have hw64 := hI.2.1
  refine lv_iload hx hb d_S_pushAlong_19 (lv_at hl 5 rfl) ?_
  refine lv_aload_n hx hb d_S_pushAlong_21 rfl (lv_at hl 0 rfl) ?_
  refine va_get (D := (dC, dI)) (ci := 1) (v := .int (nI n)) (C := "FlowNest$Side") (T := T_S) (N := 10) hx hb hts nm_iS hown hK hP 0 rfl rfl 6 (by decide) (hts _ (List.mem_cons_of_mem _ nm_37)) (fun _ h9 => h9) rfl d_S_pushAlong_22 ?_
  refine wl_ige (tgt := 97) hx hb (by omega) (by omega) d_S_pushAlong_25 (by decide) (fun hc25 => ?_) (fun hc25 => ?_)
  · refine lv_iload_n hx hb d_S_pushAlong_97 rfl (lv_at hl 2 rfl) ?_
    have hwn : n ≤ w := by have := hI.1; omega
    rw [dm_pw_n hwn] at hP hD
    exact W.zret (v := bs_i b) hx hb hr (by cases b <;> rfl) (fun t ht hW => ⟨⟨(bs_i b), (), rfl, ⟨b, rfl, fun q => by rw [← dm_pw_n hwn]; exact hI.2.2.2 q⟩, by rw [ht]; exact hP, hD⟩, hS.F ht⟩) hS.2.2 d_S_pushAlong_98
  · refine lv_iload hx hb d_S_pushAlong_28 (lv_at hl 4 rfl) ?_
    refine lv_aload_n hx hb d_S_pushAlong_30 rfl (lv_at hl 0 rfl) ?_
    refine va_get (D := (dC, dI)) (ci := 1) (v := .int (nI n)) (C := "FlowNest$Side") (T := T_S) (N := 10) hx hb hts nm_iS hown hK hP 0 rfl rfl 6 (by decide) (hts _ (List.mem_cons_of_mem _ nm_37)) (fun _ h9 => h9) rfl d_S_pushAlong_31 ?_
    refine wl_ige (tgt := 97) hx hb (by omega) (by omega) d_S_pushAlong_34 (by decide) (fun hc34 => ?_) (fun hc34 => ?_)
    · refine lv_iload_n hx hb d_S_pushAlong_97 rfl (lv_at hl 2 rfl) ?_
      have hwn : n ≤ w := by have := hI.1; omega
      rw [dm_pw_n hwn] at hP hD
      exact W.zret (v := bs_i b) hx hb hr (by cases b <;> rfl) (fun t ht hW => ⟨⟨(bs_i b), (), rfl, ⟨b, rfl, fun q => by rw [← dm_pw_n hwn]; exact hI.2.2.2 q⟩, by rw [ht]; exact hP, hD⟩, hS.F ht⟩) hS.2.2 d_S_pushAlong_98
    · refine lv_aload_n hx hb d_S_pushAlong_37 rfl (lv_at hl 0 rfl) ?_
      refine va_get (D := (dC, dI)) (ci := 1) (v := .ref a1) (C := "FlowNest$Side") (T := T_S) (N := 10) hx hb hts nm_iS hown hK hP 0 rfl rfl 1 (by decide) (hts _ (List.mem_cons_of_mem _ nm_28)) (fun _ h9 => h9) rfl d_S_pushAlong_38 ?_
      refine lv_iload hx hb d_S_pushAlong_41 (lv_at hl 4 rfl) ?_
      refine wl_lald (i := w) hx hb hK hP 2 0 rfl rfl (by omega) (by decide) d_S_pushAlong_43 ?_
      refine lv_aload_n hx hb d_S_pushAlong_44 rfl (lv_at hl 0 rfl) ?_
      refine va_get (D := (dC, dI)) (ci := 1) (v := .ref a1) (C := "FlowNest$Side") (T := T_S) (N := 10) hx hb hts nm_iS hown hK hP 0 rfl rfl 1 (by decide) (hts _ (List.mem_cons_of_mem _ nm_28)) (fun _ h9 => h9) rfl d_S_pushAlong_45 ?_
      refine lv_iload_n hx hb d_S_pushAlong_48 rfl (lv_at hl 1 rfl) ?_
      refine wl_lald (i := u) hx hb hK hP 2 0 rfl rfl (by omega) (by decide) d_S_pushAlong_49 ?_
      refine lv_iload hx hb d_S_pushAlong_50 (lv_at hl 4 rfl) ?_
      refine vp_callSl (va_Run.run (va_runSN (As := [.int (nI w)]) (rest := [.long ((dm_pw n (nx u) u ab w) u), .long ((dm_pw n (nx u) u ab w) w)]) ⟨hx, hb, hml, hown, hts⟩ (c_F_bit l w) ⟨va_cnB 1 hts (nm_gi nm_c_F_bit) rfl rfl rfl (nw_S_52 hNw) (hts _ (List.mem_cons_of_mem _ nm_1)) (by decide +kernel) ⟨Nat.le_of_ble_eq_true rfl, Nat.le_of_ble_eq_true rfl⟩, (hts _ (List.mem_cons_of_mem _ nm_119)), trivial⟩ ⟨fun _ _ _ _ q => ⟨q.1, trivial⟩, fun U hU hW => ⟨rfl, trivial⟩⟩ rfl rfl hl.1 rfl (lv_room (Nat.le_of_ble_eq_true rfl)) d_S_pushAlong_52 ⟨Nat.zero_le _, Nat.zero_le _⟩)) (fun r hr => ?_)
      subst hr
      refine lv_lor hx hb d_S_pushAlong_55 ?_
      refine lv_land hx hb d_S_pushAlong_56 ?_
      rw [dm_pw_w, dm_pw_u]
      refine lv_lstore (lv' := [(7, .long (ab w &&& (ab u ||| bs_b w))), (0, .ref h1), (1, .int (nI u)), (2, .int (bs_i b)), (3, .long (nx u)), (5, .int (nI w)), (6, .int (nI step))]) hx hb d_S_pushAlong_57 hl (by decide) rfl (fun ls hl => ?_)
      refine lv_lload hx hb d_S_pushAlong_59 (lv_at hl 0 rfl) ?_
      refine lv_aload_n hx hb d_S_pushAlong_61 rfl (lv_at hl 1 rfl) ?_
      refine va_get (D := (dC, dI)) (ci := 1) (v := .ref a1) (C := "FlowNest$Side") (T := T_S) (N := 10) hx hb hts nm_iS hown hK hP 0 rfl rfl 1 (by decide) (hts _ (List.mem_cons_of_mem _ nm_28)) (fun _ h9 => h9) rfl d_S_pushAlong_62 ?_
      refine lv_iload hx hb d_S_pushAlong_65 (lv_at hl 5 rfl) ?_
      refine wl_lald (i := w) hx hb hK hP 2 0 rfl rfl (by omega) (by decide) d_S_pushAlong_67 ?_
      rw [show (dm_pw n (nx u) u ab w) w = ab w from dm_pw_w n (nx u) u ab w]
      refine wl_lcmpeq (tgt := 83) hx hb d_S_pushAlong_68 d_S_pushAlong_69 (by decide) (fun hc68 => ?_) (fun hc68 => ?_)
      · refine lv_lload_n hx hb d_S_pushAlong_83 rfl (lv_at hl 4 rfl) ?_
        refine lv_iload hx hb d_S_pushAlong_84 (lv_at hl 5 rfl) ?_
        refine vp_callSi (va_Run.run (va_runSN (As := [.long (nx u), .int (nI w)]) (rest := []) ⟨hx, hb, hml, hown, hts⟩ (c_F_following l (nx u) (nI w) (w + 1) (nI_1 w) (by omega)) ⟨va_cnB 2 hts (nm_gi nm_c_F_following) rfl rfl rfl (nw_S_67 hNw) (hts _ (List.mem_cons_of_mem _ nm_1)) (by decide +kernel) ⟨Nat.le_of_ble_eq_true rfl, Nat.le_of_ble_eq_true rfl⟩, (hts _ (List.mem_cons_of_mem _ nm_123)), trivial⟩ ⟨fun _ _ _ _ q => ⟨q.1, trivial⟩, fun U hU hW => ⟨rfl, trivial⟩⟩ rfl rfl hl.1 rfl (lv_room (Nat.le_of_ble_eq_true rfl)) d_S_pushAlong_86 ⟨Nat.zero_le _, Nat.zero_le _⟩)) (fun r hr => ?_)
        subst hr
        refine lv_istore (lv' := [(5, .int (nI (bs_fo (nx u) (w + 1)))), (7, .long (ab w &&& (ab u ||| bs_b w))), (0, .ref h1), (1, .int (nI u)), (2, .int (bs_i b)), (3, .long (nx u)), (6, .int (nI step))]) hx hb d_S_pushAlong_89 hl (by decide) rfl (fun ls hl => ?_)
        refine lv_iinc (lv' := [(6, .int (nI (step + 1))), (5, .int (nI (bs_fo (nx u) (w + 1)))), (7, .long (ab w &&& (ab u ||| bs_b w))), (0, .ref h1), (1, .int (nI u)), (2, .int (bs_i b)), (3, .long (nx u))]) (k := 6) (v := nI (step + 1)) hx hb d_S_pushAlong_91 hl rfl (nI_1 step) (by decide) rfl (fun ls hl => ?_)
        refine lv_goto (tgt := 19) hx hb d_S_pushAlong_94 (by decide) ?_
        have hbw := hI.2.2.1 (by omega)
        have hge := bs_fo_ge (x := nx u) (k := w + 1) (by omega)
        rw [← dm_pw_k hc34 hbw hc68] at hP hD
        exact ih (b, (bs_fo (nx u) (w + 1)), (step + 1)) (show step + 1 ≤ (bs_fo (nx u) (w + 1)) ∧ (bs_fo (nx u) (w + 1)) ≤ 64 ∧ ((bs_fo (nx u) (w + 1)) < 64 → bs_t (nx u) (bs_fo (nx u) (w + 1)) = true) ∧ (b = false → dm_pw n (nx u) u ab (bs_fo (nx u) (w + 1)) = ab) from ⟨by omega, bs_fo_le _ _, fun q => (bs_fo_in q).2, fun q => by rw [dm_pw_k hc34 hbw hc68]; exact hI.2.2.2 q⟩) (show 64 - (bs_fo (nx u) (w + 1)) < 64 - w by omega) _ _ _ hP hD hS (lv_sub hl [3, 4, 5, 6, 1, 0] rfl)
      · refine lv_aload_n hx hb d_S_pushAlong_72 rfl (lv_at hl 1 rfl) ?_
        refine va_get (D := (dC, dI)) (ci := 1) (v := .ref a1) (C := "FlowNest$Side") (T := T_S) (N := 10) hx hb hts nm_iS hown hK hP 0 rfl rfl 1 (by decide) (hts _ (List.mem_cons_of_mem _ nm_28)) (fun _ h9 => h9) rfl d_S_pushAlong_73 ?_
        refine lv_iload hx hb d_S_pushAlong_76 (lv_at hl 5 rfl) ?_
        refine lv_lload hx hb d_S_pushAlong_78 (lv_at hl 0 rfl) ?_
        refine wl_last (i := w) hx hb hK hP hD hS 2 0 rfl rfl (by omega) (by decide) d_S_pushAlong_80 (fun H locs hP hD hS => ?_)
        have hP : va_P (dC, dI) vwCl (sd_ws cJ cI h1 n1 a1 e1 l1 b1 t1 nx (vp_updL (dm_pw n (nx u) u ab w) w (ab w &&& (ab u ||| bs_b w))) en lf bl tr (nI n) rt mt sl) H := hP
        have hD : va_D A (sd_ws cJ cI h1 n1 a1 e1 l1 b1 t1 nx (vp_updL (dm_pw n (nx u) u ab w) w (ab w &&& (ab u ||| bs_b w))) en lf bl tr (nI n) rt mt sl) := hD
        refine lv_iconst (v := nI 1) hx hb d_S_pushAlong_81 (by decide) ?_
        refine lv_istore_n (lv' := [(2, .int (nI 1)), (7, .long (ab w &&& (ab u ||| bs_b w))), (0, .ref h1), (1, .int (nI u)), (3, .long (nx u)), (5, .int (nI w)), (6, .int (nI step))]) hx hb d_S_pushAlong_82 rfl hl (by decide) rfl (fun ls hl => ?_)
        refine lv_lload_n hx hb d_S_pushAlong_83 rfl (lv_at hl 4 rfl) ?_
        refine lv_iload hx hb d_S_pushAlong_84 (lv_at hl 5 rfl) ?_
        refine vp_callSi (va_Run.run (va_runSN (As := [.long (nx u), .int (nI w)]) (rest := []) ⟨hx, hb, hml, hown, hts⟩ (c_F_following l (nx u) (nI w) (w + 1) (nI_1 w) (by omega)) ⟨va_cnB 2 hts (nm_gi nm_c_F_following) rfl rfl rfl (nw_S_67 hNw) (hts _ (List.mem_cons_of_mem _ nm_1)) (by decide +kernel) ⟨Nat.le_of_ble_eq_true rfl, Nat.le_of_ble_eq_true rfl⟩, (hts _ (List.mem_cons_of_mem _ nm_123)), trivial⟩ ⟨fun _ _ _ _ q => ⟨q.1, trivial⟩, fun U hU hW => ⟨rfl, trivial⟩⟩ rfl rfl hl.1 rfl (lv_room (Nat.le_of_ble_eq_true rfl)) d_S_pushAlong_86 ⟨Nat.zero_le _, Nat.zero_le _⟩)) (fun r hr => ?_)
        subst hr
        refine lv_istore (lv' := [(5, .int (nI (bs_fo (nx u) (w + 1)))), (2, .int (nI 1)), (7, .long (ab w &&& (ab u ||| bs_b w))), (0, .ref h1), (1, .int (nI u)), (3, .long (nx u)), (6, .int (nI step))]) hx hb d_S_pushAlong_89 hl (by decide) rfl (fun ls hl => ?_)
        refine lv_iinc (lv' := [(6, .int (nI (step + 1))), (5, .int (nI (bs_fo (nx u) (w + 1)))), (2, .int (nI 1)), (7, .long (ab w &&& (ab u ||| bs_b w))), (0, .ref h1), (1, .int (nI u)), (3, .long (nx u))]) (k := 6) (v := nI (step + 1)) hx hb d_S_pushAlong_91 hl rfl (nI_1 step) (by decide) rfl (fun ls hl => ?_)
        refine lv_goto (tgt := 19) hx hb d_S_pushAlong_94 (by decide) ?_
        have hbw := hI.2.2.1 (by omega)
        have hge := bs_fo_ge (x := nx u) (k := w + 1) (by omega)
        rw [← dm_pw_s hc34 hbw] at hP hD
        exact ih (true, (bs_fo (nx u) (w + 1)), (step + 1)) (show step + 1 ≤ (bs_fo (nx u) (w + 1)) ∧ (bs_fo (nx u) (w + 1)) ≤ 64 ∧ ((bs_fo (nx u) (w + 1)) < 64 → bs_t (nx u) (bs_fo (nx u) (w + 1)) = true) ∧ (true = false → dm_pw n (nx u) u ab (bs_fo (nx u) (w + 1)) = ab) from ⟨by omega, bs_fo_le _ _, fun q => (bs_fo_in q).2, fun q => by cases q⟩) (show 64 - (bs_fo (nx u) (w + 1)) < 64 - w by omega) _ _ _ hP hD hS (lv_sub hl [4, 5, 2, 6, 1, 0] rfl)
set_option maxHeartbeats 4000000 in
set_option maxRecDepth 100000 in
theorem c_S_dominate (l : Launch) (dC : Nat → ClassId) (dI : Nat → Nat → Nat) (cJ cI : ClassId) (h1 n1 a1 e1 l1 b1 t1 hs : Nat) (nx : Nat → Int64) (ab : Nat → Int64) (en : Nat → Int32) (lf : Nat → Int32) (bl : Nat → Int32) (tr : Nat → Int32) (mt : Int64) (sl : Int32) (n r : Nat) (hn : n ≤ 48) (hr9 : r < n) (hL : ∀ u v, gf_E n nx u v → v < n) (hmet : ∀ v, bs_t mt v = true ↔ gf_R (gf_E n nx) r v) (hbl : sd_bl n nx r (bs_c mt) bl lf) : Met l y_S_dominate w_S_dominate ({ frames := 3, cells := 0, slots := 0, locals := 73 }) (va_Pc [.ref h1] (cw_M (dC, dI) cJ cI (sd_ws cJ cI h1 n1 a1 e1 l1 b1 t1 nx ab en lf bl tr (nI n) (nI r) mt sl) hs)) (va_Qv (fun (ab9 : Nat → Int64) => cl_ok n nx r ab9) (fun (ab9 : Nat → Int64) (t : State) => va_P (dC, dI) vwCl (sd_ws cJ cI h1 n1 a1 e1 l1 b1 t1 nx ab9 en lf bl tr (nI n) (nI r) mt sl) t.heap ∧ va_D (va_A (sd_ws cJ cI h1 n1 a1 e1 l1 b1 t1 nx ab en lf bl tr (nI n) (nI r) mt sl) hs) (sd_ws cJ cI h1 n1 a1 e1 l1 b1 t1 nx ab9 en lf bl tr (nI n) (nI r) mt sl)) (va_A (sd_ws cJ cI h1 n1 a1 e1 l1 b1 t1 nx ab en lf bl tr (nI n) (nI r) mt sl) hs)) 0 0 (va_A (sd_ws cJ cI h1 n1 a1 e1 l1 b1 t1 nx ab en lf bl tr (nI n) (nI r) mt sl) hs) := by
  refine Met.ofW (cc := b_S_dominate) (maxL := 4) (ret := none) (by decide) rfl ?_
  intro p e s m args below meth c s₁ B hml hv9
  obtain ⟨rfl, hsz, ⟨hP, hK, hNw⟩, hD0⟩ := hv9
  have hx := B.exec
  have hb := B.bytes
  have hr := B.returns
  have hts := atoms_spec (ws := w_S_dominate) B.pre
  have hown : s.vm.findClass "FlowNest$Side" = some m.cls := findClass_of_methodNamed B.named
  have hlocks := B.notSynchronized
  subst hsz
  have hD := hD0.self (sz := s.heap.size)
  generalize hAe : va_A (sd_ws cJ cI h1 n1 a1 e1 l1 b1 t1 nx ab en lf bl tr (nI n) (nI r) mt sl) s.heap.size = A at hD ⊢
  have hA : ∀ q : Nat, s.heap.size ≤ q → A q := fun q h => by rw [← hAe]; exact Or.inr h
  have hS : va_S A s.heap s.heap [] := va_S.rf
  have hP : va_P (dC, dI) vwCl (sd_ws cJ cI h1 n1 a1 e1 l1 b1 t1 nx ab en lf bl tr (nI n) (nI r) mt sl) s.heap := hP
  have hl := lv_entry ([.ref h1]) (n := 4) (Nat.le_of_ble_eq_true rfl)
  rw [lg_entry_eq]
  generalize (lg_sl ([.ref h1]) ++ List.replicate (4 - (lg_sl ([.ref h1])).length) Slot.unset).toArray = ls at hl ⊢
  have hl : lv_has ls 4 [(0, .ref h1)] := hl
  refine lv_iconst (v := nI 0) hx hb d_S_dominate_0 (by decide) ?_
  refine lv_istore_n (lv' := [(1, .int (nI 0)), (0, .ref h1)]) hx hb d_S_dominate_1 rfl hl (by decide) rfl (fun ls hl => ?_)
  rw [show ab = di_c ab mt 0 from di_0 ab mt] at hP hD
  refine wl_loop (σ := Nat) (dC, dI) vwCl A 2 4 (fun (v : Nat) => [(0, .ref h1), (1, .int (nI v))]) (fun (v : Nat) => sd_ws cJ cI h1 n1 a1 e1 l1 b1 t1 nx (di_c ab mt v) en lf bl tr (nI n) (nI r) mt sl) (fun (v : Nat) => v ≤ n) (fun (v : Nat) => n - v) ?_ 0 (Nat.zero_le n) hP hD hS (lv_sub hl [1, 0] rfl)
  intro v hI ih H locs ls hP hD hS hl
  have hI : v ≤ n := hI
  have hP : va_P (dC, dI) vwCl (sd_ws cJ cI h1 n1 a1 e1 l1 b1 t1 nx (di_c ab mt v) en lf bl tr (nI n) (nI r) mt sl) H := hP
  have hD : va_D A (sd_ws cJ cI h1 n1 a1 e1 l1 b1 t1 nx (di_c ab mt v) en lf bl tr (nI n) (nI r) mt sl) := hD
  have hl : lv_has ls 4 [(0, .ref h1), (1, .int (nI v))] := hl
  refine lv_iload_n hx hb d_S_dominate_2 rfl (lv_at hl 1 rfl) ?_
  refine lv_aload_n hx hb d_S_dominate_3 rfl (lv_at hl 0 rfl) ?_
  refine va_get (D := (dC, dI)) (ci := 1) (v := .int (nI n)) (C := "FlowNest$Side") (T := T_S) (N := 10) hx hb hts nm_iS hown hK hP 0 rfl rfl 6 (by decide) (hts _ (List.mem_cons_of_mem _ nm_37)) (fun _ h9 => h9) rfl d_S_dominate_4 ?_
  refine wl_ige (tgt := 41) hx hb (by omega) (by omega) d_S_dominate_7 (by decide) (fun hc7 => ?_) (fun hc7 => ?_)
  · refine lv_aload_n hx hb d_S_dominate_41 rfl (lv_at hl 0 rfl) ?_
    refine va_get (D := (dC, dI)) (ci := 1) (v := .ref a1) (C := "FlowNest$Side") (T := T_S) (N := 10) hx hb hts nm_iS hown hK hP 0 rfl rfl 1 (by decide) (hts _ (List.mem_cons_of_mem _ nm_28)) (fun _ h9 => h9) rfl d_S_dominate_42 ?_
    refine lv_aload_n hx hb d_S_dominate_45 rfl (lv_at hl 0 rfl) ?_
    refine va_get (D := (dC, dI)) (ci := 1) (v := .int (nI r)) (C := "FlowNest$Side") (T := T_S) (N := 10) hx hb hts nm_iS hown hK hP 0 rfl rfl 7 (by decide) (hts _ (List.mem_cons_of_mem _ nm_39)) (fun _ h9 => h9) rfl d_S_dominate_46 ?_
    refine lv_aload_n hx hb d_S_dominate_49 rfl (lv_at hl 0 rfl) ?_
    refine va_get (D := (dC, dI)) (ci := 1) (v := .int (nI r)) (C := "FlowNest$Side") (T := T_S) (N := 10) hx hb hts nm_iS hown hK hP 0 rfl rfl 7 (by decide) (hts _ (List.mem_cons_of_mem _ nm_39)) (fun _ h9 => h9) rfl d_S_dominate_50 ?_
    refine vp_callSl (va_Run.run (va_runSN (As := [.int (nI r)]) (rest := [.int (nI r), .ref a1]) ⟨hx, hb, hml, hown, hts⟩ (c_F_bit l r) ⟨va_cnB 1 hts (nm_gi nm_c_F_bit) rfl rfl rfl (nw_S_52 hNw) (hts _ (List.mem_cons_of_mem _ nm_1)) (by decide +kernel) ⟨Nat.le_of_ble_eq_true rfl, Nat.le_of_ble_eq_true rfl⟩, (hts _ (List.mem_cons_of_mem _ nm_119)), trivial⟩ ⟨fun _ _ _ _ q => ⟨q.1, trivial⟩, fun U hU hW => ⟨rfl, trivial⟩⟩ rfl rfl hl.1 rfl (lv_room (Nat.le_of_ble_eq_true rfl)) d_S_dominate_53 ⟨Nat.zero_le _, Nat.zero_le _⟩)) (fun r hr => ?_)
    subst hr
    refine wl_last (i := r) hx hb hK hP hD hS 2 0 rfl rfl (by omega) (by decide) d_S_dominate_56 (fun H locs hP hD hS => ?_)
    have hP : va_P (dC, dI) vwCl (sd_ws cJ cI h1 n1 a1 e1 l1 b1 t1 nx (vp_updL (di_c ab mt v) r (bs_b r)) en lf bl tr (nI n) (nI r) mt sl) H := hP
    have hD : va_D A (sd_ws cJ cI h1 n1 a1 e1 l1 b1 t1 nx (vp_updL (di_c ab mt v) r (bs_b r)) en lf bl tr (nI n) (nI r) mt sl) := hD
    rw [show v = n by omega] at hP hD
    have hJ : dm_J n nx r (vp_updL (di_c ab mt n) r (bs_b r)) := dm_J0 (by omega) hr9 hL hmet (fun x hx hne => by rw [pk_uLn hne]; exact if_pos hx) pk_uLs
    generalize vp_updL (di_c ab mt n) r (bs_b r) = ab0 at hP hD hJ
    clear hI ih
    refine lv_iconst (v := nI 1) hx hb d_S_dominate_57 (by decide) ?_
    refine lv_istore_n (lv' := [(1, .int (nI 1)), (0, .ref h1)]) hx hb d_S_dominate_58 rfl hl (by decide) rfl (fun ls hl => ?_)
    refine lv_iconst (v := nI 0) hx hb d_S_dominate_59 (by decide) ?_
    refine lv_istore_n (lv' := [(2, .int (nI 0)), (1, .int (nI 1)), (0, .ref h1)]) hx hb d_S_dominate_60 rfl hl (by decide) rfl (fun ls hl => ?_)
    refine wl_loop (σ := Bool × (Nat → Int64) × Nat) (dC, dI) vwCl A 61 4 (fun (x : Bool × (Nat → Int64) × Nat) => match x with | (b, ab1, k) => [(0, .ref h1), (1, .int (bs_i b)), (2, .int (nI k))]) (fun (x : Bool × (Nat → Int64) × Nat) => match x with | (b, ab1, k) => sd_ws cJ cI h1 n1 a1 e1 l1 b1 t1 nx ab1 en lf bl tr (nI n) (nI r) mt sl) (fun (x : Bool × (Nat → Int64) × Nat) => match x with | (b, ab1, k) => k ≤ n ∧ dm_J n nx r ab1 ∧ dm_T n nx r ab1 k ∧ (b = false → dm_M n nx ab1 ab1 (fun u => u < n ∧ gf_R (gf_E n nx) r u))) (fun (x : Bool × (Nat → Int64) × Nat) => match x with | (b, ab1, k) => n - k) ?_ (true, ab0, 0) (⟨Nat.zero_le n, hJ, dm_T0 hJ, fun q => by cases q⟩) hP hD hS (lv_sub hl [2, 1, 0] rfl)
    intro x hI ih H locs ls hP hD hS hl
    obtain ⟨b, ab1, k⟩ := x
    have hI : k ≤ n ∧ dm_J n nx r ab1 ∧ dm_T n nx r ab1 k ∧ (b = false → dm_M n nx ab1 ab1 (fun u => u < n ∧ gf_R (gf_E n nx) r u)) := hI
    have hP : va_P (dC, dI) vwCl (sd_ws cJ cI h1 n1 a1 e1 l1 b1 t1 nx ab1 en lf bl tr (nI n) (nI r) mt sl) H := hP
    have hD : va_D A (sd_ws cJ cI h1 n1 a1 e1 l1 b1 t1 nx ab1 en lf bl tr (nI n) (nI r) mt sl) := hD
    have hl : lv_has ls 4 [(0, .ref h1), (1, .int (bs_i b)), (2, .int (nI k))] := hl
    have hJ2 := hI
    have ih2 := ih
    refine lv_iload_n hx hb d_S_dominate_61 rfl (lv_at hl 2 rfl) ?_
    refine lv_aload_n hx hb d_S_dominate_62 rfl (lv_at hl 0 rfl) ?_
    refine va_get (D := (dC, dI)) (ci := 1) (v := .int (nI n)) (C := "FlowNest$Side") (T := T_S) (N := 10) hx hb hts nm_iS hown hK hP 0 rfl rfl 6 (by decide) (hts _ (List.mem_cons_of_mem _ nm_37)) (fun _ h9 => h9) rfl d_S_dominate_63 ?_
    refine wl_ige (tgt := 116) hx hb (by omega) (by omega) d_S_dominate_66 (by decide) (fun hc66 => ?_) (fun hc66 => ?_)
    · exact W.vret hx hb hr (fun t ht hW => ⟨⟨ab1, rfl, dm_done (by omega) hr9 hL hI.2.1 (Or.inl (by have h9 := hI.2.2.1; rw [show k = n by omega] at h9; exact h9)), by rw [ht]; exact hP, hD⟩, hS.F ht⟩) hS.2.2 d_S_dominate_116
    · refine lv_iload_n hx hb d_S_dominate_69 rfl (lv_at hl 1 rfl) ?_
      refine wl_ifeqb (tgt := 116) hx hb d_S_dominate_70 (by decide) (fun hc70 => ?_) (fun hc70 => ?_)
      · exact W.vret hx hb hr (fun t ht hW => ⟨⟨ab1, rfl, dm_done (by omega) hr9 hL hI.2.1 (Or.inr (hI.2.2.2 hc70)), by rw [ht]; exact hP, hD⟩, hS.F ht⟩) hS.2.2 d_S_dominate_116
      · refine lv_iconst (v := nI 0) hx hb d_S_dominate_73 (by decide) ?_
        refine lv_istore_n (lv' := [(1, .int (nI 0)), (0, .ref h1), (2, .int (nI k))]) hx hb d_S_dominate_74 rfl hl (by decide) rfl (fun ls hl => ?_)
        refine lv_aload_n hx hb d_S_dominate_75 rfl (lv_at hl 1 rfl) ?_
        refine va_get (D := (dC, dI)) (ci := 1) (v := .long mt) (C := "FlowNest$Side") (T := T_S) (N := 10) hx hb hts nm_iS hown hK hP 0 rfl rfl 8 (by decide) (hts _ (List.mem_cons_of_mem _ nm_41)) (fun _ h9 => h9) rfl d_S_dominate_76 ?_
        refine vp_callSi (va_Run.run (va_runS (As := [.long mt]) (rest := []) ⟨hx, hb, hml, hown, hts⟩ (c_B_bitCount l mt) (va_cwS 1 hts (nm_gS nm_140 nm_127 nm_11 nm_c_B_bitCount) rfl rfl rfl (by decide +kernel) ⟨Nat.le_of_ble_eq_true rfl, Nat.le_of_ble_eq_true rfl⟩) ⟨fun _ _ _ _ q => ⟨q.1, trivial⟩, fun U hU hW => ⟨rfl, trivial⟩⟩ rfl rfl hl.1 rfl (lv_room (Nat.le_of_ble_eq_true rfl)) d_S_dominate_79 ⟨Nat.zero_le _, Nat.zero_le _⟩)) (fun r hr => ?_)
        subst hr
        refine lv_iconst (v := nI 1) hx hb d_S_dominate_82 (by decide) ?_
        refine lv_isub hx hb d_S_dominate_83 ?_
        refine lv_istore_n (lv' := [(3, .int ((nI (bs_c mt)) - (nI 1))), (1, .int (nI 0)), (0, .ref h1), (2, .int (nI k))]) hx hb d_S_dominate_84 rfl hl (by decide) rfl (fun ls hl => ?_)
        refine wl_loop (σ := Bool × (Nat → Int64) × Nat) (dC, dI) vwCl A 85 4 (fun (x : Bool × (Nat → Int64) × Nat) => match x with | (c9, ab2, j) => [(0, .ref h1), (1, .int (bs_i c9)), (2, .int (nI k)), (3, .int (nI j - nI 1))]) (fun (x : Bool × (Nat → Int64) × Nat) => match x with | (c9, ab2, j) => sd_ws cJ cI h1 n1 a1 e1 l1 b1 t1 nx ab2 en lf bl tr (nI n) (nI r) mt sl) (fun (x : Bool × (Nat → Int64) × Nat) => match x with | (c9, ab2, j) => j ≤ bs_c mt ∧ dm_J n nx r ab2 ∧ dm_M n nx ab1 ab2 (fun u7 => ∃ i7, j ≤ i7 ∧ i7 < bs_c mt ∧ bl i7 = nI u7 ∧ u7 < n) ∧ (c9 = false → ab2 = ab1)) (fun (x : Bool × (Nat → Int64) × Nat) => match x with | (c9, ab2, j) => j) ?_ (false, ab1, (bs_c mt)) (⟨Nat.le_refl _, hJ2.2.1, ⟨fun _ _ _ h => h, fun u w x hu => by obtain ⟨i, q1, q2, -⟩ := hu; omega⟩, fun _ => rfl⟩) hP hD hS (lv_sub hl [2, 1, 3, 0] rfl)
        intro x hI ih H locs ls hP hD hS hl
        obtain ⟨c9, ab2, j⟩ := x
        have hI : j ≤ bs_c mt ∧ dm_J n nx r ab2 ∧ dm_M n nx ab1 ab2 (fun u7 => ∃ i7, j ≤ i7 ∧ i7 < bs_c mt ∧ bl i7 = nI u7 ∧ u7 < n) ∧ (c9 = false → ab2 = ab1) := hI
        have hP : va_P (dC, dI) vwCl (sd_ws cJ cI h1 n1 a1 e1 l1 b1 t1 nx ab2 en lf bl tr (nI n) (nI r) mt sl) H := hP
        have hD : va_D A (sd_ws cJ cI h1 n1 a1 e1 l1 b1 t1 nx ab2 en lf bl tr (nI n) (nI r) mt sl) := hD
        have hl : lv_has ls 4 [(0, .ref h1), (1, .int (bs_i c9)), (2, .int (nI k)), (3, .int (nI j - nI 1))] := hl
        have hcn := hbl.1
        refine lv_iload_n hx hb d_S_dominate_85 rfl (lv_at hl 3 rfl) ?_
        refine lv_if_lt (tgt := 110) hx hb d_S_dominate_86 (by decide) (fun hc86 => ?_) (fun hc86 => ?_)
        · have hJ3 := hI
          refine lv_iinc (lv' := [(2, .int (nI (k + 1))), (0, .ref h1), (1, .int (bs_i c9)), (3, .int (nI j - nI 1))]) (k := 2) (v := nI (k + 1)) hx hb d_S_dominate_110 hl rfl (nI_1 k) (by decide) rfl (fun ls hl => ?_)
          refine lv_goto (tgt := 61) hx hb d_S_dominate_113 (by decide) ?_
          have hj0 := km_lt (by omega) hc86
          have hMf : dm_M n nx ab1 ab2 (fun u => u < n ∧ gf_R (gf_E n nx) r u) := ⟨hJ3.2.2.1.1, fun u w x hu hw he hx => hJ3.2.2.1.2 u w x (by obtain ⟨i, q1, q2, q3⟩ := hbl.2.2 u hu.2; exact ⟨i, by omega, q1, q2, hu.1⟩) hw he hx⟩
          exact ih2 (c9, ab2, (k + 1)) (show k + 1 ≤ n ∧ dm_J n nx r ab2 ∧ dm_T n nx r ab2 (k + 1) ∧ (c9 = false → dm_M n nx ab2 ab2 (fun u => u < n ∧ gf_R (gf_E n nx) r u)) from ⟨by omega, hJ3.2.1, dm_Ts hr9 hL hJ2.2.2.1 hMf, fun q => by have e := hJ3.2.2.2 q; rw [← e] at hMf; exact hMf⟩) (show n - (k + 1) < n - k by omega) _ _ _ hP hD hS (lv_sub hl [1, 2, 0] rfl)
        · obtain ⟨i, rfl⟩ := km_ge hc86
          have hJ3 := hI
          rw [show nI (i + 1) - nI 1 = nI i from nI_pred i] at hl
          obtain ⟨u, hu1, hu2, hu3, hu4⟩ := hbl.2.1 i (by omega)
          refine lv_aload_n hx hb d_S_dominate_89 rfl (lv_at hl 0 rfl) ?_
          refine lv_aload_n hx hb d_S_dominate_90 rfl (lv_at hl 0 rfl) ?_
          refine va_get (D := (dC, dI)) (ci := 1) (v := .ref b1) (C := "FlowNest$Side") (T := T_S) (N := 10) hx hb hts nm_iS hown hK hP 0 rfl rfl 4 (by decide) (hts _ (List.mem_cons_of_mem _ nm_35)) (fun _ h9 => h9) rfl d_S_dominate_91 ?_
          refine lv_iload_n hx hb d_S_dominate_94 rfl (lv_at hl 3 rfl) ?_
          refine wl_iald (i := i) hx hb hK hP 5 1 rfl rfl (by omega) (by decide) d_S_dominate_95 ?_
          rw [show bl i = nI u from hu2]
          have hPc := hP.sub (ws' := sd_ws cJ cI h1 n1 a1 e1 l1 b1 t1 nx ab2 en lf bl tr (nI n) (nI r) mt sl) [0, 1, 2, 3, 4, 5, 6] rfl
          have hDc := hD.sub (ws' := sd_ws cJ cI h1 n1 a1 e1 l1 b1 t1 nx ab2 en lf bl tr (nI n) (nI r) mt sl) [0, 1, 2, 3, 4, 5, 6] (by decide) rfl
          have hFc := va_free (wc := sd_ws cJ cI h1 n1 a1 e1 l1 b1 t1 nx ab2 en lf bl tr (nI n) (nI r) mt sl) hD hS hA [0, 1, 2, 3, 4, 5, 6] rfl
          refine va_calli (va_runV (C := "FlowNest$Side") (b := h1) (As := [.int (nI u)]) (rest := []) ⟨hx, hb, hml, hown, hts⟩ (c_S_pushAlong l dC dI cJ cI h1 n1 a1 e1 l1 b1 t1 H.size nx ab2 en lf bl tr (nI r) mt sl n u hn (by omega)) (cwV 1 hts (nm_gV nm_141 nm_143 nm_s_S_pushAlong nm_2 nm_c_S_pushAlong) rfl rfl rfl (by decide +kernel) ⟨Nat.le_of_ble_eq_true rfl, Nat.le_of_ble_eq_true rfl⟩) ⟨cw_blindM, va_recv hK hP (ci := 1) rfl (q0 := 0) rfl, cw_preM hPc hDc hK hNw⟩ rfl rfl hl.1 rfl (lv_room (Nat.le_of_ble_eq_true rfl)) d_S_dominate_96 ⟨Nat.zero_le _, Nat.zero_le _⟩) hS (fun q _ h => hFc q h) hFc (fun r1 u9 t H1 locs ht hvm hw2 hB hz1 hk1 hS => ?_)
          obtain ⟨hP1, hD1⟩ := hB
          rw [ht] at hP1
          obtain ⟨hP, hD⟩ := va_join (wr := ([] : List Nat).filterMap (fun (i : Nat) => (sd_ws cJ cI h1 n1 a1 e1 l1 b1 t1 nx ab2 en lf bl tr (nI n) (nI r) mt sl)[i]?)) (w1 := sd_ws cJ cI h1 n1 a1 e1 l1 b1 t1 nx (dm_pu n (nx u) u ab2) en lf bl tr (nI n) (nI r) mt sl) hP hD [0, 1, 2, 3, 4, 5, 6] [] rfl rfl (by decide) (by decide) hk1 hFc hP1 hD1
          generalize H1 = H at hP hS ⊢
          have hP : va_P (dC, dI) vwCl (sd_ws cJ cI h1 n1 a1 e1 l1 b1 t1 nx (dm_pu n (nx u) u ab2) en lf bl tr (nI n) (nI r) mt sl) H := hP.sub (ws' := sd_ws cJ cI h1 n1 a1 e1 l1 b1 t1 nx (dm_pu n (nx u) u ab2) en lf bl tr (nI n) (nI r) mt sl) [0, 1, 2, 3, 4, 5, 6] rfl
          have hD : va_D A (sd_ws cJ cI h1 n1 a1 e1 l1 b1 t1 nx (dm_pu n (nx u) u ab2) en lf bl tr (nI n) (nI r) mt sl) := hD.sub (ws' := sd_ws cJ cI h1 n1 a1 e1 l1 b1 t1 nx (dm_pu n (nx u) u ab2) en lf bl tr (nI n) (nI r) mt sl) [0, 1, 2, 3, 4, 5, 6] (by decide) rfl
          obtain ⟨b2, rfl, hb2⟩ := hw2
          refine wl_ifeqb (tgt := 104) hx hb d_S_dominate_99 (by decide) (fun hc99 => ?_) (fun hc99 => ?_)
          · refine lv_iinc (lv' := [(3, .int (nI i - nI 1)), (0, .ref h1), (1, .int (bs_i c9)), (2, .int (nI k))]) (k := 3) (v := nI i - nI 1) hx hb d_S_dominate_104 hl rfl (km_dec i) (by decide) rfl (fun ls hl => ?_)
            refine lv_goto (tgt := 85) hx hb d_S_dominate_107 (by decide) ?_
            have hM3 : dm_M n nx ab1 (dm_pu n (nx u) u ab2) (fun u7 => ∃ i7, i ≤ i7 ∧ i7 < bs_c mt ∧ bl i7 = nI u7 ∧ u7 < n) := dm_Mpu (by omega) hu1 hJ3.2.2.1 (fun z hz => by
                  obtain ⟨i2, q1, q2, q3, q4⟩ := hz
                  by_cases e : i2 = i
                  · left; subst e; rw [hu2] at q3; exact ((nI_eq (by omega) (by omega)).mp q3).symm
                  · exact Or.inr ⟨i2, by omega, q2, q3, q4⟩)
            exact ih (c9, (dm_pu n (nx u) u ab2), i) (show i ≤ bs_c mt ∧ dm_J n nx r (dm_pu n (nx u) u ab2) ∧ dm_M n nx ab1 (dm_pu n (nx u) u ab2) (fun u7 => ∃ i7, i ≤ i7 ∧ i7 < bs_c mt ∧ bl i7 = nI u7 ∧ u7 < n) ∧ (c9 = false → (dm_pu n (nx u) u ab2) = ab1) from ⟨by omega, dm_Jpu (by omega) hu1 hu4 hJ3.2.1, hM3, fun q => by rw [hb2 hc99]; exact hJ3.2.2.2 q⟩) (show i < i + 1 by omega) _ _ _ hP hD hS (lv_sub hl [1, 2, 3, 0] rfl)
          · refine lv_iconst (v := nI 1) hx hb d_S_dominate_102 (by decide) ?_
            refine lv_istore_n (lv' := [(1, .int (nI 1)), (0, .ref h1), (2, .int (nI k)), (3, .int (nI i))]) hx hb d_S_dominate_103 rfl hl (by decide) rfl (fun ls hl => ?_)
            refine lv_iinc (lv' := [(3, .int (nI i - nI 1)), (1, .int (nI 1)), (0, .ref h1), (2, .int (nI k))]) (k := 3) (v := nI i - nI 1) hx hb d_S_dominate_104 hl rfl (km_dec i) (by decide) rfl (fun ls hl => ?_)
            refine lv_goto (tgt := 85) hx hb d_S_dominate_107 (by decide) ?_
            have hM3 : dm_M n nx ab1 (dm_pu n (nx u) u ab2) (fun u7 => ∃ i7, i ≤ i7 ∧ i7 < bs_c mt ∧ bl i7 = nI u7 ∧ u7 < n) := dm_Mpu (by omega) hu1 hJ3.2.2.1 (fun z hz => by
                  obtain ⟨i2, q1, q2, q3, q4⟩ := hz
                  by_cases e : i2 = i
                  · left; subst e; rw [hu2] at q3; exact ((nI_eq (by omega) (by omega)).mp q3).symm
                  · exact Or.inr ⟨i2, by omega, q2, q3, q4⟩)
            exact ih (true, (dm_pu n (nx u) u ab2), i) (show i ≤ bs_c mt ∧ dm_J n nx r (dm_pu n (nx u) u ab2) ∧ dm_M n nx ab1 (dm_pu n (nx u) u ab2) (fun u7 => ∃ i7, i ≤ i7 ∧ i7 < bs_c mt ∧ bl i7 = nI u7 ∧ u7 < n) ∧ (true = false → (dm_pu n (nx u) u ab2) = ab1) from ⟨by omega, dm_Jpu (by omega) hu1 hu4 hJ3.2.1, hM3, fun q => by cases q⟩) (show i < i + 1 by omega) _ _ _ hP hD hS (lv_sub hl [2, 1, 3, 0] rfl)
  · refine lv_aload_n hx hb d_S_dominate_10 rfl (lv_at hl 0 rfl) ?_
    refine va_get (D := (dC, dI)) (ci := 1) (v := .ref a1) (C := "FlowNest$Side") (T := T_S) (N := 10) hx hb hts nm_iS hown hK hP 0 rfl rfl 1 (by decide) (hts _ (List.mem_cons_of_mem _ nm_28)) (fun _ h9 => h9) rfl d_S_dominate_11 ?_
    refine lv_iload_n hx hb d_S_dominate_14 rfl (lv_at hl 1 rfl) ?_
    refine lv_aload_n hx hb d_S_dominate_15 rfl (lv_at hl 0 rfl) ?_
    refine va_get (D := (dC, dI)) (ci := 1) (v := .long mt) (C := "FlowNest$Side") (T := T_S) (N := 10) hx hb hts nm_iS hown hK hP 0 rfl rfl 8 (by decide) (hts _ (List.mem_cons_of_mem _ nm_41)) (fun _ h9 => h9) rfl d_S_dominate_16 ?_
    refine lv_iload_n hx hb d_S_dominate_19 rfl (lv_at hl 1 rfl) ?_
    refine vp_callSi (va_Run.run (va_runSN (As := [.long mt, .int (nI v)]) (rest := [.int (nI v), .ref a1]) ⟨hx, hb, hml, hown, hts⟩ (c_F_has l mt v (by omega)) ⟨va_cnB 2 hts (nm_gi nm_c_F_has) rfl rfl rfl (nw_S_71 hNw) (hts _ (List.mem_cons_of_mem _ nm_1)) (by decide +kernel) ⟨Nat.le_of_ble_eq_true rfl, Nat.le_of_ble_eq_true rfl⟩, (hts _ (List.mem_cons_of_mem _ nm_137)), trivial⟩ ⟨fun _ _ _ _ q => ⟨q.1, trivial⟩, fun U hU hW => ⟨rfl, trivial⟩⟩ rfl rfl hl.1 rfl (lv_room (Nat.le_of_ble_eq_true rfl)) d_S_dominate_20 ⟨Nat.zero_le _, Nat.zero_le _⟩)) (fun r hr => ?_)
    subst hr
    refine wl_ifeqb (tgt := 33) hx hb d_S_dominate_23 (by decide) (fun hc23 => ?_) (fun hc23 => ?_)
    · refine lv_lconst (v := 0) hx hb d_S_dominate_33 (by decide) ?_
      refine wl_last (i := v) hx hb hK hP hD hS 2 0 rfl rfl (by omega) (by decide) d_S_dominate_34 (fun H locs hP hD hS => ?_)
      have hP : va_P (dC, dI) vwCl (sd_ws cJ cI h1 n1 a1 e1 l1 b1 t1 nx (vp_updL (di_c ab mt v) v 0) en lf bl tr (nI n) (nI r) mt sl) H := hP
      have hD : va_D A (sd_ws cJ cI h1 n1 a1 e1 l1 b1 t1 nx (vp_updL (di_c ab mt v) v 0) en lf bl tr (nI n) (nI r) mt sl) := hD
      refine lv_iinc (lv' := [(1, .int (nI (v + 1))), (0, .ref h1)]) (k := 1) (v := nI (v + 1)) hx hb d_S_dominate_35 hl rfl (nI_1 v) (by decide) rfl (fun ls hl => ?_)
      refine lv_goto (tgt := 2) hx hb d_S_dominate_38 (by decide) ?_
      rw [di_s ab mt v (if_neg (Bool.eq_false_iff.mp hc23)).symm] at hP hD
      exact ih (v + 1) (show v + 1 ≤ n by omega) (show n - (v + 1) < n - v by omega) _ _ _ hP hD hS (lv_sub hl [1, 0] rfl)
    · refine lv_aload_n hx hb d_S_dominate_26 rfl (lv_at hl 0 rfl) ?_
      refine va_get (D := (dC, dI)) (ci := 1) (v := .long mt) (C := "FlowNest$Side") (T := T_S) (N := 10) hx hb hts nm_iS hown hK hP 0 rfl rfl 8 (by decide) (hts _ (List.mem_cons_of_mem _ nm_41)) (fun _ h9 => h9) rfl d_S_dominate_27 ?_
      refine lv_goto (tgt := 34) hx hb d_S_dominate_30 (by decide) ?_
      refine wl_last (i := v) hx hb hK hP hD hS 2 0 rfl rfl (by omega) (by decide) d_S_dominate_34 (fun H locs hP hD hS => ?_)
      have hP : va_P (dC, dI) vwCl (sd_ws cJ cI h1 n1 a1 e1 l1 b1 t1 nx (vp_updL (di_c ab mt v) v mt) en lf bl tr (nI n) (nI r) mt sl) H := hP
      have hD : va_D A (sd_ws cJ cI h1 n1 a1 e1 l1 b1 t1 nx (vp_updL (di_c ab mt v) v mt) en lf bl tr (nI n) (nI r) mt sl) := hD
      refine lv_iinc (lv' := [(1, .int (nI (v + 1))), (0, .ref h1)]) (k := 1) (v := nI (v + 1)) hx hb d_S_dominate_35 hl rfl (nI_1 v) (by decide) rfl (fun ls hl => ?_)
      refine lv_goto (tgt := 2) hx hb d_S_dominate_38 (by decide) ?_
      rw [di_s ab mt v (if_pos hc23).symm] at hP hD
      exact ih (v + 1) (show v + 1 ≤ n by omega) (show n - (v + 1) < n - v by omega) _ _ _ hP hD hS (lv_sub hl [1, 0] rfl)
