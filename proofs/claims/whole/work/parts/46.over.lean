/-! contract of Side.goOver (laid by wip/gen/over.py) -/
set_option maxHeartbeats 4000000 in
set_option maxRecDepth 100000 in
theorem c_S_goOver (l : Launch) (dC : Nat → ClassId) (dI : Nat → Nat → Nat) (cJ cI : ClassId) (h1 n1 a1 e1 l1 b1 t1 hs : Nat) (nx : Nat → Int64) (ab : Nat → Int64) (en : Nat → Int32) (lf : Nat → Int32) (bl : Nat → Int32) (tr : Nat → Int32) (mt : Int64) (sl : Int32) (n r : Nat) (hn : n ≤ 48) (hr9 : r < n) (hL : ∀ u v, gf_E n nx u v → v < n) : Met l y_S_goOver w_S_goOver ({ frames := 2, cells := 0, slots := 0, locals := 45 }) (va_Pc [.ref h1] (cw_M (dC, dI) cJ cI (sd_ws cJ cI h1 n1 a1 e1 l1 b1 t1 nx ab en lf bl tr (nI n) (nI r) mt sl) hs)) (va_Qv (fun (u9 : (Nat → Int32) × (Nat → Int32) × (Nat → Int32) × (Nat → Int32) × Int64) => match u9 with | (en9, lf9, bl9, tr9, mt9) => en9 = (df_F n nx r bl).2.1 ∧ lf9 = (df_F n nx r bl).2.2.1 ∧ bl9 = (df_F n nx r bl).2.2.2.1 ∧ ∀ i, bs_t mt9 i = true ↔ gf_R (gf_E n nx) r i) (fun (u9 : (Nat → Int32) × (Nat → Int32) × (Nat → Int32) × (Nat → Int32) × Int64) (t : State) => match u9 with | (en9, lf9, bl9, tr9, mt9) => va_P (dC, dI) vwCl (sd_ws cJ cI h1 n1 a1 e1 l1 b1 t1 nx ab en9 lf9 bl9 tr9 (nI n) (nI r) mt9 sl) t.heap ∧ va_D (va_A (sd_ws cJ cI h1 n1 a1 e1 l1 b1 t1 nx ab en lf bl tr (nI n) (nI r) mt sl) hs) (sd_ws cJ cI h1 n1 a1 e1 l1 b1 t1 nx ab en9 lf9 bl9 tr9 (nI n) (nI r) mt9 sl)) (va_A (sd_ws cJ cI h1 n1 a1 e1 l1 b1 t1 nx ab en lf bl tr (nI n) (nI r) mt sl) hs)) 0 0 (va_A (sd_ws cJ cI h1 n1 a1 e1 l1 b1 t1 nx ab en lf bl tr (nI n) (nI r) mt sl) hs) := by
  refine Met.ofW (cc := b_S_goOver) (maxL := 7) (ret := none) (by decide) rfl ?_
  intro p e s m args below meth c s₁ B hml hv9
  obtain ⟨rfl, hsz, ⟨hP, hK, hNw⟩, hD0⟩ := hv9
  have hx := B.exec
  have hb := B.bytes
  have hr := B.returns
  have hts := atoms_spec (ws := w_S_goOver) B.pre
  have hown : s.vm.findClass "FlowNest$Side" = some m.cls := findClass_of_methodNamed B.named
  have hlocks := B.notSynchronized
  subst hsz
  have hD := hD0.self (sz := s.heap.size)
  generalize hAe : va_A (sd_ws cJ cI h1 n1 a1 e1 l1 b1 t1 nx ab en lf bl tr (nI n) (nI r) mt sl) s.heap.size = A at hD ⊢
  have hA : ∀ q : Nat, s.heap.size ≤ q → A q := fun q h => by rw [← hAe]; exact Or.inr h
  have hS : va_S A s.heap s.heap [] := va_S.rf
  have hP : va_P (dC, dI) vwCl (sd_ws cJ cI h1 n1 a1 e1 l1 b1 t1 nx ab en lf bl tr (nI n) (nI r) mt sl) s.heap := hP
  have hl := lv_entry ([.ref h1]) (n := 7) (Nat.le_of_ble_eq_true rfl)
  rw [lg_entry_eq]
  generalize (lg_sl ([.ref h1]) ++ List.replicate (7 - (lg_sl ([.ref h1])).length) Slot.unset).toArray = ls at hl ⊢
  have hl : lv_has ls 7 [(0, .ref h1)] := hl
  refine lv_aload_n hx hb d_S_goOver_0 rfl (lv_at hl 0 rfl) ?_
  refine va_get (D := (dC, dI)) (ci := 1) (v := .ref e1) (C := "FlowNest$Side") (T := T_S) (N := 10) hx hb hts nm_iS hown hK hP 0 rfl rfl 2 (by decide) (hts _ (List.mem_cons_of_mem _ nm_31)) (fun _ h9 => h9) rfl d_S_goOver_1 ?_
  refine lv_iconst (v := -1) hx hb d_S_goOver_4 (by decide) ?_
  have hPc := hP.sub (ws' := fi_ws cJ cI e1 en) [3] rfl
  have hDc := hD.sub (ws' := fi_ws cJ cI e1 en) [3] (by decide) rfl
  have hFc := va_free (wc := fi_ws cJ cI e1 en) hD hS hA [3] rfl
  refine va_callv (va_runS (As := [.ref e1, .int (-1)]) (rest := []) ⟨hx, hb, hml, hown, hts⟩ (c_Y_fillI l dC dI cJ cI e1 s.heap.size en (-1)) (va_cwS 2 hts (nm_gS nm_115 nm_116 nm_9 nm_c_Y_fillI) rfl rfl rfl (by decide +kernel) ⟨Nat.le_of_ble_eq_true rfl, Nat.le_of_ble_eq_true rfl⟩) ⟨cw_blindM, cw_preM hPc hDc hK hNw⟩ rfl rfl hl.1 rfl (lv_room (Nat.le_of_ble_eq_true rfl)) d_S_goOver_5 ⟨Nat.zero_le _, Nat.zero_le _⟩) hS (fun q _ h => hFc q h) hFc (fun u9 t H1 locs ht hvm hw2 hB hz1 hk1 hS => ?_)
  obtain ⟨f3, rfl⟩ : ∃ z, z = u9 := ⟨_, rfl⟩
  obtain ⟨hP1, hD1⟩ := hB
  rw [ht] at hP1
  obtain ⟨hP, hD⟩ := va_join (wr := ([0, 1, 2, 4, 5, 6] : List Nat).filterMap (fun (i : Nat) => (sd_ws cJ cI h1 n1 a1 e1 l1 b1 t1 nx ab en lf bl tr (nI n) (nI r) mt sl)[i]?)) (w1 := fi_ws cJ cI e1 f3) hP hD [3] [0, 1, 2, 4, 5, 6] rfl rfl (by decide) (by decide) hk1 hFc hP1 hD1
  generalize H1 = H at hP hS ⊢
  have hP : va_P (dC, dI) vwCl (sd_ws cJ cI h1 n1 a1 e1 l1 b1 t1 nx ab f3 lf bl tr (nI n) (nI r) mt sl) H := hP.sub (ws' := sd_ws cJ cI h1 n1 a1 e1 l1 b1 t1 nx ab f3 lf bl tr (nI n) (nI r) mt sl) [0, 1, 2, 6, 3, 4, 5] rfl
  have hD : va_D A (sd_ws cJ cI h1 n1 a1 e1 l1 b1 t1 nx ab f3 lf bl tr (nI n) (nI r) mt sl) := hD.sub (ws' := sd_ws cJ cI h1 n1 a1 e1 l1 b1 t1 nx ab f3 lf bl tr (nI n) (nI r) mt sl) [0, 1, 2, 6, 3, 4, 5] (by decide) rfl
  subst hw2
  have hP : va_P (dC, dI) vwCl (sd_ws cJ cI h1 n1 a1 e1 l1 b1 t1 nx ab (fun _ => -1) lf bl tr (nI n) (nI r) mt sl) H := hP
  have hD : va_D A (sd_ws cJ cI h1 n1 a1 e1 l1 b1 t1 nx ab (fun _ => -1) lf bl tr (nI n) (nI r) mt sl) := hD
  refine lv_aload_n hx hb d_S_goOver_8 rfl (lv_at hl 0 rfl) ?_
  refine va_get (D := (dC, dI)) (ci := 1) (v := .ref l1) (C := "FlowNest$Side") (T := T_S) (N := 10) hx hb hts nm_iS hown hK hP 0 rfl rfl 3 (by decide) (hts _ (List.mem_cons_of_mem _ nm_33)) (fun _ h9 => h9) rfl d_S_goOver_9 ?_
  refine lv_iconst (v := -1) hx hb d_S_goOver_12 (by decide) ?_
  have hPc := hP.sub (ws' := fi_ws cJ cI l1 lf) [4] rfl
  have hDc := hD.sub (ws' := fi_ws cJ cI l1 lf) [4] (by decide) rfl
  have hFc := va_free (wc := fi_ws cJ cI l1 lf) hD hS hA [4] rfl
  refine va_callv (va_runS (As := [.ref l1, .int (-1)]) (rest := []) ⟨hx, hb, hml, hown, hts⟩ (c_Y_fillI l dC dI cJ cI l1 H.size lf (-1)) (va_cwS 2 hts (nm_gS nm_115 nm_116 nm_9 nm_c_Y_fillI) rfl rfl rfl (by decide +kernel) ⟨Nat.le_of_ble_eq_true rfl, Nat.le_of_ble_eq_true rfl⟩) ⟨cw_blindM, cw_preM hPc hDc hK hNw⟩ rfl rfl hl.1 rfl (lv_room (Nat.le_of_ble_eq_true rfl)) d_S_goOver_13 ⟨Nat.zero_le _, Nat.zero_le _⟩) hS (fun q _ h => hFc q h) hFc (fun u9 t H1 locs ht hvm hw5 hB hz1 hk1 hS => ?_)
  obtain ⟨f6, rfl⟩ : ∃ z, z = u9 := ⟨_, rfl⟩
  obtain ⟨hP1, hD1⟩ := hB
  rw [ht] at hP1
  obtain ⟨hP, hD⟩ := va_join (wr := ([0, 1, 2, 3, 5, 6] : List Nat).filterMap (fun (i : Nat) => (sd_ws cJ cI h1 n1 a1 e1 l1 b1 t1 nx ab (fun _ => -1) lf bl tr (nI n) (nI r) mt sl)[i]?)) (w1 := fi_ws cJ cI l1 f6) hP hD [4] [0, 1, 2, 3, 5, 6] rfl rfl (by decide) (by decide) hk1 hFc hP1 hD1
  generalize H1 = H at hP hS ⊢
  have hP : va_P (dC, dI) vwCl (sd_ws cJ cI h1 n1 a1 e1 l1 b1 t1 nx ab (fun _ => -1) f6 bl tr (nI n) (nI r) mt sl) H := hP.sub (ws' := sd_ws cJ cI h1 n1 a1 e1 l1 b1 t1 nx ab (fun _ => -1) f6 bl tr (nI n) (nI r) mt sl) [0, 1, 2, 3, 6, 4, 5] rfl
  have hD : va_D A (sd_ws cJ cI h1 n1 a1 e1 l1 b1 t1 nx ab (fun _ => -1) f6 bl tr (nI n) (nI r) mt sl) := hD.sub (ws' := sd_ws cJ cI h1 n1 a1 e1 l1 b1 t1 nx ab (fun _ => -1) f6 bl tr (nI n) (nI r) mt sl) [0, 1, 2, 3, 6, 4, 5] (by decide) rfl
  subst hw5
  have hP : va_P (dC, dI) vwCl (sd_ws cJ cI h1 n1 a1 e1 l1 b1 t1 nx ab (fun _ => -1) (fun _ => -1) bl tr (nI n) (nI r) mt sl) H := hP
  have hD : va_D A (sd_ws cJ cI h1 n1 a1 e1 l1 b1 t1 nx ab (fun _ => -1) (fun _ => -1) bl tr (nI n) (nI r) mt sl) := hD
  refine lv_iconst (v := nI 1) hx hb d_S_goOver_16 (by decide) ?_
  refine lv_istore_n (lv' := [(1, .int (nI 1)), (0, .ref h1)]) hx hb d_S_goOver_17 rfl hl (by decide) rfl (fun ls hl => ?_)
  refine lv_iconst (v := nI 0) hx hb d_S_goOver_18 (by decide) ?_
  refine lv_istore_n (lv' := [(2, .int (nI 0)), (1, .int (nI 1)), (0, .ref h1)]) hx hb d_S_goOver_19 rfl hl (by decide) rfl (fun ls hl => ?_)
  refine lv_iconst (v := nI 1) hx hb d_S_goOver_20 (by decide) ?_
  refine lv_istore_n (lv' := [(3, .int (nI 1)), (2, .int (nI 0)), (1, .int (nI 1)), (0, .ref h1)]) hx hb d_S_goOver_21 rfl hl (by decide) rfl (fun ls hl => ?_)
  refine lv_aload_n hx hb d_S_goOver_22 rfl (lv_at hl 3 rfl) ?_
  refine lv_aload_n hx hb d_S_goOver_23 rfl (lv_at hl 3 rfl) ?_
  refine va_get (D := (dC, dI)) (ci := 1) (v := .int (nI r)) (C := "FlowNest$Side") (T := T_S) (N := 10) hx hb hts nm_iS hown hK hP 0 rfl rfl 7 (by decide) (hts _ (List.mem_cons_of_mem _ nm_39)) (fun _ h9 => h9) rfl d_S_goOver_24 ?_
  refine vp_callSl (va_Run.run (va_runSN (As := [.int (nI r)]) (rest := [.ref h1]) ⟨hx, hb, hml, hown, hts⟩ (c_F_bit l r) ⟨va_cnB 1 hts (nm_gi nm_c_F_bit) rfl rfl rfl (nw_S_52 hNw) (hts _ (List.mem_cons_of_mem _ nm_1)) (by decide +kernel) ⟨Nat.le_of_ble_eq_true rfl, Nat.le_of_ble_eq_true rfl⟩, (hts _ (List.mem_cons_of_mem _ nm_119)), trivial⟩ ⟨fun _ _ _ _ q => ⟨q.1, trivial⟩, fun U hU hW => ⟨rfl, trivial⟩⟩ rfl rfl hl.1 rfl (lv_room (Nat.le_of_ble_eq_true rfl)) d_S_goOver_27 ⟨Nat.zero_le _, Nat.zero_le _⟩)) (fun r hr => ?_)
  subst hr
  refine va_put (D := (dC, dI)) (ci := 1) (v := .long (bs_b r)) (ty := .long) (C := "FlowNest$Side") (T := T_S) (N := 10) hx hb hts nm_iS t_S t_S_ok nm_S hown hK hP hD hS 0 rfl rfl 8 (by decide) (hts _ (List.mem_cons_of_mem _ nm_41)) (fun _ h9 => h9) rfl (by decide +kernel) (by rfl) (by rfl) (Nat.le_of_ble_eq_true rfl) d_S_goOver_30 (fun H locs hP hD hS => ?_)
  have hP : va_P (dC, dI) vwCl (sd_ws cJ cI h1 n1 a1 e1 l1 b1 t1 nx ab (fun _ => -1) (fun _ => -1) bl tr (nI n) (nI r) (bs_b r) sl) H := hP
  have hD : va_D A (sd_ws cJ cI h1 n1 a1 e1 l1 b1 t1 nx ab (fun _ => -1) (fun _ => -1) bl tr (nI n) (nI r) (bs_b r) sl) := hD
  refine lv_aload_n hx hb d_S_goOver_33 rfl (lv_at hl 3 rfl) ?_
  refine va_get (D := (dC, dI)) (ci := 1) (v := .ref e1) (C := "FlowNest$Side") (T := T_S) (N := 10) hx hb hts nm_iS hown hK hP 0 rfl rfl 2 (by decide) (hts _ (List.mem_cons_of_mem _ nm_31)) (fun _ h9 => h9) rfl d_S_goOver_34 ?_
  refine lv_aload_n hx hb d_S_goOver_37 rfl (lv_at hl 3 rfl) ?_
  refine va_get (D := (dC, dI)) (ci := 1) (v := .int (nI r)) (C := "FlowNest$Side") (T := T_S) (N := 10) hx hb hts nm_iS hown hK hP 0 rfl rfl 7 (by decide) (hts _ (List.mem_cons_of_mem _ nm_39)) (fun _ h9 => h9) rfl d_S_goOver_38 ?_
  refine lv_iconst (v := nI 0) hx hb d_S_goOver_41 (by decide) ?_
  refine wl_iast (i := r) hx hb hK hP hD hS 3 1 rfl rfl (by omega) (by decide) d_S_goOver_42 (fun H locs hP hD hS => ?_)
  have hP : va_P (dC, dI) vwCl (sd_ws cJ cI h1 n1 a1 e1 l1 b1 t1 nx ab (upd (fun _ => -1) r (nI 0)) (fun _ => -1) bl tr (nI n) (nI r) (bs_b r) sl) H := hP
  have hD : va_D A (sd_ws cJ cI h1 n1 a1 e1 l1 b1 t1 nx ab (upd (fun _ => -1) r (nI 0)) (fun _ => -1) bl tr (nI n) (nI r) (bs_b r) sl) := hD
  refine lv_aload_n hx hb d_S_goOver_43 rfl (lv_at hl 3 rfl) ?_
  refine va_get (D := (dC, dI)) (ci := 1) (v := .ref t1) (C := "FlowNest$Side") (T := T_S) (N := 10) hx hb hts nm_iS hown hK hP 0 rfl rfl 5 (by decide) (hts _ (List.mem_cons_of_mem _ nm_36)) (fun _ h9 => h9) rfl d_S_goOver_44 ?_
  refine lv_iconst (v := nI 0) hx hb d_S_goOver_47 (by decide) ?_
  refine lv_aload_n hx hb d_S_goOver_48 rfl (lv_at hl 3 rfl) ?_
  refine va_get (D := (dC, dI)) (ci := 1) (v := .int (nI r)) (C := "FlowNest$Side") (T := T_S) (N := 10) hx hb hts nm_iS hown hK hP 0 rfl rfl 7 (by decide) (hts _ (List.mem_cons_of_mem _ nm_39)) (fun _ h9 => h9) rfl d_S_goOver_49 ?_
  refine wl_iast (i := 0) hx hb hK hP hD hS 6 1 rfl rfl (by omega) (by decide) d_S_goOver_52 (fun H locs hP hD hS => ?_)
  have hP : va_P (dC, dI) vwCl (sd_ws cJ cI h1 n1 a1 e1 l1 b1 t1 nx ab (upd (fun _ => -1) r (nI 0)) (fun _ => -1) bl (upd tr 0 (nI r)) (nI n) (nI r) (bs_b r) sl) H := hP
  have hD : va_D A (sd_ws cJ cI h1 n1 a1 e1 l1 b1 t1 nx ab (upd (fun _ => -1) r (nI 0)) (fun _ => -1) bl (upd tr 0 (nI r)) (nI n) (nI r) (bs_b r) sl) := hD
  refine lv_iconst (v := nI 0) hx hb d_S_goOver_53 (by decide) ?_
  refine lv_istore (lv' := [(4, .int (nI 0)), (3, .int (nI 1)), (2, .int (nI 0)), (1, .int (nI 1)), (0, .ref h1)]) hx hb d_S_goOver_54 hl (by decide) rfl (fun ls hl => ?_)
  refine wl_loop (σ := Nat × (Nat → Int32) × Int64) (dC, dI) vwCl A 56 7 (fun (x : Nat × (Nat → Int32) × Int64) => match x with | (k, T, M) => [(0, .ref h1), (1, .int (nI (df_it n nx (df_0 r bl) k).2.2.2.2.1)), (2, .int (nI (df_it n nx (df_0 r bl) k).2.2.2.2.2)), (3, .int (nI (df_it n nx (df_0 r bl) k).1.length)), (4, .int (nI k))]) (fun (x : Nat × (Nat → Int32) × Int64) => match x with | (k, T, M) => sd_ws cJ cI h1 n1 a1 e1 l1 b1 t1 nx ab ((df_it n nx (df_0 r bl) k).2.1) ((df_it n nx (df_0 r bl) k).2.2.1) ((df_it n nx (df_0 r bl) k).2.2.2.1) T (nI n) (nI r) M sl) (fun (x : Nat × (Nat → Int32) × Int64) => match x with | (k, T, M) => k ≤ 2 * n ∧ df_tr (df_it n nx (df_0 r bl) k).1 T ∧ ∀ i, bs_t M i = true ↔ ¬ (df_it n nx (df_0 r bl) k).2.1 i < 0) (fun (x : Nat × (Nat → Int32) × Int64) => match x with | (k, T, M) => 2 * n - k) ?_ (0, (upd tr 0 (nI r)), (bs_b r)) (⟨Nat.zero_le _, df_tr_1 r tr, df_M0 (by omega)⟩) hP hD hS (lv_sub hl [4, 3, 2, 1, 0] rfl)
  intro x hI ih H locs ls hP hD hS hl
  obtain ⟨k, T, M⟩ := x
  have hI : k ≤ 2 * n ∧ df_tr (df_it n nx (df_0 r bl) k).1 T ∧ ∀ i, bs_t M i = true ↔ ¬ (df_it n nx (df_0 r bl) k).2.1 i < 0 := hI
  have hP : va_P (dC, dI) vwCl (sd_ws cJ cI h1 n1 a1 e1 l1 b1 t1 nx ab ((df_it n nx (df_0 r bl) k).2.1) ((df_it n nx (df_0 r bl) k).2.2.1) ((df_it n nx (df_0 r bl) k).2.2.2.1) T (nI n) (nI r) M sl) H := hP
  have hD : va_D A (sd_ws cJ cI h1 n1 a1 e1 l1 b1 t1 nx ab ((df_it n nx (df_0 r bl) k).2.1) ((df_it n nx (df_0 r bl) k).2.2.1) ((df_it n nx (df_0 r bl) k).2.2.2.1) T (nI n) (nI r) M sl) := hD
  have hl : lv_has ls 7 [(0, .ref h1), (1, .int (nI (df_it n nx (df_0 r bl) k).2.2.2.2.1)), (2, .int (nI (df_it n nx (df_0 r bl) k).2.2.2.2.2)), (3, .int (nI (df_it n nx (df_0 r bl) k).1.length)), (4, .int (nI k))] := hl
  have hIz := df_Iit (show n ≤ 64 by omega) hL hr9 bl k
  rcases hz : df_it n nx (df_0 r bl) k with ⟨tl0, en1, lf1, bl1, a, g⟩
  rw [hz] at hP hD hl hI hIz
  have hP : va_P (dC, dI) vwCl (sd_ws cJ cI h1 n1 a1 e1 l1 b1 t1 nx ab en1 lf1 bl1 T (nI n) (nI r) M sl) H := hP
  have hD : va_D A (sd_ws cJ cI h1 n1 a1 e1 l1 b1 t1 nx ab en1 lf1 bl1 T (nI n) (nI r) M sl) := hD
  have hl : lv_has ls 7 [(0, .ref h1), (1, .int (nI a)), (2, .int (nI g)), (3, .int (nI tl0.length)), (4, .int (nI k))] := hl
  have hI : k ≤ 2 * n ∧ df_tr tl0 T ∧ ∀ i, bs_t M i = true ↔ ¬ en1 i < 0 := hI
  obtain ⟨d1, d2, d3, d4, d5, d6, d7, d8, d9, d10, d11⟩ := hIz
  have han : a ≤ n := by rw [d6]; exact ct_le _ _
  refine lv_iload hx hb d_S_goOver_56 (lv_at hl 4 rfl) ?_
  refine lv_iconst (v := nI 2) hx hb d_S_goOver_58 (by decide) ?_
  refine lv_aload_n hx hb d_S_goOver_59 rfl (lv_at hl 0 rfl) ?_
  refine va_get (D := (dC, dI)) (ci := 1) (v := .int (nI n)) (C := "FlowNest$Side") (T := T_S) (N := 10) hx hb hts nm_iS hown hK hP 0 rfl rfl 6 (by decide) (hts _ (List.mem_cons_of_mem _ nm_37)) (fun _ h9 => h9) rfl d_S_goOver_60 ?_
  refine wl_imuln hx hb d_S_goOver_63 ?_
  refine wl_ige (tgt := 179) hx hb (by omega) (by omega) d_S_goOver_64 (by decide) (fun hc64 => ?_) (fun hc64 => ?_)
  · have hF : df_F n nx r bl = (tl0, en1, lf1, bl1, a, g) := (df_fin hI.1 (Or.inl hc64)).trans hz
    exact W.vret hx hb hr (fun t ht hW => ⟨⟨(en1, lf1, bl1, T, M), rfl, ⟨by rw [hF], by rw [hF], by rw [hF], fun i => (hI.2.2 i).trans (by have h9 := df_met (show n ≤ 64 by omega) hL hr9 bl i; rw [hF] at h9; exact h9)⟩, by rw [ht]; exact hP, hD⟩, hS.F ht⟩) hS.2.2 d_S_goOver_179
  · refine lv_iload_n hx hb d_S_goOver_67 rfl (lv_at hl 3 rfl) ?_
    refine wl_iflen (tgt := 179) hx hb (by omega) d_S_goOver_68 (by decide) (fun hc68 => ?_) (fun hc68 => ?_)
    · have hF : df_F n nx r bl = (tl0, en1, lf1, bl1, a, g) := (df_fin hI.1 (Or.inr (by rw [hz]; exact df_nil hc68))).trans hz
      exact W.vret hx hb hr (fun t ht hW => ⟨⟨(en1, lf1, bl1, T, M), rfl, ⟨by rw [hF], by rw [hF], by rw [hF], fun i => (hI.2.2 i).trans (by have h9 := df_met (show n ≤ 64 by omega) hL hr9 bl i; rw [hF] at h9; exact h9)⟩, by rw [ht]; exact hP, hD⟩, hS.F ht⟩) hS.2.2 d_S_goOver_179
    · obtain ⟨t, tl, rfl⟩ := df_cons hc68
      have hlen9 : (t :: tl).length = tl.length + 1 := rfl
      have ht := d1 t (by simp)
      have d7 : g + (tl.length + 1) = a := d7
      refine lv_aload_n hx hb d_S_goOver_71 rfl (lv_at hl 0 rfl) ?_
      refine va_get (D := (dC, dI)) (ci := 1) (v := .ref t1) (C := "FlowNest$Side") (T := T_S) (N := 10) hx hb hts nm_iS hown hK hP 0 rfl rfl 5 (by decide) (hts _ (List.mem_cons_of_mem _ nm_36)) (fun _ h9 => h9) rfl d_S_goOver_72 ?_
      refine lv_iload_n hx hb d_S_goOver_75 rfl (lv_at hl 3 rfl) ?_
      refine lv_iconst (v := nI 1) hx hb d_S_goOver_76 (by decide) ?_
      refine wl_isubn hx hb (by omega) d_S_goOver_77 ?_
      refine wl_iald (i := (((t :: tl).length) - 1)) hx hb hK hP 6 1 rfl rfl (by omega) (by decide) d_S_goOver_78 ?_
      rw [show T (((t :: tl).length) - 1) = nI t from by rw [show ((t :: tl).length) - 1 = tl.length from rfl]; exact df_tr_top hI.2.1]
      refine lv_istore (lv' := [(5, .int (nI t)), (0, .ref h1), (1, .int (nI a)), (2, .int (nI g)), (3, .int (nI ((t :: tl).length))), (4, .int (nI k))]) hx hb d_S_goOver_79 hl (by decide) rfl (fun ls hl => ?_)
      refine lv_aload_n hx hb d_S_goOver_81 rfl (lv_at hl 1 rfl) ?_
      refine va_get (D := (dC, dI)) (ci := 1) (v := .ref n1) (C := "FlowNest$Side") (T := T_S) (N := 10) hx hb hts nm_iS hown hK hP 0 rfl rfl 0 (by decide) (hts _ (List.mem_cons_of_mem _ nm_26)) (fun _ h9 => h9) rfl d_S_goOver_82 ?_
      refine lv_iload hx hb d_S_goOver_85 (lv_at hl 0 rfl) ?_
      refine wl_lald (i := t) hx hb hK hP 1 0 rfl rfl (by omega) (by decide) d_S_goOver_87 ?_
      refine lv_aload_n hx hb d_S_goOver_88 rfl (lv_at hl 1 rfl) ?_
      refine va_get (D := (dC, dI)) (ci := 1) (v := .long M) (C := "FlowNest$Side") (T := T_S) (N := 10) hx hb hts nm_iS hown hK hP 0 rfl rfl 8 (by decide) (hts _ (List.mem_cons_of_mem _ nm_41)) (fun _ h9 => h9) rfl d_S_goOver_89 ?_
      refine lv_ldc2 (v := -1) hx hb hown (hts _ (List.mem_cons_of_mem _ nm_121)) d_S_goOver_92 ?_
      refine lv_lxor hx hb d_S_goOver_95 ?_
      refine lv_land hx hb d_S_goOver_96 ?_
      refine lv_iconst (v := -1) hx hb d_S_goOver_97 (by decide) ?_
      refine vp_callSi (va_Run.run (va_runSN (As := [.long ((nx t) &&& (M ^^^ (-1))), .int (-1)]) (rest := []) ⟨hx, hb, hml, hown, hts⟩ (c_F_following l ((nx t) &&& (M ^^^ (-1))) (-1) 0 (by decide) (by decide)) ⟨va_cnB 2 hts (nm_gi nm_c_F_following) rfl rfl rfl (nw_S_67 hNw) (hts _ (List.mem_cons_of_mem _ nm_1)) (by decide +kernel) ⟨Nat.le_of_ble_eq_true rfl, Nat.le_of_ble_eq_true rfl⟩, (hts _ (List.mem_cons_of_mem _ nm_123)), trivial⟩ ⟨fun _ _ _ _ q => ⟨q.1, trivial⟩, fun U hU hW => ⟨rfl, trivial⟩⟩ rfl rfl hl.1 rfl (lv_room (Nat.le_of_ble_eq_true rfl)) d_S_goOver_98 ⟨Nat.zero_le _, Nat.zero_le _⟩)) (fun r hr => ?_)
      subst hr
      have hfo := df_fo hn hL hI.2.2 ht.1
      have hw64 := bs_fo_le (nx t &&& (M ^^^ (-1))) 0
      generalize bs_fo (nx t &&& (M ^^^ (-1))) 0 = w at hfo hw64 ⊢
      refine lv_istore (lv' := [(6, .int (nI w)), (5, .int (nI t)), (0, .ref h1), (1, .int (nI a)), (2, .int (nI g)), (3, .int (nI ((t :: tl).length))), (4, .int (nI k))]) hx hb d_S_goOver_101 hl (by decide) rfl (fun ls hl => ?_)
      refine lv_iload hx hb d_S_goOver_103 (lv_at hl 0 rfl) ?_
      refine lv_aload_n hx hb d_S_goOver_105 rfl (lv_at hl 2 rfl) ?_
      refine va_get (D := (dC, dI)) (ci := 1) (v := .int (nI n)) (C := "FlowNest$Side") (T := T_S) (N := 10) hx hb hts nm_iS hown hK hP 0 rfl rfl 6 (by decide) (hts _ (List.mem_cons_of_mem _ nm_37)) (fun _ h9 => h9) rfl d_S_goOver_106 ?_
      refine wl_ige (tgt := 151) hx hb (by omega) (by omega) d_S_goOver_109 (by decide) (fun hc109 => ?_) (fun hc109 => ?_)
      · have hz1 : df_it n nx (df_0 r bl) (k + 1) = (tl, en1, upd lf1 t (nI g), upd bl1 g (nI t), a, g + 1) := by rw [df_it_s, hz]; exact df_st_out (hfo.2 hc109)
        refine lv_aload_n hx hb d_S_goOver_151 rfl (lv_at hl 2 rfl) ?_
        refine va_get (D := (dC, dI)) (ci := 1) (v := .ref l1) (C := "FlowNest$Side") (T := T_S) (N := 10) hx hb hts nm_iS hown hK hP 0 rfl rfl 3 (by decide) (hts _ (List.mem_cons_of_mem _ nm_33)) (fun _ h9 => h9) rfl d_S_goOver_152 ?_
        refine lv_iload hx hb d_S_goOver_155 (lv_at hl 1 rfl) ?_
        refine lv_iload_n hx hb d_S_goOver_157 rfl (lv_at hl 4 rfl) ?_
        refine wl_iast (i := t) hx hb hK hP hD hS 4 1 rfl rfl (by omega) (by decide) d_S_goOver_158 (fun H locs hP hD hS => ?_)
        have hP : va_P (dC, dI) vwCl (sd_ws cJ cI h1 n1 a1 e1 l1 b1 t1 nx ab en1 (upd lf1 t (nI g)) bl1 T (nI n) (nI r) M sl) H := hP
        have hD : va_D A (sd_ws cJ cI h1 n1 a1 e1 l1 b1 t1 nx ab en1 (upd lf1 t (nI g)) bl1 T (nI n) (nI r) M sl) := hD
        refine lv_aload_n hx hb d_S_goOver_159 rfl (lv_at hl 2 rfl) ?_
        refine va_get (D := (dC, dI)) (ci := 1) (v := .ref b1) (C := "FlowNest$Side") (T := T_S) (N := 10) hx hb hts nm_iS hown hK hP 0 rfl rfl 4 (by decide) (hts _ (List.mem_cons_of_mem _ nm_35)) (fun _ h9 => h9) rfl d_S_goOver_160 ?_
        refine lv_iload_n hx hb d_S_goOver_163 rfl (lv_at hl 4 rfl) ?_
        refine lv_iinc (lv' := [(2, .int (nI (g + 1))), (6, .int (nI w)), (5, .int (nI t)), (0, .ref h1), (1, .int (nI a)), (3, .int (nI ((t :: tl).length))), (4, .int (nI k))]) (k := 4) (v := nI (g + 1)) hx hb d_S_goOver_164 hl rfl (nI_1 g) (by decide) rfl (fun ls hl => ?_)
        refine lv_iload hx hb d_S_goOver_167 (lv_at hl 2 rfl) ?_
        refine wl_iast (i := g) hx hb hK hP hD hS 5 1 rfl rfl (by omega) (by decide) d_S_goOver_169 (fun H locs hP hD hS => ?_)
        have hP : va_P (dC, dI) vwCl (sd_ws cJ cI h1 n1 a1 e1 l1 b1 t1 nx ab en1 (upd lf1 t (nI g)) (upd bl1 g (nI t)) T (nI n) (nI r) M sl) H := hP
        have hD : va_D A (sd_ws cJ cI h1 n1 a1 e1 l1 b1 t1 nx ab en1 (upd lf1 t (nI g)) (upd bl1 g (nI t)) T (nI n) (nI r) M sl) := hD
        rw [show ((t :: tl).length) = tl.length + 1 from rfl] at hl
        refine lv_iinc (lv' := [(3, .int (nI tl.length)), (2, .int (nI (g + 1))), (6, .int (nI w)), (5, .int (nI t)), (0, .ref h1), (1, .int (nI a)), (4, .int (nI k))]) (k := 5) (v := nI tl.length) hx hb d_S_goOver_170 hl rfl (pk_m1 tl.length) (by decide) rfl (fun ls hl => ?_)
        refine lv_iinc (lv' := [(4, .int (nI (k + 1))), (3, .int (nI tl.length)), (2, .int (nI (g + 1))), (6, .int (nI w)), (5, .int (nI t)), (0, .ref h1), (1, .int (nI a))]) (k := 6) (v := nI (k + 1)) hx hb d_S_goOver_173 hl rfl (nI_1 k) (by decide) rfl (fun ls hl => ?_)
        refine lv_goto (tgt := 56) hx hb d_S_goOver_176 (by decide) ?_
        exact ih ((k + 1), T, M) (show (k + 1) ≤ 2 * n ∧ df_tr (df_it n nx (df_0 r bl) (k + 1)).1 T ∧ ∀ i, bs_t M i = true ↔ ¬ (df_it n nx (df_0 r bl) (k + 1)).2.1 i < 0 from by rw [hz1]; exact ⟨by omega, df_tr_pop hI.2.1, hI.2.2⟩) (show 2 * n - (k + 1) < 2 * n - k by omega) _ _ _ (by show va_P (dC, dI) vwCl (sd_ws cJ cI h1 n1 a1 e1 l1 b1 t1 nx ab ((df_it n nx (df_0 r bl) (k + 1)).2.1) ((df_it n nx (df_0 r bl) (k + 1)).2.2.1) ((df_it n nx (df_0 r bl) (k + 1)).2.2.2.1) T (nI n) (nI r) M sl) H; rw [hz1]; exact hP) (by show va_D A (sd_ws cJ cI h1 n1 a1 e1 l1 b1 t1 nx ab ((df_it n nx (df_0 r bl) (k + 1)).2.1) ((df_it n nx (df_0 r bl) (k + 1)).2.2.1) ((df_it n nx (df_0 r bl) (k + 1)).2.2.2.1) T (nI n) (nI r) M sl); rw [hz1]; exact hD) hS (by show lv_has ls 7 [(0, .ref h1), (1, .int (nI (df_it n nx (df_0 r bl) (k + 1)).2.2.2.2.1)), (2, .int (nI (df_it n nx (df_0 r bl) (k + 1)).2.2.2.2.2)), (3, .int (nI (df_it n nx (df_0 r bl) (k + 1)).1.length)), (4, .int (nI (k + 1)))]; rw [hz1]; exact lv_sub hl [5, 6, 2, 1, 0] rfl)
      · have hz1 : df_it n nx (df_0 r bl) (k + 1) = (w :: t :: tl, upd en1 w (nI a), lf1, bl1, a + 1, g) := by rw [df_it_s, hz]; exact df_st_in hc109 (hfo.1 hc109)
        have hI1 := df_Iit (show n ≤ 64 by omega) hL hr9 bl (k + 1)
        rw [hz1] at hI1
        have han1 : a + 1 ≤ n := by rw [hI1.2.2.2.2.2.1]; exact ct_le _ _
        refine lv_aload_n hx hb d_S_goOver_112 rfl (lv_at hl 2 rfl) ?_
        refine lv_dup hx hb d_S_goOver_113 rfl ?_
        refine va_get (D := (dC, dI)) (ci := 1) (v := .long M) (C := "FlowNest$Side") (T := T_S) (N := 10) hx hb hts nm_iS hown hK hP 0 rfl rfl 8 (by decide) (hts _ (List.mem_cons_of_mem _ nm_41)) (fun _ h9 => h9) rfl d_S_goOver_114 ?_
        refine lv_iload hx hb d_S_goOver_117 (lv_at hl 0 rfl) ?_
        refine vp_callSl (va_Run.run (va_runSN (As := [.int (nI w)]) (rest := [.long M, .ref h1]) ⟨hx, hb, hml, hown, hts⟩ (c_F_bit l w) ⟨va_cnB 1 hts (nm_gi nm_c_F_bit) rfl rfl rfl (nw_S_52 hNw) (hts _ (List.mem_cons_of_mem _ nm_1)) (by decide +kernel) ⟨Nat.le_of_ble_eq_true rfl, Nat.le_of_ble_eq_true rfl⟩, (hts _ (List.mem_cons_of_mem _ nm_119)), trivial⟩ ⟨fun _ _ _ _ q => ⟨q.1, trivial⟩, fun U hU hW => ⟨rfl, trivial⟩⟩ rfl rfl hl.1 rfl (lv_room (Nat.le_of_ble_eq_true rfl)) d_S_goOver_119 ⟨Nat.zero_le _, Nat.zero_le _⟩)) (fun r hr => ?_)
        subst hr
        refine lv_lor hx hb d_S_goOver_122 ?_
        refine va_put (D := (dC, dI)) (ci := 1) (v := .long (M ||| (bs_b w))) (ty := .long) (C := "FlowNest$Side") (T := T_S) (N := 10) hx hb hts nm_iS t_S t_S_ok nm_S hown hK hP hD hS 0 rfl rfl 8 (by decide) (hts _ (List.mem_cons_of_mem _ nm_41)) (fun _ h9 => h9) rfl (by decide +kernel) (by rfl) (by rfl) (Nat.le_of_ble_eq_true rfl) d_S_goOver_123 (fun H locs hP hD hS => ?_)
        have hP : va_P (dC, dI) vwCl (sd_ws cJ cI h1 n1 a1 e1 l1 b1 t1 nx ab en1 lf1 bl1 T (nI n) (nI r) (M ||| (bs_b w)) sl) H := hP
        have hD : va_D A (sd_ws cJ cI h1 n1 a1 e1 l1 b1 t1 nx ab en1 lf1 bl1 T (nI n) (nI r) (M ||| (bs_b w)) sl) := hD
        refine lv_aload_n hx hb d_S_goOver_126 rfl (lv_at hl 2 rfl) ?_
        refine va_get (D := (dC, dI)) (ci := 1) (v := .ref e1) (C := "FlowNest$Side") (T := T_S) (N := 10) hx hb hts nm_iS hown hK hP 0 rfl rfl 2 (by decide) (hts _ (List.mem_cons_of_mem _ nm_31)) (fun _ h9 => h9) rfl d_S_goOver_127 ?_
        refine lv_iload hx hb d_S_goOver_130 (lv_at hl 0 rfl) ?_
        refine lv_iload_n hx hb d_S_goOver_132 rfl (lv_at hl 3 rfl) ?_
        refine lv_iinc (lv' := [(1, .int (nI (a + 1))), (6, .int (nI w)), (5, .int (nI t)), (0, .ref h1), (2, .int (nI g)), (3, .int (nI ((t :: tl).length))), (4, .int (nI k))]) (k := 3) (v := nI (a + 1)) hx hb d_S_goOver_133 hl rfl (nI_1 a) (by decide) rfl (fun ls hl => ?_)
        refine wl_iast (i := w) hx hb hK hP hD hS 3 1 rfl rfl (by omega) (by decide) d_S_goOver_136 (fun H locs hP hD hS => ?_)
        have hP : va_P (dC, dI) vwCl (sd_ws cJ cI h1 n1 a1 e1 l1 b1 t1 nx ab (upd en1 w (nI a)) lf1 bl1 T (nI n) (nI r) (M ||| (bs_b w)) sl) H := hP
        have hD : va_D A (sd_ws cJ cI h1 n1 a1 e1 l1 b1 t1 nx ab (upd en1 w (nI a)) lf1 bl1 T (nI n) (nI r) (M ||| (bs_b w)) sl) := hD
        refine lv_aload_n hx hb d_S_goOver_137 rfl (lv_at hl 3 rfl) ?_
        refine va_get (D := (dC, dI)) (ci := 1) (v := .ref t1) (C := "FlowNest$Side") (T := T_S) (N := 10) hx hb hts nm_iS hown hK hP 0 rfl rfl 5 (by decide) (hts _ (List.mem_cons_of_mem _ nm_36)) (fun _ h9 => h9) rfl d_S_goOver_138 ?_
        refine lv_iload_n hx hb d_S_goOver_141 rfl (lv_at hl 5 rfl) ?_
        refine lv_iinc (lv' := [(3, .int (nI (((t :: tl).length) + 1))), (1, .int (nI (a + 1))), (6, .int (nI w)), (5, .int (nI t)), (0, .ref h1), (2, .int (nI g)), (4, .int (nI k))]) (k := 5) (v := nI (((t :: tl).length) + 1)) hx hb d_S_goOver_142 hl rfl (nI_1 ((t :: tl).length)) (by decide) rfl (fun ls hl => ?_)
        refine lv_iload hx hb d_S_goOver_145 (lv_at hl 2 rfl) ?_
        refine wl_iast (i := ((t :: tl).length)) hx hb hK hP hD hS 6 1 rfl rfl (by omega) (by decide) d_S_goOver_147 (fun H locs hP hD hS => ?_)
        have hP : va_P (dC, dI) vwCl (sd_ws cJ cI h1 n1 a1 e1 l1 b1 t1 nx ab (upd en1 w (nI a)) lf1 bl1 (upd T ((t :: tl).length) (nI w)) (nI n) (nI r) (M ||| (bs_b w)) sl) H := hP
        have hD : va_D A (sd_ws cJ cI h1 n1 a1 e1 l1 b1 t1 nx ab (upd en1 w (nI a)) lf1 bl1 (upd T ((t :: tl).length) (nI w)) (nI n) (nI r) (M ||| (bs_b w)) sl) := hD
        refine lv_goto (tgt := 173) hx hb d_S_goOver_148 (by decide) ?_
        refine lv_iinc (lv' := [(4, .int (nI (k + 1))), (3, .int (nI (((t :: tl).length) + 1))), (1, .int (nI (a + 1))), (6, .int (nI w)), (5, .int (nI t)), (0, .ref h1), (2, .int (nI g))]) (k := 6) (v := nI (k + 1)) hx hb d_S_goOver_173 hl rfl (nI_1 k) (by decide) rfl (fun ls hl => ?_)
        refine lv_goto (tgt := 56) hx hb d_S_goOver_176 (by decide) ?_
        exact ih ((k + 1), (upd T ((t :: tl).length) (nI w)), (M ||| bs_b w)) (show (k + 1) ≤ 2 * n ∧ df_tr (df_it n nx (df_0 r bl) (k + 1)).1 (upd T ((t :: tl).length) (nI w)) ∧ ∀ i, bs_t (M ||| bs_b w) i = true ↔ ¬ (df_it n nx (df_0 r bl) (k + 1)).2.1 i < 0 from by rw [hz1]; exact ⟨by omega, df_tr_push hI.2.1, df_Ms hI.2.2 (by omega) (by omega)⟩) (show 2 * n - (k + 1) < 2 * n - k by omega) _ _ _ (by show va_P (dC, dI) vwCl (sd_ws cJ cI h1 n1 a1 e1 l1 b1 t1 nx ab ((df_it n nx (df_0 r bl) (k + 1)).2.1) ((df_it n nx (df_0 r bl) (k + 1)).2.2.1) ((df_it n nx (df_0 r bl) (k + 1)).2.2.2.1) (upd T ((t :: tl).length) (nI w)) (nI n) (nI r) (M ||| bs_b w) sl) H; rw [hz1]; exact hP) (by show va_D A (sd_ws cJ cI h1 n1 a1 e1 l1 b1 t1 nx ab ((df_it n nx (df_0 r bl) (k + 1)).2.1) ((df_it n nx (df_0 r bl) (k + 1)).2.2.1) ((df_it n nx (df_0 r bl) (k + 1)).2.2.2.1) (upd T ((t :: tl).length) (nI w)) (nI n) (nI r) (M ||| bs_b w) sl); rw [hz1]; exact hD) hS (by show lv_has ls 7 [(0, .ref h1), (1, .int (nI (df_it n nx (df_0 r bl) (k + 1)).2.2.2.2.1)), (2, .int (nI (df_it n nx (df_0 r bl) (k + 1)).2.2.2.2.2)), (3, .int (nI (df_it n nx (df_0 r bl) (k + 1)).1.length)), (4, .int (nI (k + 1)))]; rw [hz1]; exact lv_sub hl [5, 2, 6, 1, 0] rfl)
