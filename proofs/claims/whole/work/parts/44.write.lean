/-! contracts of what writes: Arrays.fill, Side.startWith, turn, moveRoot (laid by wip/gen/write1.py) -/
set_option maxHeartbeats 4000000 in
set_option maxRecDepth 100000 in
theorem c_Y_fillI (l : Launch) (dC : Nat → ClassId) (dI : Nat → Nat → Nat) (cJ cI : ClassId) (g1 hs : Nat) (fs : Nat → Int32) (x : Int32)  : Met l y_Y_fillI w_Y_fillI ({ frames := 0, cells := 0, slots := 0, locals := 0 }) (va_Pc [.ref g1, .int x] (cw_M (dC, dI) cJ cI (fi_ws cJ cI g1 fs) hs)) (va_Qv (fun (f2 : Nat → Int32) => f2 = fun _ => x) (fun (f2 : Nat → Int32) (t : State) => va_P (dC, dI) vwCl (fi_ws cJ cI g1 f2) t.heap ∧ va_D (va_A (fi_ws cJ cI g1 fs) hs) (fi_ws cJ cI g1 f2)) (va_A (fi_ws cJ cI g1 fs) hs)) 0 0 (va_A (fi_ws cJ cI g1 fs) hs) := by
  refine Met.ofW (cc := b_Y_fillI) (maxL := 4) (ret := none) (by decide) rfl ?_
  intro p e s m args below meth c s₁ B hml hv9
  obtain ⟨rfl, hsz, ⟨hP, hK, hNw⟩, hD0⟩ := hv9
  have hx := B.exec
  have hb := B.bytes
  have hr := B.returns
  have hts := atoms_spec (ws := w_Y_fillI) B.pre
  have hown : s.vm.findClass "java/util/Arrays" = some m.cls := findClass_of_methodNamed B.named
  have hlocks := B.notSynchronized
  subst hsz
  have hD := hD0.self (sz := s.heap.size)
  generalize hAe : va_A (fi_ws cJ cI g1 fs) s.heap.size = A at hD ⊢
  have hA : ∀ q : Nat, s.heap.size ≤ q → A q := fun q h => by rw [← hAe]; exact Or.inr h
  have hS : va_S A s.heap s.heap [] := va_S.rf
  have hP : va_P (dC, dI) vwCl (fi_ws cJ cI g1 fs) s.heap := hP
  have hl := lv_entry ([.ref g1, .int x]) (n := 4) (Nat.le_of_ble_eq_true rfl)
  rw [lg_entry_eq]
  generalize (lg_sl ([.ref g1, .int x]) ++ List.replicate (4 - (lg_sl ([.ref g1, .int x])).length) Slot.unset).toArray = ls at hl ⊢
  have hl : lv_has ls 4 [(0, .ref g1), (1, .int x)] := hl
  refine lv_iconst (v := nI 0) hx hb d_Y_fillI_0 (by decide) ?_
  refine lv_istore_n (lv' := [(2, .int (nI 0)), (0, .ref g1), (1, .int x)]) hx hb d_Y_fillI_1 rfl hl (by decide) rfl (fun ls hl => ?_)
  refine lv_aload_n hx hb d_Y_fillI_2 rfl (lv_at hl 1 rfl) ?_
  refine va_alen (v := nI 48) hx hb hK hP 0 1 rfl rfl rfl d_Y_fillI_3 ?_
  refine lv_istore_n (lv' := [(3, .int (nI 48)), (2, .int (nI 0)), (0, .ref g1), (1, .int x)]) hx hb d_Y_fillI_4 rfl hl (by decide) rfl (fun ls hl => ?_)
  rw [show fs = fi_c fs x 0 from fi_0 fs x] at hP hD
  refine wl_loop (σ := Nat) (dC, dI) vwCl A 5 4 (fun (i : Nat) => [(0, .ref g1), (1, .int x), (2, .int (nI i)), (3, .int (nI 48))]) (fun (i : Nat) => fi_ws cJ cI g1 (fi_c fs x i)) (fun (i : Nat) => i ≤ 48) (fun (i : Nat) => 48 - i) ?_ 0 (Nat.zero_le 48) hP hD hS (lv_sub hl [2, 3, 1, 0] rfl)
  intro i hI ih H locs ls hP hD hS hl
  have hI : i ≤ 48 := hI
  have hP : va_P (dC, dI) vwCl (fi_ws cJ cI g1 (fi_c fs x i)) H := hP
  have hD : va_D A (fi_ws cJ cI g1 (fi_c fs x i)) := hD
  have hl : lv_has ls 4 [(0, .ref g1), (1, .int x), (2, .int (nI i)), (3, .int (nI 48))] := hl
  refine lv_iload_n hx hb d_Y_fillI_5 rfl (lv_at hl 2 rfl) ?_
  refine lv_iload_n hx hb d_Y_fillI_6 rfl (lv_at hl 3 rfl) ?_
  refine wl_ige (tgt := 20) hx hb (by omega) (by omega) d_Y_fillI_7 (by decide) (fun hc7 => ?_) (fun hc7 => ?_)
  · rw [show i = 48 by omega] at hP hD
    obtain ⟨hP, hD⟩ := wl_nI (g := fun _ => x) hP hD 0 rfl (fi_e fs x)
    exact W.vret hx hb hr (fun t ht hW => ⟨⟨fun _ => x, rfl, rfl, by rw [ht]; exact hP, hD⟩, hS.F ht⟩) hS.2.2 d_Y_fillI_20
  · refine lv_aload_n hx hb d_Y_fillI_10 rfl (lv_at hl 0 rfl) ?_
    refine lv_iload_n hx hb d_Y_fillI_11 rfl (lv_at hl 2 rfl) ?_
    refine lv_iload_n hx hb d_Y_fillI_12 rfl (lv_at hl 1 rfl) ?_
    refine wl_iast (i := i) hx hb hK hP hD hS 0 1 rfl rfl (by omega) (by decide) d_Y_fillI_13 (fun H locs hP hD hS => ?_)
    have hP : va_P (dC, dI) vwCl (fi_ws cJ cI g1 (upd (fi_c fs x i) i x)) H := hP
    have hD : va_D A (fi_ws cJ cI g1 (upd (fi_c fs x i) i x)) := hD
    refine lv_iinc (lv' := [(2, .int (nI (i + 1))), (0, .ref g1), (1, .int x), (3, .int (nI 48))]) (k := 2) (v := nI (i + 1)) hx hb d_Y_fillI_14 hl rfl (nI_1 i) (by decide) rfl (fun ls hl => ?_)
    refine lv_goto (tgt := 5) hx hb d_Y_fillI_17 (by decide) ?_
    rw [fi_s] at hP hD
    exact ih (i + 1) (show i + 1 ≤ 48 by omega) (show 48 - (i + 1) < 48 - i by omega) _ _ _ hP hD hS (lv_sub hl [1, 2, 0, 3] rfl)
set_option maxHeartbeats 4000000 in
set_option maxRecDepth 100000 in
theorem c_Y_fillJ (l : Launch) (dC : Nat → ClassId) (dI : Nat → Nat → Nat) (cJ cI : ClassId) (g1 hs : Nat) (gs : Nat → Int64) (x : Int64)  : Met l y_Y_fillJ w_Y_fillJ ({ frames := 0, cells := 0, slots := 0, locals := 0 }) (va_Pc [.ref g1, .long x] (cw_M (dC, dI) cJ cI (fl_ws cJ cI g1 gs) hs)) (va_Qv (fun (f2 : Nat → Int64) => f2 = fun _ => x) (fun (f2 : Nat → Int64) (t : State) => va_P (dC, dI) vwCl (fl_ws cJ cI g1 f2) t.heap ∧ va_D (va_A (fl_ws cJ cI g1 gs) hs) (fl_ws cJ cI g1 f2)) (va_A (fl_ws cJ cI g1 gs) hs)) 0 0 (va_A (fl_ws cJ cI g1 gs) hs) := by
  refine Met.ofW (cc := b_Y_fillJ) (maxL := 5) (ret := none) (by decide) rfl ?_
  intro p e s m args below meth c s₁ B hml hv9
  obtain ⟨rfl, hsz, ⟨hP, hK, hNw⟩, hD0⟩ := hv9
  have hx := B.exec
  have hb := B.bytes
  have hr := B.returns
  have hts := atoms_spec (ws := w_Y_fillJ) B.pre
  have hown : s.vm.findClass "java/util/Arrays" = some m.cls := findClass_of_methodNamed B.named
  have hlocks := B.notSynchronized
  subst hsz
  have hD := hD0.self (sz := s.heap.size)
  generalize hAe : va_A (fl_ws cJ cI g1 gs) s.heap.size = A at hD ⊢
  have hA : ∀ q : Nat, s.heap.size ≤ q → A q := fun q h => by rw [← hAe]; exact Or.inr h
  have hS : va_S A s.heap s.heap [] := va_S.rf
  have hP : va_P (dC, dI) vwCl (fl_ws cJ cI g1 gs) s.heap := hP
  have hl := lv_entry ([.ref g1, .long x]) (n := 5) (Nat.le_of_ble_eq_true rfl)
  rw [lg_entry_eq]
  generalize (lg_sl ([.ref g1, .long x]) ++ List.replicate (5 - (lg_sl ([.ref g1, .long x])).length) Slot.unset).toArray = ls at hl ⊢
  have hl : lv_has ls 5 [(0, .ref g1), (1, .long x)] := hl
  refine lv_iconst (v := nI 0) hx hb d_Y_fillJ_0 (by decide) ?_
  refine lv_istore_n (lv' := [(3, .int (nI 0)), (0, .ref g1), (1, .long x)]) hx hb d_Y_fillJ_1 rfl hl (by decide) rfl (fun ls hl => ?_)
  refine lv_aload_n hx hb d_Y_fillJ_2 rfl (lv_at hl 1 rfl) ?_
  refine va_alen (v := nI 48) hx hb hK hP 0 0 rfl rfl rfl d_Y_fillJ_3 ?_
  refine lv_istore (lv' := [(4, .int (nI 48)), (3, .int (nI 0)), (0, .ref g1), (1, .long x)]) hx hb d_Y_fillJ_4 hl (by decide) rfl (fun ls hl => ?_)
  rw [show gs = fi_c gs x 0 from fi_0 gs x] at hP hD
  refine wl_loop (σ := Nat) (dC, dI) vwCl A 6 5 (fun (i : Nat) => [(0, .ref g1), (1, .long x), (3, .int (nI i)), (4, .int (nI 48))]) (fun (i : Nat) => fl_ws cJ cI g1 (fi_c gs x i)) (fun (i : Nat) => i ≤ 48) (fun (i : Nat) => 48 - i) ?_ 0 (Nat.zero_le 48) hP hD hS (lv_sub hl [2, 3, 1, 0] rfl)
  intro i hI ih H locs ls hP hD hS hl
  have hI : i ≤ 48 := hI
  have hP : va_P (dC, dI) vwCl (fl_ws cJ cI g1 (fi_c gs x i)) H := hP
  have hD : va_D A (fl_ws cJ cI g1 (fi_c gs x i)) := hD
  have hl : lv_has ls 5 [(0, .ref g1), (1, .long x), (3, .int (nI i)), (4, .int (nI 48))] := hl
  refine lv_iload_n hx hb d_Y_fillJ_6 rfl (lv_at hl 2 rfl) ?_
  refine lv_iload hx hb d_Y_fillJ_7 (lv_at hl 3 rfl) ?_
  refine wl_ige (tgt := 22) hx hb (by omega) (by omega) d_Y_fillJ_9 (by decide) (fun hc9 => ?_) (fun hc9 => ?_)
  · rw [show i = 48 by omega] at hP hD
    obtain ⟨hP, hD⟩ := wl_nJ (g := fun _ => x) hP hD 0 rfl (fi_e gs x)
    exact W.vret hx hb hr (fun t ht hW => ⟨⟨fun _ => x, rfl, rfl, by rw [ht]; exact hP, hD⟩, hS.F ht⟩) hS.2.2 d_Y_fillJ_22
  · refine lv_aload_n hx hb d_Y_fillJ_12 rfl (lv_at hl 0 rfl) ?_
    refine lv_iload_n hx hb d_Y_fillJ_13 rfl (lv_at hl 2 rfl) ?_
    refine lv_lload_n hx hb d_Y_fillJ_14 rfl (lv_at hl 1 rfl) ?_
    refine wl_last (i := i) hx hb hK hP hD hS 0 0 rfl rfl (by omega) (by decide) d_Y_fillJ_15 (fun H locs hP hD hS => ?_)
    have hP : va_P (dC, dI) vwCl (fl_ws cJ cI g1 (vp_updL (fi_c gs x i) i x)) H := hP
    have hD : va_D A (fl_ws cJ cI g1 (vp_updL (fi_c gs x i) i x)) := hD
    refine lv_iinc (lv' := [(3, .int (nI (i + 1))), (0, .ref g1), (1, .long x), (4, .int (nI 48))]) (k := 2) (v := nI (i + 1)) hx hb d_Y_fillJ_16 hl rfl (nI_1 i) (by decide) rfl (fun ls hl => ?_)
    refine lv_goto (tgt := 6) hx hb d_Y_fillJ_19 (by decide) ?_
    rw [fi_sJ] at hP hD
    exact ih (i + 1) (show i + 1 ≤ 48 by omega) (show 48 - (i + 1) < 48 - i by omega) _ _ _ hP hD hS (lv_sub hl [1, 2, 0, 3] rfl)
set_option maxHeartbeats 4000000 in
set_option maxRecDepth 100000 in
theorem c_S_startWith (l : Launch) (dC : Nat → ClassId) (dI : Nat → Nat → Nat) (cJ cI : ClassId) (h1 n1 a1 e1 l1 b1 t1 hs : Nat) (nx : Nat → Int64) (ab : Nat → Int64) (en : Nat → Int32) (lf : Nat → Int32) (bl : Nat → Int32) (tr : Nat → Int32) (sz : Int32) (rt : Int32) (mt : Int64) (sl : Int32) (n r : Int32)  : Met l y_S_startWith w_S_startWith ({ frames := 1, cells := 0, slots := 0, locals := 24 }) (va_Pc [.ref h1, .int n, .int r] (cw_M (dC, dI) cJ cI (sd_ws cJ cI h1 n1 a1 e1 l1 b1 t1 nx ab en lf bl tr sz rt mt sl) hs)) (va_Qv (fun (u9 : Unit) => True) (fun (u9 : Unit) (t : State) => va_P (dC, dI) vwCl (sd_ws cJ cI h1 n1 a1 e1 l1 b1 t1 (fun _ => 0) ab en lf bl tr n r mt (nI 1)) t.heap ∧ va_D (va_A (sd_ws cJ cI h1 n1 a1 e1 l1 b1 t1 nx ab en lf bl tr sz rt mt sl) hs) (sd_ws cJ cI h1 n1 a1 e1 l1 b1 t1 (fun _ => 0) ab en lf bl tr n r mt (nI 1))) (va_A (sd_ws cJ cI h1 n1 a1 e1 l1 b1 t1 nx ab en lf bl tr sz rt mt sl) hs)) 0 0 (va_A (sd_ws cJ cI h1 n1 a1 e1 l1 b1 t1 nx ab en lf bl tr sz rt mt sl) hs) := by
  refine Met.ofW (cc := b_S_startWith) (maxL := 3) (ret := none) (by decide) rfl ?_
  intro p e s m args below meth c s₁ B hml hv9
  obtain ⟨rfl, hsz, ⟨hP, hK, hNw⟩, hD0⟩ := hv9
  have hx := B.exec
  have hb := B.bytes
  have hr := B.returns
  have hts := atoms_spec (ws := w_S_startWith) B.pre
  have hown : s.vm.findClass "FlowNest$Side" = some m.cls := findClass_of_methodNamed B.named
  have hlocks := B.notSynchronized
  subst hsz
  have hD := hD0.self (sz := s.heap.size)
  generalize hAe : va_A (sd_ws cJ cI h1 n1 a1 e1 l1 b1 t1 nx ab en lf bl tr sz rt mt sl) s.heap.size = A at hD ⊢
  have hA : ∀ q : Nat, s.heap.size ≤ q → A q := fun q h => by rw [← hAe]; exact Or.inr h
  have hS : va_S A s.heap s.heap [] := va_S.rf
  have hP : va_P (dC, dI) vwCl (sd_ws cJ cI h1 n1 a1 e1 l1 b1 t1 nx ab en lf bl tr sz rt mt sl) s.heap := hP
  have hl := lv_entry ([.ref h1, .int n, .int r]) (n := 3) (Nat.le_of_ble_eq_true rfl)
  rw [lg_entry_eq]
  generalize (lg_sl ([.ref h1, .int n, .int r]) ++ List.replicate (3 - (lg_sl ([.ref h1, .int n, .int r])).length) Slot.unset).toArray = ls at hl ⊢
  have hl : lv_has ls 3 [(0, .ref h1), (1, .int n), (2, .int r)] := hl
  refine lv_aload_n hx hb d_S_startWith_0 rfl (lv_at hl 0 rfl) ?_
  refine va_get (D := (dC, dI)) (ci := 1) (v := .ref n1) (C := "FlowNest$Side") (T := T_S) (N := 10) hx hb hts nm_iS hown hK hP 0 rfl rfl 0 (by decide) (hts _ (List.mem_cons_of_mem _ nm_26)) (fun _ h9 => h9) rfl d_S_startWith_1 ?_
  refine lv_lconst (v := 0) hx hb d_S_startWith_4 (by decide) ?_
  have hPc := hP.sub (ws' := fl_ws cJ cI n1 nx) [1] rfl
  have hDc := hD.sub (ws' := fl_ws cJ cI n1 nx) [1] (by decide) rfl
  have hFc := va_free (wc := fl_ws cJ cI n1 nx) hD hS hA [1] rfl
  refine va_callv (va_runS (As := [.ref n1, .long 0]) (rest := []) ⟨hx, hb, hml, hown, hts⟩ (c_Y_fillJ l dC dI cJ cI n1 s.heap.size nx 0) (va_cwS 2 hts (nm_gS nm_270 nm_271 nm_9 nm_c_Y_fillJ) rfl rfl rfl (by decide +kernel) ⟨Nat.le_of_ble_eq_true rfl, Nat.le_of_ble_eq_true rfl⟩) ⟨cw_blindM, cw_preM hPc hDc hK hNw⟩ rfl rfl hl.1 rfl (lv_room (Nat.le_of_ble_eq_true rfl)) d_S_startWith_5 ⟨Nat.zero_le _, Nat.zero_le _⟩) hS (fun q _ h => hFc q h) hFc (fun u t H1 locs ht hvm hw2 hB hz1 hk1 hS => ?_)
  obtain ⟨f3, rfl⟩ : ∃ z, z = u := ⟨_, rfl⟩
  obtain ⟨hP1, hD1⟩ := hB
  rw [ht] at hP1
  obtain ⟨hP, hD⟩ := va_join (wr := [0, 2, 3, 4, 5, 6].filterMap (fun i => (sd_ws cJ cI h1 n1 a1 e1 l1 b1 t1 nx ab en lf bl tr sz rt mt sl)[i]?)) (w1 := fl_ws cJ cI n1 f3) hP hD [1] [0, 2, 3, 4, 5, 6] rfl rfl (by decide) (by decide) hk1 hFc hP1 hD1
  generalize H1 = H at hP hS ⊢
  have hP : va_P (dC, dI) vwCl (sd_ws cJ cI h1 n1 a1 e1 l1 b1 t1 f3 ab en lf bl tr sz rt mt sl) H := hP.sub (ws' := sd_ws cJ cI h1 n1 a1 e1 l1 b1 t1 f3 ab en lf bl tr sz rt mt sl) [0, 6, 1, 2, 3, 4, 5] rfl
  have hD : va_D A (sd_ws cJ cI h1 n1 a1 e1 l1 b1 t1 f3 ab en lf bl tr sz rt mt sl) := hD.sub (ws' := sd_ws cJ cI h1 n1 a1 e1 l1 b1 t1 f3 ab en lf bl tr sz rt mt sl) [0, 6, 1, 2, 3, 4, 5] (by decide) rfl
  subst hw2
  have hP : va_P (dC, dI) vwCl (sd_ws cJ cI h1 n1 a1 e1 l1 b1 t1 (fun _ => 0) ab en lf bl tr sz rt mt sl) H := hP
  have hD : va_D A (sd_ws cJ cI h1 n1 a1 e1 l1 b1 t1 (fun _ => 0) ab en lf bl tr sz rt mt sl) := hD
  refine lv_aload_n hx hb d_S_startWith_8 rfl (lv_at hl 0 rfl) ?_
  refine lv_iload_n hx hb d_S_startWith_9 rfl (lv_at hl 1 rfl) ?_
  refine va_put (D := (dC, dI)) (ci := 1) (v := .int n) (ty := .int) (C := "FlowNest$Side") (T := T_S) (N := 10) hx hb hts nm_iS t_S t_S_ok nm_S hown hK hP hD hS 0 rfl rfl 6 (by decide) (hts _ (List.mem_cons_of_mem _ nm_37)) (fun _ h9 => h9) rfl (by decide +kernel) (by rfl) (by rfl) (Nat.le_of_ble_eq_true rfl) d_S_startWith_10 (fun H locs hP hD hS => ?_)
  have hP : va_P (dC, dI) vwCl (sd_ws cJ cI h1 n1 a1 e1 l1 b1 t1 (fun _ => 0) ab en lf bl tr n rt mt sl) H := hP
  have hD : va_D A (sd_ws cJ cI h1 n1 a1 e1 l1 b1 t1 (fun _ => 0) ab en lf bl tr n rt mt sl) := hD
  refine lv_aload_n hx hb d_S_startWith_13 rfl (lv_at hl 0 rfl) ?_
  refine lv_iload_n hx hb d_S_startWith_14 rfl (lv_at hl 2 rfl) ?_
  refine va_put (D := (dC, dI)) (ci := 1) (v := .int r) (ty := .int) (C := "FlowNest$Side") (T := T_S) (N := 10) hx hb hts nm_iS t_S t_S_ok nm_S hown hK hP hD hS 0 rfl rfl 7 (by decide) (hts _ (List.mem_cons_of_mem _ nm_39)) (fun _ h9 => h9) rfl (by decide +kernel) (by rfl) (by rfl) (Nat.le_of_ble_eq_true rfl) d_S_startWith_15 (fun H locs hP hD hS => ?_)
  have hP : va_P (dC, dI) vwCl (sd_ws cJ cI h1 n1 a1 e1 l1 b1 t1 (fun _ => 0) ab en lf bl tr n r mt sl) H := hP
  have hD : va_D A (sd_ws cJ cI h1 n1 a1 e1 l1 b1 t1 (fun _ => 0) ab en lf bl tr n r mt sl) := hD
  refine lv_aload_n hx hb d_S_startWith_18 rfl (lv_at hl 0 rfl) ?_
  refine lv_iconst (v := nI 1) hx hb d_S_startWith_19 (by decide) ?_
  refine va_put (D := (dC, dI)) (ci := 1) (v := .int (nI 1)) (ty := .boolean) (C := "FlowNest$Side") (T := T_S) (N := 10) hx hb hts nm_iS t_S t_S_ok nm_S hown hK hP hD hS 0 rfl rfl 9 (by decide) (hts _ (List.mem_cons_of_mem _ nm_44)) (fun _ h9 => h9) rfl (by decide +kernel) (by rfl) (by rfl) (Nat.le_of_ble_eq_true rfl) d_S_startWith_20 (fun H locs hP hD hS => ?_)
  have hP : va_P (dC, dI) vwCl (sd_ws cJ cI h1 n1 a1 e1 l1 b1 t1 (fun _ => 0) ab en lf bl tr n r mt (nI 1)) H := hP
  have hD : va_D A (sd_ws cJ cI h1 n1 a1 e1 l1 b1 t1 (fun _ => 0) ab en lf bl tr n r mt (nI 1)) := hD
  exact W.vret hx hb hr (fun t ht hW => ⟨⟨(), rfl, trivial, by rw [ht]; exact hP, hD⟩, hS.F ht⟩) hS.2.2 d_S_startWith_23
set_option maxHeartbeats 4000000 in
set_option maxRecDepth 100000 in
theorem c_S_turn (l : Launch) (dC : Nat → ClassId) (dI : Nat → Nat → Nat) (cJ cI : ClassId) (h1 n1 a1 e1 l1 b1 t1 hs : Nat) (nx : Nat → Int64) (ab : Nat → Int64) (en : Nat → Int32) (lf : Nat → Int32) (bl : Nat → Int32) (tr : Nat → Int32) (sz : Int32) (rt : Int32) (mt : Int64) (sl : Int32) (u v : Nat) (hu : u < 48) : Met l y_S_turn w_S_turn ({ frames := 1, cells := 0, slots := 0, locals := 20 }) (va_Pc [.ref h1, .int (nI u), .int (nI v)] (cw_M (dC, dI) cJ cI (sd_ws cJ cI h1 n1 a1 e1 l1 b1 t1 nx ab en lf bl tr sz rt mt sl) hs)) (va_Qv (fun (u9 : Unit) => True) (fun (u9 : Unit) (t : State) => va_P (dC, dI) vwCl (sd_ws cJ cI h1 n1 a1 e1 l1 b1 t1 (vp_updL nx u (nx u ^^^ bs_b v)) ab en lf bl tr sz rt mt (nI 1)) t.heap ∧ va_D (va_A (sd_ws cJ cI h1 n1 a1 e1 l1 b1 t1 nx ab en lf bl tr sz rt mt sl) hs) (sd_ws cJ cI h1 n1 a1 e1 l1 b1 t1 (vp_updL nx u (nx u ^^^ bs_b v)) ab en lf bl tr sz rt mt (nI 1))) (va_A (sd_ws cJ cI h1 n1 a1 e1 l1 b1 t1 nx ab en lf bl tr sz rt mt sl) hs)) 0 0 (va_A (sd_ws cJ cI h1 n1 a1 e1 l1 b1 t1 nx ab en lf bl tr sz rt mt sl) hs) := by
  refine Met.ofW (cc := b_S_turn) (maxL := 3) (ret := none) (by decide) rfl ?_
  intro p e s m args below meth c s₁ B hml hv9
  obtain ⟨rfl, hsz, ⟨hP, hK, hNw⟩, hD0⟩ := hv9
  have hx := B.exec
  have hb := B.bytes
  have hr := B.returns
  have hts := atoms_spec (ws := w_S_turn) B.pre
  have hown : s.vm.findClass "FlowNest$Side" = some m.cls := findClass_of_methodNamed B.named
  have hlocks := B.notSynchronized
  subst hsz
  have hD := hD0.self (sz := s.heap.size)
  generalize hAe : va_A (sd_ws cJ cI h1 n1 a1 e1 l1 b1 t1 nx ab en lf bl tr sz rt mt sl) s.heap.size = A at hD ⊢
  have hA : ∀ q : Nat, s.heap.size ≤ q → A q := fun q h => by rw [← hAe]; exact Or.inr h
  have hS : va_S A s.heap s.heap [] := va_S.rf
  have hP : va_P (dC, dI) vwCl (sd_ws cJ cI h1 n1 a1 e1 l1 b1 t1 nx ab en lf bl tr sz rt mt sl) s.heap := hP
  have hl := lv_entry ([.ref h1, .int (nI u), .int (nI v)]) (n := 3) (Nat.le_of_ble_eq_true rfl)
  rw [lg_entry_eq]
  generalize (lg_sl ([.ref h1, .int (nI u), .int (nI v)]) ++ List.replicate (3 - (lg_sl ([.ref h1, .int (nI u), .int (nI v)])).length) Slot.unset).toArray = ls at hl ⊢
  have hl : lv_has ls 3 [(0, .ref h1), (1, .int (nI u)), (2, .int (nI v))] := hl
  refine lv_aload_n hx hb d_S_turn_0 rfl (lv_at hl 0 rfl) ?_
  refine va_get (D := (dC, dI)) (ci := 1) (v := .ref n1) (C := "FlowNest$Side") (T := T_S) (N := 10) hx hb hts nm_iS hown hK hP 0 rfl rfl 0 (by decide) (hts _ (List.mem_cons_of_mem _ nm_26)) (fun _ h9 => h9) rfl d_S_turn_1 ?_
  refine lv_iload_n hx hb d_S_turn_4 rfl (lv_at hl 1 rfl) ?_
  refine lv_dup2_11 hx hb d_S_turn_5 rfl rfl ?_
  refine wl_lald (i := u) hx hb hK hP 1 0 rfl rfl (by omega) (by decide) d_S_turn_6 ?_
  refine lv_iload_n hx hb d_S_turn_7 rfl (lv_at hl 2 rfl) ?_
  refine vp_callSl (va_Run.run (va_runSN (As := [.int (nI v)]) (rest := [.long (nx u), .int (nI u), .ref n1]) ⟨hx, hb, hml, hown, hts⟩ (c_F_bit l v) ⟨va_cnB 1 hts (nm_gi nm_c_F_bit) rfl rfl rfl (nw_S_52 hNw) (hts _ (List.mem_cons_of_mem _ nm_1)) (by decide +kernel) ⟨Nat.le_of_ble_eq_true rfl, Nat.le_of_ble_eq_true rfl⟩, (hts _ (List.mem_cons_of_mem _ nm_119)), trivial⟩ ⟨fun _ _ _ _ q => ⟨q.1, trivial⟩, fun U hU hW => ⟨rfl, trivial⟩⟩ rfl rfl hl.1 rfl (lv_room (Nat.le_of_ble_eq_true rfl)) d_S_turn_8 ⟨Nat.zero_le _, Nat.zero_le _⟩)) (fun r hr => ?_)
  subst hr
  refine lv_lxor hx hb d_S_turn_11 ?_
  refine wl_last (i := u) hx hb hK hP hD hS 1 0 rfl rfl (by omega) (by decide) d_S_turn_12 (fun H locs hP hD hS => ?_)
  have hP : va_P (dC, dI) vwCl (sd_ws cJ cI h1 n1 a1 e1 l1 b1 t1 (vp_updL nx u ((nx u) ^^^ (bs_b v))) ab en lf bl tr sz rt mt sl) H := hP
  have hD : va_D A (sd_ws cJ cI h1 n1 a1 e1 l1 b1 t1 (vp_updL nx u ((nx u) ^^^ (bs_b v))) ab en lf bl tr sz rt mt sl) := hD
  refine lv_aload_n hx hb d_S_turn_13 rfl (lv_at hl 0 rfl) ?_
  refine lv_iconst (v := nI 1) hx hb d_S_turn_14 (by decide) ?_
  refine va_put (D := (dC, dI)) (ci := 1) (v := .int (nI 1)) (ty := .boolean) (C := "FlowNest$Side") (T := T_S) (N := 10) hx hb hts nm_iS t_S t_S_ok nm_S hown hK hP hD hS 0 rfl rfl 9 (by decide) (hts _ (List.mem_cons_of_mem _ nm_44)) (fun _ h9 => h9) rfl (by decide +kernel) (by rfl) (by rfl) (Nat.le_of_ble_eq_true rfl) d_S_turn_15 (fun H locs hP hD hS => ?_)
  have hP : va_P (dC, dI) vwCl (sd_ws cJ cI h1 n1 a1 e1 l1 b1 t1 (vp_updL nx u ((nx u) ^^^ (bs_b v))) ab en lf bl tr sz rt mt (nI 1)) H := hP
  have hD : va_D A (sd_ws cJ cI h1 n1 a1 e1 l1 b1 t1 (vp_updL nx u ((nx u) ^^^ (bs_b v))) ab en lf bl tr sz rt mt (nI 1)) := hD
  exact W.vret hx hb hr (fun t ht hW => ⟨⟨(), rfl, trivial, by rw [ht]; exact hP, hD⟩, hS.F ht⟩) hS.2.2 d_S_turn_18
set_option maxHeartbeats 4000000 in
set_option maxRecDepth 100000 in
theorem c_S_moveRoot (l : Launch) (dC : Nat → ClassId) (dI : Nat → Nat → Nat) (cJ cI : ClassId) (h1 n1 a1 e1 l1 b1 t1 hs : Nat) (nx : Nat → Int64) (ab : Nat → Int64) (en : Nat → Int32) (lf : Nat → Int32) (bl : Nat → Int32) (tr : Nat → Int32) (sz : Int32) (rt : Int32) (mt : Int64) (sl : Int32) (v : Int32)  : Met l y_S_moveRoot w_S_moveRoot ({ frames := 0, cells := 0, slots := 0, locals := 0 }) (va_Pc [.ref h1, .int v] (cw_M (dC, dI) cJ cI (sd_ws cJ cI h1 n1 a1 e1 l1 b1 t1 nx ab en lf bl tr sz rt mt sl) hs)) (va_Qi (fun (r : Int32) (u9 : Unit) => r = rt) (fun (u9 : Unit) (t : State) => va_P (dC, dI) vwCl (sd_ws cJ cI h1 n1 a1 e1 l1 b1 t1 nx ab en lf bl tr sz v mt (nI 1)) t.heap ∧ va_D (va_A (sd_ws cJ cI h1 n1 a1 e1 l1 b1 t1 nx ab en lf bl tr sz rt mt sl) hs) (sd_ws cJ cI h1 n1 a1 e1 l1 b1 t1 nx ab en lf bl tr sz v mt (nI 1))) (va_A (sd_ws cJ cI h1 n1 a1 e1 l1 b1 t1 nx ab en lf bl tr sz rt mt sl) hs)) 0 0 (va_A (sd_ws cJ cI h1 n1 a1 e1 l1 b1 t1 nx ab en lf bl tr sz rt mt sl) hs) := by
  refine Met.ofW (cc := b_S_moveRoot) (maxL := 3) (ret := (some .int)) (by decide) rfl ?_
  intro p e s m args below meth c s₁ B hml hv9
  obtain ⟨rfl, hsz, ⟨hP, hK, hNw⟩, hD0⟩ := hv9
  have hx := B.exec
  have hb := B.bytes
  have hr := B.returns
  have hts := atoms_spec (ws := w_S_moveRoot) B.pre
  have hown : s.vm.findClass "FlowNest$Side" = some m.cls := findClass_of_methodNamed B.named
  have hlocks := B.notSynchronized
  subst hsz
  have hD := hD0.self (sz := s.heap.size)
  generalize hAe : va_A (sd_ws cJ cI h1 n1 a1 e1 l1 b1 t1 nx ab en lf bl tr sz rt mt sl) s.heap.size = A at hD ⊢
  have hA : ∀ q : Nat, s.heap.size ≤ q → A q := fun q h => by rw [← hAe]; exact Or.inr h
  have hS : va_S A s.heap s.heap [] := va_S.rf
  have hP : va_P (dC, dI) vwCl (sd_ws cJ cI h1 n1 a1 e1 l1 b1 t1 nx ab en lf bl tr sz rt mt sl) s.heap := hP
  have hl := lv_entry ([.ref h1, .int v]) (n := 3) (Nat.le_of_ble_eq_true rfl)
  rw [lg_entry_eq]
  generalize (lg_sl ([.ref h1, .int v]) ++ List.replicate (3 - (lg_sl ([.ref h1, .int v])).length) Slot.unset).toArray = ls at hl ⊢
  have hl : lv_has ls 3 [(0, .ref h1), (1, .int v)] := hl
  refine lv_aload_n hx hb d_S_moveRoot_0 rfl (lv_at hl 0 rfl) ?_
  refine va_get (D := (dC, dI)) (ci := 1) (v := .int rt) (C := "FlowNest$Side") (T := T_S) (N := 10) hx hb hts nm_iS hown hK hP 0 rfl rfl 7 (by decide) (hts _ (List.mem_cons_of_mem _ nm_39)) (fun _ h9 => h9) rfl d_S_moveRoot_1 ?_
  refine lv_istore_n (lv' := [(2, .int rt), (0, .ref h1), (1, .int v)]) hx hb d_S_moveRoot_4 rfl hl (by decide) rfl (fun ls hl => ?_)
  refine lv_aload_n hx hb d_S_moveRoot_5 rfl (lv_at hl 1 rfl) ?_
  refine lv_iload_n hx hb d_S_moveRoot_6 rfl (lv_at hl 2 rfl) ?_
  refine va_put (D := (dC, dI)) (ci := 1) (v := .int v) (ty := .int) (C := "FlowNest$Side") (T := T_S) (N := 10) hx hb hts nm_iS t_S t_S_ok nm_S hown hK hP hD hS 0 rfl rfl 7 (by decide) (hts _ (List.mem_cons_of_mem _ nm_39)) (fun _ h9 => h9) rfl (by decide +kernel) (by rfl) (by rfl) (Nat.le_of_ble_eq_true rfl) d_S_moveRoot_7 (fun H locs hP hD hS => ?_)
  have hP : va_P (dC, dI) vwCl (sd_ws cJ cI h1 n1 a1 e1 l1 b1 t1 nx ab en lf bl tr sz v mt sl) H := hP
  have hD : va_D A (sd_ws cJ cI h1 n1 a1 e1 l1 b1 t1 nx ab en lf bl tr sz v mt sl) := hD
  refine lv_aload_n hx hb d_S_moveRoot_10 rfl (lv_at hl 1 rfl) ?_
  refine lv_iconst (v := nI 1) hx hb d_S_moveRoot_11 (by decide) ?_
  refine va_put (D := (dC, dI)) (ci := 1) (v := .int (nI 1)) (ty := .boolean) (C := "FlowNest$Side") (T := T_S) (N := 10) hx hb hts nm_iS t_S t_S_ok nm_S hown hK hP hD hS 0 rfl rfl 9 (by decide) (hts _ (List.mem_cons_of_mem _ nm_44)) (fun _ h9 => h9) rfl (by decide +kernel) (by rfl) (by rfl) (Nat.le_of_ble_eq_true rfl) d_S_moveRoot_12 (fun H locs hP hD hS => ?_)
  have hP : va_P (dC, dI) vwCl (sd_ws cJ cI h1 n1 a1 e1 l1 b1 t1 nx ab en lf bl tr sz v mt (nI 1)) H := hP
  have hD : va_D A (sd_ws cJ cI h1 n1 a1 e1 l1 b1 t1 nx ab en lf bl tr sz v mt (nI 1)) := hD
  refine lv_iload_n hx hb d_S_moveRoot_15 rfl (lv_at hl 0 rfl) ?_
  exact W.iret (v := rt) hx hb hr (fun t ht hW => ⟨⟨rt, (), rfl, rfl, by rw [ht]; exact hP, hD⟩, hS.F ht⟩) hS.2.2 d_S_moveRoot_16
