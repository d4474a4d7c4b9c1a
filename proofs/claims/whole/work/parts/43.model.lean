/-! contracts of the reference: what only reads (laid by wip/gen/model.py) -/
set_option maxHeartbeats 4000000 in
set_option maxRecDepth 100000 in
theorem c_M_isVertex (l : Launch) (dC : Nat → ClassId) (dI : Nat → Nat → Nat) (cJ cI : ClassId) (h3 k3 o3 w3 v3 p3 e3 f3 q3 : Nat) (cd : Int32) (ey : Int32) (ex : Int32) (kn : Int32) (rc : Int64) (eg : Int64) (li : Nat → Int64) (so : Nat → Int64) (wi : Nat → Int64) (ew : Nat → Int64) (lo : Nat → Int64) (en : Nat → Int32) (le : Nat → Int32) (pi : Nat → Int32) (n : Nat) (v : Int32) (hn : n ≤ 48) : Met l y_M_isVertex w_M_isVertex ({ frames := 0, cells := 0, slots := 0, locals := 0 }) (va_Pc [.ref h3, .int v] (cw_B (dC, dI) cJ cI (md_ws cJ cI h3 k3 o3 w3 v3 p3 e3 f3 q3 cd (nI n) ey ex kn rc eg li so wi ew lo en le pi))) (vp_Si (fun r => ((∃ k, k < n ∧ v = nI k) ∧ r = nI 1) ∨ ((¬ ∃ k, k < n ∧ v = nI k) ∧ r = nI 0))) 0 0 (fun _ => False) := by
  refine Met.ofW (cc := b_M_isVertex) (maxL := 2) (ret := (some .boolean)) (by decide) rfl ?_
  intro p e s m args below meth c s₁ B hml hv9
  obtain ⟨rfl, hP, hK, hNw⟩ := hv9
  have hx := B.exec
  have hb := B.bytes
  have hr := B.returns
  have hts := atoms_spec (ws := w_M_isVertex) B.pre
  have hown : s.vm.findClass "FlowNestModel" = some m.cls := findClass_of_methodNamed B.named
  have hlocks := B.notSynchronized
  have hP : va_P (dC, dI) vwCl (md_ws cJ cI h3 k3 o3 w3 v3 p3 e3 f3 q3 cd (nI n) ey ex kn rc eg li so wi ew lo en le pi) s.heap := hP
  have hl := lv_entry ([.ref h3, .int v]) (n := 2) (Nat.le_of_ble_eq_true rfl)
  rw [lg_entry_eq]
  generalize (lg_sl ([.ref h3, .int v]) ++ List.replicate (2 - (lg_sl ([.ref h3, .int v])).length) Slot.unset).toArray = ls at hl ⊢
  have hl : lv_has ls 2 [(0, .ref h3), (1, .int v)] := hl
  refine lv_iload_n hx hb d_M_isVertex_0 rfl (lv_at hl 1 rfl) ?_
  refine lv_if_lt (tgt := 16) hx hb d_M_isVertex_1 (by decide) (fun hc1 => ?_) (fun hc1 => ?_)
  · refine lv_iconst (v := nI 0) hx hb d_M_isVertex_16 (by decide) ?_
    exact W.zret (v := nI 0) hx hb hr (by decide) (fun t ht hW => ⟨_, rfl, Or.inr ⟨vn_lo hc1 n hn, rfl⟩, ht⟩) (fun _ h => nomatch h) d_M_isVertex_17
  · refine lv_iload_n hx hb d_M_isVertex_4 rfl (lv_at hl 1 rfl) ?_
    refine lv_aload_n hx hb d_M_isVertex_5 rfl (lv_at hl 0 rfl) ?_
    refine va_get (D := (dC, dI)) (ci := 3) (v := .int (nI n)) (C := "FlowNestModel") (T := T_M) (N := 15) hx hb hts nm_iM hown hK hP 0 rfl rfl 1 (by decide) (hts _ (List.mem_cons_of_mem _ nm_415)) (fun _ h9 => h9) rfl d_M_isVertex_6 ?_
    refine lv_icmp_ge (tgt := 16) hx hb d_M_isVertex_9 (by decide) (fun hc9 => ?_) (fun hc9 => ?_)
    · refine lv_iconst (v := nI 0) hx hb d_M_isVertex_16 (by decide) ?_
      exact W.zret (v := nI 0) hx hb hr (by decide) (fun t ht hW => ⟨_, rfl, Or.inr ⟨vn_hi hc9 hn, rfl⟩, ht⟩) (fun _ h => nomatch h) d_M_isVertex_17
    · refine lv_iconst (v := nI 1) hx hb d_M_isVertex_12 (by decide) ?_
      refine lv_goto (tgt := 17) hx hb d_M_isVertex_13 (by decide) ?_
      exact W.zret (v := nI 1) hx hb hr (by decide) (fun t ht hW => ⟨_, rfl, Or.inl ⟨vn_in hc1 hc9 hn, rfl⟩, ht⟩) (fun _ h => nomatch h) d_M_isVertex_17
set_option maxHeartbeats 4000000 in
set_option maxRecDepth 100000 in
theorem c_M_sizeOf (l : Launch) (dC : Nat → ClassId) (dI : Nat → Nat → Nat) (cJ cI : ClassId) (h3 k3 o3 w3 v3 p3 e3 f3 q3 : Nat) (cd : Int32) (ey : Int32) (ex : Int32) (kn : Int32) (rc : Int64) (eg : Int64) (li : Nat → Int64) (so : Nat → Int64) (wi : Nat → Int64) (ew : Nat → Int64) (lo : Nat → Int64) (en : Nat → Int32) (le : Nat → Int32) (pi : Nat → Int32) (n : Nat) (x : Int64) (hn : n ≤ 48) : Met l y_M_sizeOf w_M_sizeOf ({ frames := 1, cells := 0, slots := 0, locals := 22 }) (va_Pc [.ref h3, .long x] (cw_B (dC, dI) cJ cI (md_ws cJ cI h3 k3 o3 w3 v3 p3 e3 f3 q3 cd (nI n) ey ex kn rc eg li so wi ew lo en le pi))) (vp_Si (fun r => r = nI (ct_n (bs_t x) n))) 0 0 (fun _ => False) := by
  refine Met.ofW (cc := b_M_sizeOf) (maxL := 5) (ret := (some .int)) (by decide) rfl ?_
  intro p e s m args below meth c s₁ B hml hv9
  obtain ⟨rfl, hP, hK, hNw⟩ := hv9
  have hx := B.exec
  have hb := B.bytes
  have hr := B.returns
  have hts := atoms_spec (ws := w_M_sizeOf) B.pre
  have hown : s.vm.findClass "FlowNestModel" = some m.cls := findClass_of_methodNamed B.named
  have hlocks := B.notSynchronized
  have hP : va_P (dC, dI) vwCl (md_ws cJ cI h3 k3 o3 w3 v3 p3 e3 f3 q3 cd (nI n) ey ex kn rc eg li so wi ew lo en le pi) s.heap := hP
  have hl := lv_entry ([.ref h3, .long x]) (n := 5) (Nat.le_of_ble_eq_true rfl)
  rw [lg_entry_eq]
  generalize (lg_sl ([.ref h3, .long x]) ++ List.replicate (5 - (lg_sl ([.ref h3, .long x])).length) Slot.unset).toArray = ls at hl ⊢
  have hl : lv_has ls 5 [(0, .ref h3), (1, .long x)] := hl
  refine lv_iconst (v := nI 0) hx hb d_M_sizeOf_0 (by decide) ?_
  refine lv_istore_n (lv' := [(3, .int (nI 0)), (0, .ref h3), (1, .long x)]) hx hb d_M_sizeOf_1 rfl hl (by decide) rfl (fun ls hl => ?_)
  refine lv_iconst (v := nI 0) hx hb d_M_sizeOf_2 (by decide) ?_
  refine lv_istore (lv' := [(4, .int (nI 0)), (3, .int (nI 0)), (0, .ref h3), (1, .long x)]) hx hb d_M_sizeOf_3 hl (by decide) rfl (fun ls hl => ?_)
  refine wl_loopR (σ := Nat) 5 5 (fun (k : Nat) => [(0, .ref h3), (1, .long x), (3, .int (nI (ct_n (bs_t x) k))), (4, .int (nI k))]) (fun (k : Nat) => k ≤ n) (fun (k : Nat) => n - k) ?_ 0 (Nat.zero_le n) (lv_sub hl [2, 3, 1, 0] rfl)
  clear hl
  intro k hI ih ls hl
  have hI : k ≤ n := hI
  have hl : lv_has ls 5 [(0, .ref h3), (1, .long x), (3, .int (nI (ct_n (bs_t x) k))), (4, .int (nI k))] := hl
  refine lv_iload hx hb d_M_sizeOf_5 (lv_at hl 3 rfl) ?_
  refine lv_aload_n hx hb d_M_sizeOf_7 rfl (lv_at hl 0 rfl) ?_
  refine va_get (D := (dC, dI)) (ci := 3) (v := .int (nI n)) (C := "FlowNestModel") (T := T_M) (N := 15) hx hb hts nm_iM hown hK hP 0 rfl rfl 1 (by decide) (hts _ (List.mem_cons_of_mem _ nm_415)) (fun _ h9 => h9) rfl d_M_sizeOf_8 ?_
  refine wl_ige (tgt := 37) hx hb (by omega) (by omega) d_M_sizeOf_11 (by decide) (fun hc11 => ?_) (fun hc11 => ?_)
  · refine lv_iload_n hx hb d_M_sizeOf_37 rfl (lv_at hl 2 rfl) ?_
    exact W.iret (v := nI (ct_n (bs_t x) k)) hx hb hr (fun t ht hW => ⟨_, rfl, by rw [show k = n by omega], ht⟩) (fun _ h => nomatch h) d_M_sizeOf_38
  · refine lv_iload_n hx hb d_M_sizeOf_14 rfl (lv_at hl 2 rfl) ?_
    refine lv_lload_n hx hb d_M_sizeOf_15 rfl (lv_at hl 1 rfl) ?_
    refine lv_iload hx hb d_M_sizeOf_16 (lv_at hl 3 rfl) ?_
    refine vp_callSi (va_Run.run (va_runS (As := [.long x, .int (nI k)]) (rest := [.int (nI (ct_n (bs_t x) k))]) ⟨hx, hb, hml, hown, hts⟩ (c_M_has l x k (by omega)) (va_cwS 2 hts (nm_gS nm_476 nm_477 nm_4 nm_c_M_has) rfl rfl rfl (by decide +kernel) ⟨Nat.le_of_ble_eq_true rfl, Nat.le_of_ble_eq_true rfl⟩) ⟨fun _ _ _ _ q => ⟨q.1, trivial⟩, fun U hU hW => ⟨rfl, trivial⟩⟩ rfl rfl hl.1 rfl (lv_room (Nat.le_of_ble_eq_true rfl)) d_M_sizeOf_18 ⟨Nat.zero_le _, Nat.zero_le _⟩)) (fun r hr => ?_)
    subst hr
    refine wl_ifeqb (tgt := 28) hx hb d_M_sizeOf_21 (by decide) (fun hc21 => ?_) (fun hc21 => ?_)
    · refine lv_iconst (v := nI 0) hx hb d_M_sizeOf_28 (by decide) ?_
      refine wl_iaddn hx hb d_M_sizeOf_29 ?_
      refine lv_istore_n (lv' := [(3, .int (nI ((ct_n (bs_t x) k) + 0))), (0, .ref h3), (1, .long x), (4, .int (nI k))]) hx hb d_M_sizeOf_30 rfl hl (by decide) rfl (fun ls hl => ?_)
      refine lv_iinc (lv' := [(4, .int (nI (k + 1))), (3, .int (nI ((ct_n (bs_t x) k) + 0))), (0, .ref h3), (1, .long x)]) (k := 3) (v := nI (k + 1)) hx hb d_M_sizeOf_31 hl rfl (nI_1 k) (by decide) rfl (fun ls hl => ?_)
      refine lv_goto (tgt := 5) hx hb d_M_sizeOf_34 (by decide) ?_
      rw [show ct_n (bs_t x) k + 0 = ct_n (bs_t x) (k + 1) from ct_s0 (p := bs_t x) hc21] at hl
      exact ih (k + 1) (show k + 1 ≤ n by omega) (show n - (k + 1) < n - k by omega) _ (lv_sub hl [2, 3, 1, 0] rfl)
    · refine lv_iconst (v := nI 1) hx hb d_M_sizeOf_24 (by decide) ?_
      refine lv_goto (tgt := 29) hx hb d_M_sizeOf_25 (by decide) ?_
      refine wl_iaddn hx hb d_M_sizeOf_29 ?_
      refine lv_istore_n (lv' := [(3, .int (nI ((ct_n (bs_t x) k) + 1))), (0, .ref h3), (1, .long x), (4, .int (nI k))]) hx hb d_M_sizeOf_30 rfl hl (by decide) rfl (fun ls hl => ?_)
      refine lv_iinc (lv' := [(4, .int (nI (k + 1))), (3, .int (nI ((ct_n (bs_t x) k) + 1))), (0, .ref h3), (1, .long x)]) (k := 3) (v := nI (k + 1)) hx hb d_M_sizeOf_31 hl rfl (nI_1 k) (by decide) rfl (fun ls hl => ?_)
      refine lv_goto (tgt := 5) hx hb d_M_sizeOf_34 (by decide) ?_
      rw [show ct_n (bs_t x) k + 1 = ct_n (bs_t x) (k + 1) from ct_s1 (p := bs_t x) hc21] at hl
      exact ih (k + 1) (show k + 1 ≤ n by omega) (show n - (k + 1) < n - k by omega) _ (lv_sub hl [2, 3, 1, 0] rfl)
set_option maxHeartbeats 4000000 in
set_option maxRecDepth 100000 in
theorem c_M_comeTo_n0 (l : Launch) (dC : Nat → ClassId) (dI : Nat → Nat → Nat) (cJ cI : ClassId) (h3 k3 o3 w3 v3 p3 e3 f3 q3 : Nat) (cd : Int32) (ey : Int32) (ex : Int32) (kn : Int32) (rc : Int64) (eg : Int64) (li : Nat → Int64) (so : Nat → Int64) (wi : Nat → Int64) (ew : Nat → Int64) (lo : Nat → Int64) (en : Nat → Int32) (le : Nat → Int32) (pi : Nat → Int32) (n a : Nat) (hn : n ≤ 48) (ha : a < n) : Met l y_M_comeTo w_M_comeTo ({ frames := 1, cells := 0, slots := 0, locals := 22 }) (va_Pc [.ref h3, .int (nI a), .int (-1), .int (nI 0)] (cw_B (dC, dI) cJ cI (md_ws cJ cI h3 k3 o3 w3 v3 p3 e3 f3 q3 cd (nI n) ey ex kn rc eg li so wi ew lo en le pi))) (vp_Sl (fun r => r = sp_cm n li a 64)) 0 0 (fun _ => False) := by
  refine Met.ofW (cc := b_M_comeTo) (maxL := 9) (ret := (some .long)) (by decide) rfl ?_
  intro p e s m args below meth c s₁ B hml hv9
  obtain ⟨rfl, hP, hK, hNw⟩ := hv9
  have hx := B.exec
  have hb := B.bytes
  have hr := B.returns
  have hts := atoms_spec (ws := w_M_comeTo) B.pre
  have hown : s.vm.findClass "FlowNestModel" = some m.cls := findClass_of_methodNamed B.named
  have hlocks := B.notSynchronized
  have hP : va_P (dC, dI) vwCl (md_ws cJ cI h3 k3 o3 w3 v3 p3 e3 f3 q3 cd (nI n) ey ex kn rc eg li so wi ew lo en le pi) s.heap := hP
  have hl := lv_entry ([.ref h3, .int (nI a), .int (-1), .int (nI 0)]) (n := 9) (Nat.le_of_ble_eq_true rfl)
  rw [lg_entry_eq]
  generalize (lg_sl ([.ref h3, .int (nI a), .int (-1), .int (nI 0)]) ++ List.replicate (9 - (lg_sl ([.ref h3, .int (nI a), .int (-1), .int (nI 0)])).length) Slot.unset).toArray = ls at hl ⊢
  have hl : lv_has ls 9 [(0, .ref h3), (1, .int (nI a)), (2, .int (-1)), (3, .int (nI 0))] := hl
  refine lv_iload_n hx hb d_M_comeTo_0 rfl (lv_at hl 1 rfl) ?_
  refine lv_iload_n hx hb d_M_comeTo_1 rfl (lv_at hl 2 rfl) ?_
  refine lv_icmp_ne (tgt := 7) hx hb d_M_comeTo_2 (by decide) (fun hc2 => ?_) (fun hc2 => ?_)
  · refine lv_lconst (v := 1) hx hb d_M_comeTo_7 (by decide) ?_
    refine lv_iload_n hx hb d_M_comeTo_8 rfl (lv_at hl 1 rfl) ?_
    refine lv_lshl (v := bs_b a) hx hb d_M_comeTo_9 rfl ?_
    refine lv_lstore (lv' := [(4, .long (bs_b a)), (0, .ref h3), (1, .int (nI a)), (2, .int (-1)), (3, .int (nI 0))]) hx hb d_M_comeTo_10 hl (by decide) rfl (fun ls hl => ?_)
    refine lv_lconst (v := 0) hx hb d_M_comeTo_12 (by decide) ?_
    refine lv_lstore (lv' := [(6, .long 0), (4, .long (bs_b a)), (0, .ref h3), (1, .int (nI a)), (2, .int (-1)), (3, .int (nI 0))]) hx hb d_M_comeTo_13 hl (by decide) rfl (fun ls hl => ?_)
    refine wl_loopR (σ := Int64 × Int64) 15 9 (fun (x : Int64 × Int64) => match x with | (x, old) => [(0, .ref h3), (1, .int (nI a)), (2, .int (-1)), (3, .int (nI 0)), (4, .long x), (6, .long old)]) (fun (x : Int64 × Int64) => match x with | (x, old) => md_I n li a 64 x old) (fun (x : Int64 × Int64) => match x with | (x, old) => 64 - bs_c old) ?_ ((bs_b a), 0) (md_I0 (by omega) (by omega)) (lv_sub hl [2, 3, 4, 5, 1, 0] rfl)
    clear hl
    intro x hI ih ls hl
    obtain ⟨x, old⟩ := x
    have hI : md_I n li a 64 x old := hI
    have hl : lv_has ls 9 [(0, .ref h3), (1, .int (nI a)), (2, .int (-1)), (3, .int (nI 0)), (4, .long x), (6, .long old)] := hl
    have hI0 := hI
    have ih0 := ih
    refine lv_lload hx hb d_M_comeTo_15 (lv_at hl 4 rfl) ?_
    refine lv_lload hx hb d_M_comeTo_17 (lv_at hl 5 rfl) ?_
    refine wl_lcmpeq (tgt := 105) hx hb d_M_comeTo_19 d_M_comeTo_20 (by decide) (fun hc19 => ?_) (fun hc19 => ?_)
    · refine lv_lload hx hb d_M_comeTo_105 (lv_at hl 4 rfl) ?_
      exact W.lret (v := x) hx hb hr (fun t ht hW => ⟨_, rfl, sp_cm_end (by omega) hI0 hc19, ht⟩) (fun _ h => nomatch h) d_M_comeTo_107
    · refine lv_lload hx hb d_M_comeTo_23 (lv_at hl 4 rfl) ?_
      refine lv_lstore (lv' := [(6, .long x), (0, .ref h3), (1, .int (nI a)), (2, .int (-1)), (3, .int (nI 0)), (4, .long x)]) hx hb d_M_comeTo_25 hl (by decide) rfl (fun ls hl => ?_)
      refine lv_iconst (v := nI 0) hx hb d_M_comeTo_27 (by decide) ?_
      refine lv_istore (lv' := [(8, .int (nI 0)), (6, .long x), (0, .ref h3), (1, .int (nI a)), (2, .int (-1)), (3, .int (nI 0)), (4, .long x)]) hx hb d_M_comeTo_28 hl (by decide) rfl (fun ls hl => ?_)
      refine wl_loopR (σ := Nat) 30 9 (fun (v : Nat) => [(0, .ref h3), (1, .int (nI a)), (2, .int (-1)), (3, .int (nI 0)), (4, .long (md_or li x x v)), (6, .long x), (8, .int (nI v))]) (fun (v : Nat) => v ≤ n) (fun (v : Nat) => n - v) ?_ 0 (Nat.zero_le n) (lv_sub hl [2, 3, 4, 5, 6, 1, 0] rfl)
      clear hl
      intro v hI ih ls hl
      have hI : v ≤ n := hI
      have hl : lv_has ls 9 [(0, .ref h3), (1, .int (nI a)), (2, .int (-1)), (3, .int (nI 0)), (4, .long (md_or li x x v)), (6, .long x), (8, .int (nI v))] := hl
      have hv9 := hI
      clear hI
      refine lv_iload hx hb d_M_comeTo_30 (lv_at hl 6 rfl) ?_
      refine lv_aload_n hx hb d_M_comeTo_32 rfl (lv_at hl 0 rfl) ?_
      refine va_get (D := (dC, dI)) (ci := 3) (v := .int (nI n)) (C := "FlowNestModel") (T := T_M) (N := 15) hx hb hts nm_iM hown hK hP 0 rfl rfl 1 (by decide) (hts _ (List.mem_cons_of_mem _ nm_415)) (fun _ h9 => h9) rfl d_M_comeTo_33 ?_
      refine wl_ige (tgt := 81) hx hb (by omega) (by omega) d_M_comeTo_36 (by decide) (fun hc36 => ?_) (fun hc36 => ?_)
      · refine lv_iload_n hx hb d_M_comeTo_81 rfl (lv_at hl 2 rfl) ?_
        refine lv_if_ge (tgt := 90) hx hb d_M_comeTo_82 (by decide) (fun hc82 => ?_) (fun hc82 => ?_)
        · exact absurd hc82 (by decide)
        · refine lv_lload hx hb d_M_comeTo_85 (lv_at hl 4 rfl) ?_
          refine lv_goto (tgt := 100) hx hb d_M_comeTo_87 (by decide) ?_
          refine lv_lstore (lv' := [(4, .long (md_or li x x v)), (0, .ref h3), (1, .int (nI a)), (2, .int (-1)), (3, .int (nI 0)), (6, .long x), (8, .int (nI v))]) hx hb d_M_comeTo_100 hl (by decide) rfl (fun ls hl => ?_)
          refine lv_goto (tgt := 15) hx hb d_M_comeTo_102 (by decide) ?_
          have ev : v = n := by omega
          rw [ev] at hl
          rw [md_F_none] at hl
          exact ih0 ((md_F n li 64 x), x) (md_Is hI0) (md_Im hI0 hc19) _ (lv_sub hl [1, 2, 3, 4, 0, 5] rfl)
      · refine lv_lload hx hb d_M_comeTo_39 (lv_at hl 5 rfl) ?_
        refine lv_iload hx hb d_M_comeTo_41 (lv_at hl 6 rfl) ?_
        refine vp_callSi (va_Run.run (va_runS (As := [.long x, .int (nI v)]) (rest := []) ⟨hx, hb, hml, hown, hts⟩ (c_M_has l x v (by omega)) (va_cwS 2 hts (nm_gS nm_476 nm_477 nm_4 nm_c_M_has) rfl rfl rfl (by decide +kernel) ⟨Nat.le_of_ble_eq_true rfl, Nat.le_of_ble_eq_true rfl⟩) ⟨fun _ _ _ _ q => ⟨q.1, trivial⟩, fun U hU hW => ⟨rfl, trivial⟩⟩ rfl rfl hl.1 rfl (lv_room (Nat.le_of_ble_eq_true rfl)) d_M_comeTo_43 ⟨Nat.zero_le _, Nat.zero_le _⟩)) (fun r hr => ?_)
        subst hr
        refine wl_ifeqb (tgt := 75) hx hb d_M_comeTo_46 (by decide) (fun hc46 => ?_) (fun hc46 => ?_)
        · refine lv_iinc (lv' := [(8, .int (nI (v + 1))), (0, .ref h3), (1, .int (nI a)), (2, .int (-1)), (3, .int (nI 0)), (4, .long (md_or li x x v)), (6, .long x)]) (k := 6) (v := nI (v + 1)) hx hb d_M_comeTo_75 hl rfl (nI_1 v) (by decide) rfl (fun ls hl => ?_)
          refine lv_goto (tgt := 30) hx hb d_M_comeTo_78 (by decide) ?_
          rw [show md_or li x x v = md_or li x x (v + 1) from (if_neg (Bool.eq_false_iff.mp hc46)).symm] at hl
          exact ih (v + 1) (show v + 1 ≤ n by omega) (show n - (v + 1) < n - v by omega) _ (lv_sub hl [1, 2, 3, 4, 5, 6, 0] rfl)
        · refine lv_lload hx hb d_M_comeTo_49 (lv_at hl 4 rfl) ?_
          refine lv_iload_n hx hb d_M_comeTo_51 rfl (lv_at hl 3 rfl) ?_
          refine wl_ifeqn (tgt := 65) hx hb (by omega) d_M_comeTo_52 (by decide) (fun hc52 => ?_) (fun hc52 => ?_)
          · refine lv_aload_n hx hb d_M_comeTo_65 rfl (lv_at hl 0 rfl) ?_
            refine va_get (D := (dC, dI)) (ci := 3) (v := .ref k3) (C := "FlowNestModel") (T := T_M) (N := 15) hx hb hts nm_iM hown hK hP 0 rfl rfl 4 (by decide) (hts _ (List.mem_cons_of_mem _ nm_418)) (fun _ h9 => h9) rfl d_M_comeTo_66 ?_
            refine lv_iload hx hb d_M_comeTo_69 (lv_at hl 6 rfl) ?_
            refine wl_lald (i := v) hx hb hK hP 1 0 rfl rfl (by omega) (by decide) d_M_comeTo_71 ?_
            refine lv_lor hx hb d_M_comeTo_72 ?_
            refine lv_lstore (lv' := [(4, .long ((md_or li x x v) ||| (li v))), (0, .ref h3), (1, .int (nI a)), (2, .int (-1)), (3, .int (nI 0)), (6, .long x), (8, .int (nI v))]) hx hb d_M_comeTo_73 hl (by decide) rfl (fun ls hl => ?_)
            refine lv_iinc (lv' := [(8, .int (nI (v + 1))), (4, .long ((md_or li x x v) ||| (li v))), (0, .ref h3), (1, .int (nI a)), (2, .int (-1)), (3, .int (nI 0)), (6, .long x)]) (k := 6) (v := nI (v + 1)) hx hb d_M_comeTo_75 hl rfl (nI_1 v) (by decide) rfl (fun ls hl => ?_)
            refine lv_goto (tgt := 30) hx hb d_M_comeTo_78 (by decide) ?_
            rw [show md_or li x x v ||| li v = md_or li x x (v + 1) from (if_pos hc46).symm] at hl
            exact ih (v + 1) (show v + 1 ≤ n by omega) (show n - (v + 1) < n - v by omega) _ (lv_sub hl [2, 3, 4, 5, 1, 6, 0] rfl)
          · exact absurd hc52 (by decide)
  · exact absurd hc2 (vn_m1 (by omega))
set_option maxHeartbeats 4000000 in
set_option maxRecDepth 100000 in
theorem c_M_comeTo_n1 (l : Launch) (dC : Nat → ClassId) (dI : Nat → Nat → Nat) (cJ cI : ClassId) (h3 k3 o3 w3 v3 p3 e3 f3 q3 : Nat) (cd : Int32) (ey : Int32) (ex : Int32) (kn : Int32) (rc : Int64) (eg : Int64) (li : Nat → Int64) (so : Nat → Int64) (wi : Nat → Int64) (ew : Nat → Int64) (lo : Nat → Int64) (en : Nat → Int32) (le : Nat → Int32) (pi : Nat → Int32) (n a : Nat) (hn : n ≤ 48) (ha : a < n) : Met l y_M_comeTo w_M_comeTo ({ frames := 1, cells := 0, slots := 0, locals := 22 }) (va_Pc [.ref h3, .int (nI a), .int (-1), .int (nI 1)] (cw_B (dC, dI) cJ cI (md_ws cJ cI h3 k3 o3 w3 v3 p3 e3 f3 q3 cd (nI n) ey ex kn rc eg li so wi ew lo en le pi))) (vp_Sl (fun r => r = sp_cm n so a 64)) 0 0 (fun _ => False) := by
  refine Met.ofW (cc := b_M_comeTo) (maxL := 9) (ret := (some .long)) (by decide) rfl ?_
  intro p e s m args below meth c s₁ B hml hv9
  obtain ⟨rfl, hP, hK, hNw⟩ := hv9
  have hx := B.exec
  have hb := B.bytes
  have hr := B.returns
  have hts := atoms_spec (ws := w_M_comeTo) B.pre
  have hown : s.vm.findClass "FlowNestModel" = some m.cls := findClass_of_methodNamed B.named
  have hlocks := B.notSynchronized
  have hP : va_P (dC, dI) vwCl (md_ws cJ cI h3 k3 o3 w3 v3 p3 e3 f3 q3 cd (nI n) ey ex kn rc eg li so wi ew lo en le pi) s.heap := hP
  have hl := lv_entry ([.ref h3, .int (nI a), .int (-1), .int (nI 1)]) (n := 9) (Nat.le_of_ble_eq_true rfl)
  rw [lg_entry_eq]
  generalize (lg_sl ([.ref h3, .int (nI a), .int (-1), .int (nI 1)]) ++ List.replicate (9 - (lg_sl ([.ref h3, .int (nI a), .int (-1), .int (nI 1)])).length) Slot.unset).toArray = ls at hl ⊢
  have hl : lv_has ls 9 [(0, .ref h3), (1, .int (nI a)), (2, .int (-1)), (3, .int (nI 1))] := hl
  refine lv_iload_n hx hb d_M_comeTo_0 rfl (lv_at hl 1 rfl) ?_
  refine lv_iload_n hx hb d_M_comeTo_1 rfl (lv_at hl 2 rfl) ?_
  refine lv_icmp_ne (tgt := 7) hx hb d_M_comeTo_2 (by decide) (fun hc2 => ?_) (fun hc2 => ?_)
  · refine lv_lconst (v := 1) hx hb d_M_comeTo_7 (by decide) ?_
    refine lv_iload_n hx hb d_M_comeTo_8 rfl (lv_at hl 1 rfl) ?_
    refine lv_lshl (v := bs_b a) hx hb d_M_comeTo_9 rfl ?_
    refine lv_lstore (lv' := [(4, .long (bs_b a)), (0, .ref h3), (1, .int (nI a)), (2, .int (-1)), (3, .int (nI 1))]) hx hb d_M_comeTo_10 hl (by decide) rfl (fun ls hl => ?_)
    refine lv_lconst (v := 0) hx hb d_M_comeTo_12 (by decide) ?_
    refine lv_lstore (lv' := [(6, .long 0), (4, .long (bs_b a)), (0, .ref h3), (1, .int (nI a)), (2, .int (-1)), (3, .int (nI 1))]) hx hb d_M_comeTo_13 hl (by decide) rfl (fun ls hl => ?_)
    refine wl_loopR (σ := Int64 × Int64) 15 9 (fun (x : Int64 × Int64) => match x with | (x, old) => [(0, .ref h3), (1, .int (nI a)), (2, .int (-1)), (3, .int (nI 1)), (4, .long x), (6, .long old)]) (fun (x : Int64 × Int64) => match x with | (x, old) => md_I n so a 64 x old) (fun (x : Int64 × Int64) => match x with | (x, old) => 64 - bs_c old) ?_ ((bs_b a), 0) (md_I0 (by omega) (by omega)) (lv_sub hl [2, 3, 4, 5, 1, 0] rfl)
    clear hl
    intro x hI ih ls hl
    obtain ⟨x, old⟩ := x
    have hI : md_I n so a 64 x old := hI
    have hl : lv_has ls 9 [(0, .ref h3), (1, .int (nI a)), (2, .int (-1)), (3, .int (nI 1)), (4, .long x), (6, .long old)] := hl
    have hI0 := hI
    have ih0 := ih
    refine lv_lload hx hb d_M_comeTo_15 (lv_at hl 4 rfl) ?_
    refine lv_lload hx hb d_M_comeTo_17 (lv_at hl 5 rfl) ?_
    refine wl_lcmpeq (tgt := 105) hx hb d_M_comeTo_19 d_M_comeTo_20 (by decide) (fun hc19 => ?_) (fun hc19 => ?_)
    · refine lv_lload hx hb d_M_comeTo_105 (lv_at hl 4 rfl) ?_
      exact W.lret (v := x) hx hb hr (fun t ht hW => ⟨_, rfl, sp_cm_end (by omega) hI0 hc19, ht⟩) (fun _ h => nomatch h) d_M_comeTo_107
    · refine lv_lload hx hb d_M_comeTo_23 (lv_at hl 4 rfl) ?_
      refine lv_lstore (lv' := [(6, .long x), (0, .ref h3), (1, .int (nI a)), (2, .int (-1)), (3, .int (nI 1)), (4, .long x)]) hx hb d_M_comeTo_25 hl (by decide) rfl (fun ls hl => ?_)
      refine lv_iconst (v := nI 0) hx hb d_M_comeTo_27 (by decide) ?_
      refine lv_istore (lv' := [(8, .int (nI 0)), (6, .long x), (0, .ref h3), (1, .int (nI a)), (2, .int (-1)), (3, .int (nI 1)), (4, .long x)]) hx hb d_M_comeTo_28 hl (by decide) rfl (fun ls hl => ?_)
      refine wl_loopR (σ := Nat) 30 9 (fun (v : Nat) => [(0, .ref h3), (1, .int (nI a)), (2, .int (-1)), (3, .int (nI 1)), (4, .long (md_or so x x v)), (6, .long x), (8, .int (nI v))]) (fun (v : Nat) => v ≤ n) (fun (v : Nat) => n - v) ?_ 0 (Nat.zero_le n) (lv_sub hl [2, 3, 4, 5, 6, 1, 0] rfl)
      clear hl
      intro v hI ih ls hl
      have hI : v ≤ n := hI
      have hl : lv_has ls 9 [(0, .ref h3), (1, .int (nI a)), (2, .int (-1)), (3, .int (nI 1)), (4, .long (md_or so x x v)), (6, .long x), (8, .int (nI v))] := hl
      have hv9 := hI
      clear hI
      refine lv_iload hx hb d_M_comeTo_30 (lv_at hl 6 rfl) ?_
      refine lv_aload_n hx hb d_M_comeTo_32 rfl (lv_at hl 0 rfl) ?_
      refine va_get (D := (dC, dI)) (ci := 3) (v := .int (nI n)) (C := "FlowNestModel") (T := T_M) (N := 15) hx hb hts nm_iM hown hK hP 0 rfl rfl 1 (by decide) (hts _ (List.mem_cons_of_mem _ nm_415)) (fun _ h9 => h9) rfl d_M_comeTo_33 ?_
      refine wl_ige (tgt := 81) hx hb (by omega) (by omega) d_M_comeTo_36 (by decide) (fun hc36 => ?_) (fun hc36 => ?_)
      · refine lv_iload_n hx hb d_M_comeTo_81 rfl (lv_at hl 2 rfl) ?_
        refine lv_if_ge (tgt := 90) hx hb d_M_comeTo_82 (by decide) (fun hc82 => ?_) (fun hc82 => ?_)
        · exact absurd hc82 (by decide)
        · refine lv_lload hx hb d_M_comeTo_85 (lv_at hl 4 rfl) ?_
          refine lv_goto (tgt := 100) hx hb d_M_comeTo_87 (by decide) ?_
          refine lv_lstore (lv' := [(4, .long (md_or so x x v)), (0, .ref h3), (1, .int (nI a)), (2, .int (-1)), (3, .int (nI 1)), (6, .long x), (8, .int (nI v))]) hx hb d_M_comeTo_100 hl (by decide) rfl (fun ls hl => ?_)
          refine lv_goto (tgt := 15) hx hb d_M_comeTo_102 (by decide) ?_
          have ev : v = n := by omega
          rw [ev] at hl
          rw [md_F_none] at hl
          exact ih0 ((md_F n so 64 x), x) (md_Is hI0) (md_Im hI0 hc19) _ (lv_sub hl [1, 2, 3, 4, 0, 5] rfl)
      · refine lv_lload hx hb d_M_comeTo_39 (lv_at hl 5 rfl) ?_
        refine lv_iload hx hb d_M_comeTo_41 (lv_at hl 6 rfl) ?_
        refine vp_callSi (va_Run.run (va_runS (As := [.long x, .int (nI v)]) (rest := []) ⟨hx, hb, hml, hown, hts⟩ (c_M_has l x v (by omega)) (va_cwS 2 hts (nm_gS nm_476 nm_477 nm_4 nm_c_M_has) rfl rfl rfl (by decide +kernel) ⟨Nat.le_of_ble_eq_true rfl, Nat.le_of_ble_eq_true rfl⟩) ⟨fun _ _ _ _ q => ⟨q.1, trivial⟩, fun U hU hW => ⟨rfl, trivial⟩⟩ rfl rfl hl.1 rfl (lv_room (Nat.le_of_ble_eq_true rfl)) d_M_comeTo_43 ⟨Nat.zero_le _, Nat.zero_le _⟩)) (fun r hr => ?_)
        subst hr
        refine wl_ifeqb (tgt := 75) hx hb d_M_comeTo_46 (by decide) (fun hc46 => ?_) (fun hc46 => ?_)
        · refine lv_iinc (lv' := [(8, .int (nI (v + 1))), (0, .ref h3), (1, .int (nI a)), (2, .int (-1)), (3, .int (nI 1)), (4, .long (md_or so x x v)), (6, .long x)]) (k := 6) (v := nI (v + 1)) hx hb d_M_comeTo_75 hl rfl (nI_1 v) (by decide) rfl (fun ls hl => ?_)
          refine lv_goto (tgt := 30) hx hb d_M_comeTo_78 (by decide) ?_
          rw [show md_or so x x v = md_or so x x (v + 1) from (if_neg (Bool.eq_false_iff.mp hc46)).symm] at hl
          exact ih (v + 1) (show v + 1 ≤ n by omega) (show n - (v + 1) < n - v by omega) _ (lv_sub hl [1, 2, 3, 4, 5, 6, 0] rfl)
        · refine lv_lload hx hb d_M_comeTo_49 (lv_at hl 4 rfl) ?_
          refine lv_iload_n hx hb d_M_comeTo_51 rfl (lv_at hl 3 rfl) ?_
          refine wl_ifeqn (tgt := 65) hx hb (by omega) d_M_comeTo_52 (by decide) (fun hc52 => ?_) (fun hc52 => ?_)
          · exact absurd hc52 (by decide)
          · refine lv_aload_n hx hb d_M_comeTo_55 rfl (lv_at hl 0 rfl) ?_
            refine va_get (D := (dC, dI)) (ci := 3) (v := .ref o3) (C := "FlowNestModel") (T := T_M) (N := 15) hx hb hts nm_iM hown hK hP 0 rfl rfl 5 (by decide) (hts _ (List.mem_cons_of_mem _ nm_419)) (fun _ h9 => h9) rfl d_M_comeTo_56 ?_
            refine lv_iload hx hb d_M_comeTo_59 (lv_at hl 6 rfl) ?_
            refine wl_lald (i := v) hx hb hK hP 2 0 rfl rfl (by omega) (by decide) d_M_comeTo_61 ?_
            refine lv_goto (tgt := 72) hx hb d_M_comeTo_62 (by decide) ?_
            refine lv_lor hx hb d_M_comeTo_72 ?_
            refine lv_lstore (lv' := [(4, .long ((md_or so x x v) ||| (so v))), (0, .ref h3), (1, .int (nI a)), (2, .int (-1)), (3, .int (nI 1)), (6, .long x), (8, .int (nI v))]) hx hb d_M_comeTo_73 hl (by decide) rfl (fun ls hl => ?_)
            refine lv_iinc (lv' := [(8, .int (nI (v + 1))), (4, .long ((md_or so x x v) ||| (so v))), (0, .ref h3), (1, .int (nI a)), (2, .int (-1)), (3, .int (nI 1)), (6, .long x)]) (k := 6) (v := nI (v + 1)) hx hb d_M_comeTo_75 hl rfl (nI_1 v) (by decide) rfl (fun ls hl => ?_)
            refine lv_goto (tgt := 30) hx hb d_M_comeTo_78 (by decide) ?_
            rw [show md_or so x x v ||| so v = md_or so x x (v + 1) from (if_pos hc46).symm] at hl
            exact ih (v + 1) (show v + 1 ≤ n by omega) (show n - (v + 1) < n - v by omega) _ (lv_sub hl [2, 3, 4, 5, 1, 6, 0] rfl)
  · exact absurd hc2 (vn_m1 (by omega))
set_option maxHeartbeats 4000000 in
set_option maxRecDepth 100000 in
theorem c_M_comeTo_b0 (l : Launch) (dC : Nat → ClassId) (dI : Nat → Nat → Nat) (cJ cI : ClassId) (h3 k3 o3 w3 v3 p3 e3 f3 q3 : Nat) (cd : Int32) (ey : Int32) (ex : Int32) (kn : Int32) (rc : Int64) (eg : Int64) (li : Nat → Int64) (so : Nat → Int64) (wi : Nat → Int64) (ew : Nat → Int64) (lo : Nat → Int64) (en : Nat → Int32) (le : Nat → Int32) (pi : Nat → Int32) (n a : Nat) (b : Nat) (hn : n ≤ 48) (ha : a < n) (hb9 : b < n) : Met l y_M_comeTo w_M_comeTo ({ frames := 1, cells := 0, slots := 0, locals := 22 }) (va_Pc [.ref h3, .int (nI a), .int (nI b), .int (nI 0)] (cw_B (dC, dI) cJ cI (md_ws cJ cI h3 k3 o3 w3 v3 p3 e3 f3 q3 cd (nI n) ey ex kn rc eg li so wi ew lo en le pi))) (vp_Sl (fun r => r = sp_cm n li a b)) 0 0 (fun _ => False) := by
  refine Met.ofW (cc := b_M_comeTo) (maxL := 9) (ret := (some .long)) (by decide) rfl ?_
  intro p e s m args below meth c s₁ B hml hv9
  obtain ⟨rfl, hP, hK, hNw⟩ := hv9
  have hx := B.exec
  have hb := B.bytes
  have hr := B.returns
  have hts := atoms_spec (ws := w_M_comeTo) B.pre
  have hown : s.vm.findClass "FlowNestModel" = some m.cls := findClass_of_methodNamed B.named
  have hlocks := B.notSynchronized
  have hP : va_P (dC, dI) vwCl (md_ws cJ cI h3 k3 o3 w3 v3 p3 e3 f3 q3 cd (nI n) ey ex kn rc eg li so wi ew lo en le pi) s.heap := hP
  have hl := lv_entry ([.ref h3, .int (nI a), .int (nI b), .int (nI 0)]) (n := 9) (Nat.le_of_ble_eq_true rfl)
  rw [lg_entry_eq]
  generalize (lg_sl ([.ref h3, .int (nI a), .int (nI b), .int (nI 0)]) ++ List.replicate (9 - (lg_sl ([.ref h3, .int (nI a), .int (nI b), .int (nI 0)])).length) Slot.unset).toArray = ls at hl ⊢
  have hl : lv_has ls 9 [(0, .ref h3), (1, .int (nI a)), (2, .int (nI b)), (3, .int (nI 0))] := hl
  refine lv_iload_n hx hb d_M_comeTo_0 rfl (lv_at hl 1 rfl) ?_
  refine lv_iload_n hx hb d_M_comeTo_1 rfl (lv_at hl 2 rfl) ?_
  refine wl_ine (tgt := 7) hx hb (by omega) (by omega) d_M_comeTo_2 (by decide) (fun hc2 => ?_) (fun hc2 => ?_)
  · refine lv_lconst (v := 1) hx hb d_M_comeTo_7 (by decide) ?_
    refine lv_iload_n hx hb d_M_comeTo_8 rfl (lv_at hl 1 rfl) ?_
    refine lv_lshl (v := bs_b a) hx hb d_M_comeTo_9 rfl ?_
    refine lv_lstore (lv' := [(4, .long (bs_b a)), (0, .ref h3), (1, .int (nI a)), (2, .int (nI b)), (3, .int (nI 0))]) hx hb d_M_comeTo_10 hl (by decide) rfl (fun ls hl => ?_)
    refine lv_lconst (v := 0) hx hb d_M_comeTo_12 (by decide) ?_
    refine lv_lstore (lv' := [(6, .long 0), (4, .long (bs_b a)), (0, .ref h3), (1, .int (nI a)), (2, .int (nI b)), (3, .int (nI 0))]) hx hb d_M_comeTo_13 hl (by decide) rfl (fun ls hl => ?_)
    refine wl_loopR (σ := Int64 × Int64) 15 9 (fun (x : Int64 × Int64) => match x with | (x, old) => [(0, .ref h3), (1, .int (nI a)), (2, .int (nI b)), (3, .int (nI 0)), (4, .long x), (6, .long old)]) (fun (x : Int64 × Int64) => match x with | (x, old) => md_I n li a b x old) (fun (x : Int64 × Int64) => match x with | (x, old) => 64 - bs_c old) ?_ ((bs_b a), 0) (md_I0 (by omega) hc2) (lv_sub hl [2, 3, 4, 5, 1, 0] rfl)
    clear hl
    intro x hI ih ls hl
    obtain ⟨x, old⟩ := x
    have hI : md_I n li a b x old := hI
    have hl : lv_has ls 9 [(0, .ref h3), (1, .int (nI a)), (2, .int (nI b)), (3, .int (nI 0)), (4, .long x), (6, .long old)] := hl
    have hI0 := hI
    have ih0 := ih
    refine lv_lload hx hb d_M_comeTo_15 (lv_at hl 4 rfl) ?_
    refine lv_lload hx hb d_M_comeTo_17 (lv_at hl 5 rfl) ?_
    refine wl_lcmpeq (tgt := 105) hx hb d_M_comeTo_19 d_M_comeTo_20 (by decide) (fun hc19 => ?_) (fun hc19 => ?_)
    · refine lv_lload hx hb d_M_comeTo_105 (lv_at hl 4 rfl) ?_
      exact W.lret (v := x) hx hb hr (fun t ht hW => ⟨_, rfl, sp_cm_end hc2 hI0 hc19, ht⟩) (fun _ h => nomatch h) d_M_comeTo_107
    · refine lv_lload hx hb d_M_comeTo_23 (lv_at hl 4 rfl) ?_
      refine lv_lstore (lv' := [(6, .long x), (0, .ref h3), (1, .int (nI a)), (2, .int (nI b)), (3, .int (nI 0)), (4, .long x)]) hx hb d_M_comeTo_25 hl (by decide) rfl (fun ls hl => ?_)
      refine lv_iconst (v := nI 0) hx hb d_M_comeTo_27 (by decide) ?_
      refine lv_istore (lv' := [(8, .int (nI 0)), (6, .long x), (0, .ref h3), (1, .int (nI a)), (2, .int (nI b)), (3, .int (nI 0)), (4, .long x)]) hx hb d_M_comeTo_28 hl (by decide) rfl (fun ls hl => ?_)
      refine wl_loopR (σ := Nat) 30 9 (fun (v : Nat) => [(0, .ref h3), (1, .int (nI a)), (2, .int (nI b)), (3, .int (nI 0)), (4, .long (md_or li x x v)), (6, .long x), (8, .int (nI v))]) (fun (v : Nat) => v ≤ n) (fun (v : Nat) => n - v) ?_ 0 (Nat.zero_le n) (lv_sub hl [2, 3, 4, 5, 6, 1, 0] rfl)
      clear hl
      intro v hI ih ls hl
      have hI : v ≤ n := hI
      have hl : lv_has ls 9 [(0, .ref h3), (1, .int (nI a)), (2, .int (nI b)), (3, .int (nI 0)), (4, .long (md_or li x x v)), (6, .long x), (8, .int (nI v))] := hl
      have hv9 := hI
      clear hI
      refine lv_iload hx hb d_M_comeTo_30 (lv_at hl 6 rfl) ?_
      refine lv_aload_n hx hb d_M_comeTo_32 rfl (lv_at hl 0 rfl) ?_
      refine va_get (D := (dC, dI)) (ci := 3) (v := .int (nI n)) (C := "FlowNestModel") (T := T_M) (N := 15) hx hb hts nm_iM hown hK hP 0 rfl rfl 1 (by decide) (hts _ (List.mem_cons_of_mem _ nm_415)) (fun _ h9 => h9) rfl d_M_comeTo_33 ?_
      refine wl_ige (tgt := 81) hx hb (by omega) (by omega) d_M_comeTo_36 (by decide) (fun hc36 => ?_) (fun hc36 => ?_)
      · refine lv_iload_n hx hb d_M_comeTo_81 rfl (lv_at hl 2 rfl) ?_
        refine wl_ifgen (tgt := 90) hx hb (by omega) d_M_comeTo_82 (by decide) (fun hc82 => ?_) (fun hc82 => ?_)
        · refine lv_lload hx hb d_M_comeTo_90 (lv_at hl 4 rfl) ?_
          refine lv_lconst (v := 1) hx hb d_M_comeTo_92 (by decide) ?_
          refine lv_iload_n hx hb d_M_comeTo_93 rfl (lv_at hl 2 rfl) ?_
          refine lv_lshl (v := bs_b b) hx hb d_M_comeTo_94 rfl ?_
          refine lv_ldc2 (v := -1) hx hb hown (hts _ (List.mem_cons_of_mem _ nm_479)) d_M_comeTo_95 ?_
          refine lv_lxor hx hb d_M_comeTo_98 ?_
          refine lv_land hx hb d_M_comeTo_99 ?_
          refine lv_lstore (lv' := [(4, .long ((md_or li x x v) &&& ((bs_b b) ^^^ (-1)))), (0, .ref h3), (1, .int (nI a)), (2, .int (nI b)), (3, .int (nI 0)), (6, .long x), (8, .int (nI v))]) hx hb d_M_comeTo_100 hl (by decide) rfl (fun ls hl => ?_)
          refine lv_goto (tgt := 15) hx hb d_M_comeTo_102 (by decide) ?_
          have ev : v = n := by omega
          rw [ev] at hl
          rw [show md_or li x x n &&& (bs_b b ^^^ (-1)) = md_F n li b x from (if_pos (show b < 64 by omega)).symm] at hl
          exact ih0 ((md_F n li b x), x) (md_Is hI0) (md_Im hI0 hc19) _ (lv_sub hl [1, 2, 3, 4, 0, 5] rfl)
        · exact hc82.elim
      · refine lv_lload hx hb d_M_comeTo_39 (lv_at hl 5 rfl) ?_
        refine lv_iload hx hb d_M_comeTo_41 (lv_at hl 6 rfl) ?_
        refine vp_callSi (va_Run.run (va_runS (As := [.long x, .int (nI v)]) (rest := []) ⟨hx, hb, hml, hown, hts⟩ (c_M_has l x v (by omega)) (va_cwS 2 hts (nm_gS nm_476 nm_477 nm_4 nm_c_M_has) rfl rfl rfl (by decide +kernel) ⟨Nat.le_of_ble_eq_true rfl, Nat.le_of_ble_eq_true rfl⟩) ⟨fun _ _ _ _ q => ⟨q.1, trivial⟩, fun U hU hW => ⟨rfl, trivial⟩⟩ rfl rfl hl.1 rfl (lv_room (Nat.le_of_ble_eq_true rfl)) d_M_comeTo_43 ⟨Nat.zero_le _, Nat.zero_le _⟩)) (fun r hr => ?_)
        subst hr
        refine wl_ifeqb (tgt := 75) hx hb d_M_comeTo_46 (by decide) (fun hc46 => ?_) (fun hc46 => ?_)
        · refine lv_iinc (lv' := [(8, .int (nI (v + 1))), (0, .ref h3), (1, .int (nI a)), (2, .int (nI b)), (3, .int (nI 0)), (4, .long (md_or li x x v)), (6, .long x)]) (k := 6) (v := nI (v + 1)) hx hb d_M_comeTo_75 hl rfl (nI_1 v) (by decide) rfl (fun ls hl => ?_)
          refine lv_goto (tgt := 30) hx hb d_M_comeTo_78 (by decide) ?_
          rw [show md_or li x x v = md_or li x x (v + 1) from (if_neg (Bool.eq_false_iff.mp hc46)).symm] at hl
          exact ih (v + 1) (show v + 1 ≤ n by omega) (show n - (v + 1) < n - v by omega) _ (lv_sub hl [1, 2, 3, 4, 5, 6, 0] rfl)
        · refine lv_lload hx hb d_M_comeTo_49 (lv_at hl 4 rfl) ?_
          refine lv_iload_n hx hb d_M_comeTo_51 rfl (lv_at hl 3 rfl) ?_
          refine wl_ifeqn (tgt := 65) hx hb (by omega) d_M_comeTo_52 (by decide) (fun hc52 => ?_) (fun hc52 => ?_)
          · refine lv_aload_n hx hb d_M_comeTo_65 rfl (lv_at hl 0 rfl) ?_
            refine va_get (D := (dC, dI)) (ci := 3) (v := .ref k3) (C := "FlowNestModel") (T := T_M) (N := 15) hx hb hts nm_iM hown hK hP 0 rfl rfl 4 (by decide) (hts _ (List.mem_cons_of_mem _ nm_418)) (fun _ h9 => h9) rfl d_M_comeTo_66 ?_
            refine lv_iload hx hb d_M_comeTo_69 (lv_at hl 6 rfl) ?_
            refine wl_lald (i := v) hx hb hK hP 1 0 rfl rfl (by omega) (by decide) d_M_comeTo_71 ?_
            refine lv_lor hx hb d_M_comeTo_72 ?_
            refine lv_lstore (lv' := [(4, .long ((md_or li x x v) ||| (li v))), (0, .ref h3), (1, .int (nI a)), (2, .int (nI b)), (3, .int (nI 0)), (6, .long x), (8, .int (nI v))]) hx hb d_M_comeTo_73 hl (by decide) rfl (fun ls hl => ?_)
            refine lv_iinc (lv' := [(8, .int (nI (v + 1))), (4, .long ((md_or li x x v) ||| (li v))), (0, .ref h3), (1, .int (nI a)), (2, .int (nI b)), (3, .int (nI 0)), (6, .long x)]) (k := 6) (v := nI (v + 1)) hx hb d_M_comeTo_75 hl rfl (nI_1 v) (by decide) rfl (fun ls hl => ?_)
            refine lv_goto (tgt := 30) hx hb d_M_comeTo_78 (by decide) ?_
            rw [show md_or li x x v ||| li v = md_or li x x (v + 1) from (if_pos hc46).symm] at hl
            exact ih (v + 1) (show v + 1 ≤ n by omega) (show n - (v + 1) < n - v by omega) _ (lv_sub hl [2, 3, 4, 5, 1, 6, 0] rfl)
          · exact absurd hc52 (by decide)
  · refine lv_lconst (v := 0) hx hb d_M_comeTo_5 (by decide) ?_
    exact W.lret (v := 0) hx hb hr (fun t ht hW => ⟨_, rfl, by rw [hc2]; exact sp_cm_self n li b, ht⟩) (fun _ h => nomatch h) d_M_comeTo_6
set_option maxHeartbeats 4000000 in
set_option maxRecDepth 100000 in
theorem c_M_comeTo_b1 (l : Launch) (dC : Nat → ClassId) (dI : Nat → Nat → Nat) (cJ cI : ClassId) (h3 k3 o3 w3 v3 p3 e3 f3 q3 : Nat) (cd : Int32) (ey : Int32) (ex : Int32) (kn : Int32) (rc : Int64) (eg : Int64) (li : Nat → Int64) (so : Nat → Int64) (wi : Nat → Int64) (ew : Nat → Int64) (lo : Nat → Int64) (en : Nat → Int32) (le : Nat → Int32) (pi : Nat → Int32) (n a : Nat) (b : Nat) (hn : n ≤ 48) (ha : a < n) (hb9 : b < n) : Met l y_M_comeTo w_M_comeTo ({ frames := 1, cells := 0, slots := 0, locals := 22 }) (va_Pc [.ref h3, .int (nI a), .int (nI b), .int (nI 1)] (cw_B (dC, dI) cJ cI (md_ws cJ cI h3 k3 o3 w3 v3 p3 e3 f3 q3 cd (nI n) ey ex kn rc eg li so wi ew lo en le pi))) (vp_Sl (fun r => r = sp_cm n so a b)) 0 0 (fun _ => False) := by
  refine Met.ofW (cc := b_M_comeTo) (maxL := 9) (ret := (some .long)) (by decide) rfl ?_
  intro p e s m args below meth c s₁ B hml hv9
  obtain ⟨rfl, hP, hK, hNw⟩ := hv9
  have hx := B.exec
  have hb := B.bytes
  have hr := B.returns
  have hts := atoms_spec (ws := w_M_comeTo) B.pre
  have hown : s.vm.findClass "FlowNestModel" = some m.cls := findClass_of_methodNamed B.named
  have hlocks := B.notSynchronized
  have hP : va_P (dC, dI) vwCl (md_ws cJ cI h3 k3 o3 w3 v3 p3 e3 f3 q3 cd (nI n) ey ex kn rc eg li so wi ew lo en le pi) s.heap := hP
  have hl := lv_entry ([.ref h3, .int (nI a), .int (nI b), .int (nI 1)]) (n := 9) (Nat.le_of_ble_eq_true rfl)
  rw [lg_entry_eq]
  generalize (lg_sl ([.ref h3, .int (nI a), .int (nI b), .int (nI 1)]) ++ List.replicate (9 - (lg_sl ([.ref h3, .int (nI a), .int (nI b), .int (nI 1)])).length) Slot.unset).toArray = ls at hl ⊢
  have hl : lv_has ls 9 [(0, .ref h3), (1, .int (nI a)), (2, .int (nI b)), (3, .int (nI 1))] := hl
  refine lv_iload_n hx hb d_M_comeTo_0 rfl (lv_at hl 1 rfl) ?_
  refine lv_iload_n hx hb d_M_comeTo_1 rfl (lv_at hl 2 rfl) ?_
  refine wl_ine (tgt := 7) hx hb (by omega) (by omega) d_M_comeTo_2 (by decide) (fun hc2 => ?_) (fun hc2 => ?_)
  · refine lv_lconst (v := 1) hx hb d_M_comeTo_7 (by decide) ?_
    refine lv_iload_n hx hb d_M_comeTo_8 rfl (lv_at hl 1 rfl) ?_
    refine lv_lshl (v := bs_b a) hx hb d_M_comeTo_9 rfl ?_
    refine lv_lstore (lv' := [(4, .long (bs_b a)), (0, .ref h3), (1, .int (nI a)), (2, .int (nI b)), (3, .int (nI 1))]) hx hb d_M_comeTo_10 hl (by decide) rfl (fun ls hl => ?_)
    refine lv_lconst (v := 0) hx hb d_M_comeTo_12 (by decide) ?_
    refine lv_lstore (lv' := [(6, .long 0), (4, .long (bs_b a)), (0, .ref h3), (1, .int (nI a)), (2, .int (nI b)), (3, .int (nI 1))]) hx hb d_M_comeTo_13 hl (by decide) rfl (fun ls hl => ?_)
    refine wl_loopR (σ := Int64 × Int64) 15 9 (fun (x : Int64 × Int64) => match x with | (x, old) => [(0, .ref h3), (1, .int (nI a)), (2, .int (nI b)), (3, .int (nI 1)), (4, .long x), (6, .long old)]) (fun (x : Int64 × Int64) => match x with | (x, old) => md_I n so a b x old) (fun (x : Int64 × Int64) => match x with | (x, old) => 64 - bs_c old) ?_ ((bs_b a), 0) (md_I0 (by omega) hc2) (lv_sub hl [2, 3, 4, 5, 1, 0] rfl)
    clear hl
    intro x hI ih ls hl
    obtain ⟨x, old⟩ := x
    have hI : md_I n so a b x old := hI
    have hl : lv_has ls 9 [(0, .ref h3), (1, .int (nI a)), (2, .int (nI b)), (3, .int (nI 1)), (4, .long x), (6, .long old)] := hl
    have hI0 := hI
    have ih0 := ih
    refine lv_lload hx hb d_M_comeTo_15 (lv_at hl 4 rfl) ?_
    refine lv_lload hx hb d_M_comeTo_17 (lv_at hl 5 rfl) ?_
    refine wl_lcmpeq (tgt := 105) hx hb d_M_comeTo_19 d_M_comeTo_20 (by decide) (fun hc19 => ?_) (fun hc19 => ?_)
    · refine lv_lload hx hb d_M_comeTo_105 (lv_at hl 4 rfl) ?_
      exact W.lret (v := x) hx hb hr (fun t ht hW => ⟨_, rfl, sp_cm_end hc2 hI0 hc19, ht⟩) (fun _ h => nomatch h) d_M_comeTo_107
    · refine lv_lload hx hb d_M_comeTo_23 (lv_at hl 4 rfl) ?_
      refine lv_lstore (lv' := [(6, .long x), (0, .ref h3), (1, .int (nI a)), (2, .int (nI b)), (3, .int (nI 1)), (4, .long x)]) hx hb d_M_comeTo_25 hl (by decide) rfl (fun ls hl => ?_)
      refine lv_iconst (v := nI 0) hx hb d_M_comeTo_27 (by decide) ?_
      refine lv_istore (lv' := [(8, .int (nI 0)), (6, .long x), (0, .ref h3), (1, .int (nI a)), (2, .int (nI b)), (3, .int (nI 1)), (4, .long x)]) hx hb d_M_comeTo_28 hl (by decide) rfl (fun ls hl => ?_)
      refine wl_loopR (σ := Nat) 30 9 (fun (v : Nat) => [(0, .ref h3), (1, .int (nI a)), (2, .int (nI b)), (3, .int (nI 1)), (4, .long (md_or so x x v)), (6, .long x), (8, .int (nI v))]) (fun (v : Nat) => v ≤ n) (fun (v : Nat) => n - v) ?_ 0 (Nat.zero_le n) (lv_sub hl [2, 3, 4, 5, 6, 1, 0] rfl)
      clear hl
      intro v hI ih ls hl
      have hI : v ≤ n := hI
      have hl : lv_has ls 9 [(0, .ref h3), (1, .int (nI a)), (2, .int (nI b)), (3, .int (nI 1)), (4, .long (md_or so x x v)), (6, .long x), (8, .int (nI v))] := hl
      have hv9 := hI
      clear hI
      refine lv_iload hx hb d_M_comeTo_30 (lv_at hl 6 rfl) ?_
      refine lv_aload_n hx hb d_M_comeTo_32 rfl (lv_at hl 0 rfl) ?_
      refine va_get (D := (dC, dI)) (ci := 3) (v := .int (nI n)) (C := "FlowNestModel") (T := T_M) (N := 15) hx hb hts nm_iM hown hK hP 0 rfl rfl 1 (by decide) (hts _ (List.mem_cons_of_mem _ nm_415)) (fun _ h9 => h9) rfl d_M_comeTo_33 ?_
      refine wl_ige (tgt := 81) hx hb (by omega) (by omega) d_M_comeTo_36 (by decide) (fun hc36 => ?_) (fun hc36 => ?_)
      · refine lv_iload_n hx hb d_M_comeTo_81 rfl (lv_at hl 2 rfl) ?_
        refine wl_ifgen (tgt := 90) hx hb (by omega) d_M_comeTo_82 (by decide) (fun hc82 => ?_) (fun hc82 => ?_)
        · refine lv_lload hx hb d_M_comeTo_90 (lv_at hl 4 rfl) ?_
          refine lv_lconst (v := 1) hx hb d_M_comeTo_92 (by decide) ?_
          refine lv_iload_n hx hb d_M_comeTo_93 rfl (lv_at hl 2 rfl) ?_
          refine lv_lshl (v := bs_b b) hx hb d_M_comeTo_94 rfl ?_
          refine lv_ldc2 (v := -1) hx hb hown (hts _ (List.mem_cons_of_mem _ nm_479)) d_M_comeTo_95 ?_
          refine lv_lxor hx hb d_M_comeTo_98 ?_
          refine lv_land hx hb d_M_comeTo_99 ?_
          refine lv_lstore (lv' := [(4, .long ((md_or so x x v) &&& ((bs_b b) ^^^ (-1)))), (0, .ref h3), (1, .int (nI a)), (2, .int (nI b)), (3, .int (nI 1)), (6, .long x), (8, .int (nI v))]) hx hb d_M_comeTo_100 hl (by decide) rfl (fun ls hl => ?_)
          refine lv_goto (tgt := 15) hx hb d_M_comeTo_102 (by decide) ?_
          have ev : v = n := by omega
          rw [ev] at hl
          rw [show md_or so x x n &&& (bs_b b ^^^ (-1)) = md_F n so b x from (if_pos (show b < 64 by omega)).symm] at hl
          exact ih0 ((md_F n so b x), x) (md_Is hI0) (md_Im hI0 hc19) _ (lv_sub hl [1, 2, 3, 4, 0, 5] rfl)
        · exact hc82.elim
      · refine lv_lload hx hb d_M_comeTo_39 (lv_at hl 5 rfl) ?_
        refine lv_iload hx hb d_M_comeTo_41 (lv_at hl 6 rfl) ?_
        refine vp_callSi (va_Run.run (va_runS (As := [.long x, .int (nI v)]) (rest := []) ⟨hx, hb, hml, hown, hts⟩ (c_M_has l x v (by omega)) (va_cwS 2 hts (nm_gS nm_476 nm_477 nm_4 nm_c_M_has) rfl rfl rfl (by decide +kernel) ⟨Nat.le_of_ble_eq_true rfl, Nat.le_of_ble_eq_true rfl⟩) ⟨fun _ _ _ _ q => ⟨q.1, trivial⟩, fun U hU hW => ⟨rfl, trivial⟩⟩ rfl rfl hl.1 rfl (lv_room (Nat.le_of_ble_eq_true rfl)) d_M_comeTo_43 ⟨Nat.zero_le _, Nat.zero_le _⟩)) (fun r hr => ?_)
        subst hr
        refine wl_ifeqb (tgt := 75) hx hb d_M_comeTo_46 (by decide) (fun hc46 => ?_) (fun hc46 => ?_)
        · refine lv_iinc (lv' := [(8, .int (nI (v + 1))), (0, .ref h3), (1, .int (nI a)), (2, .int (nI b)), (3, .int (nI 1)), (4, .long (md_or so x x v)), (6, .long x)]) (k := 6) (v := nI (v + 1)) hx hb d_M_comeTo_75 hl rfl (nI_1 v) (by decide) rfl (fun ls hl => ?_)
          refine lv_goto (tgt := 30) hx hb d_M_comeTo_78 (by decide) ?_
          rw [show md_or so x x v = md_or so x x (v + 1) from (if_neg (Bool.eq_false_iff.mp hc46)).symm] at hl
          exact ih (v + 1) (show v + 1 ≤ n by omega) (show n - (v + 1) < n - v by omega) _ (lv_sub hl [1, 2, 3, 4, 5, 6, 0] rfl)
        · refine lv_lload hx hb d_M_comeTo_49 (lv_at hl 4 rfl) ?_
          refine lv_iload_n hx hb d_M_comeTo_51 rfl (lv_at hl 3 rfl) ?_
          refine wl_ifeqn (tgt := 65) hx hb (by omega) d_M_comeTo_52 (by decide) (fun hc52 => ?_) (fun hc52 => ?_)
          · exact absurd hc52 (by decide)
          · refine lv_aload_n hx hb d_M_comeTo_55 rfl (lv_at hl 0 rfl) ?_
            refine va_get (D := (dC, dI)) (ci := 3) (v := .ref o3) (C := "FlowNestModel") (T := T_M) (N := 15) hx hb hts nm_iM hown hK hP 0 rfl rfl 5 (by decide) (hts _ (List.mem_cons_of_mem _ nm_419)) (fun _ h9 => h9) rfl d_M_comeTo_56 ?_
            refine lv_iload hx hb d_M_comeTo_59 (lv_at hl 6 rfl) ?_
            refine wl_lald (i := v) hx hb hK hP 2 0 rfl rfl (by omega) (by decide) d_M_comeTo_61 ?_
            refine lv_goto (tgt := 72) hx hb d_M_comeTo_62 (by decide) ?_
            refine lv_lor hx hb d_M_comeTo_72 ?_
            refine lv_lstore (lv' := [(4, .long ((md_or so x x v) ||| (so v))), (0, .ref h3), (1, .int (nI a)), (2, .int (nI b)), (3, .int (nI 1)), (6, .long x), (8, .int (nI v))]) hx hb d_M_comeTo_73 hl (by decide) rfl (fun ls hl => ?_)
            refine lv_iinc (lv' := [(8, .int (nI (v + 1))), (4, .long ((md_or so x x v) ||| (so v))), (0, .ref h3), (1, .int (nI a)), (2, .int (nI b)), (3, .int (nI 1)), (6, .long x)]) (k := 6) (v := nI (v + 1)) hx hb d_M_comeTo_75 hl rfl (nI_1 v) (by decide) rfl (fun ls hl => ?_)
            refine lv_goto (tgt := 30) hx hb d_M_comeTo_78 (by decide) ?_
            rw [show md_or so x x v ||| so v = md_or so x x (v + 1) from (if_pos hc46).symm] at hl
            exact ih (v + 1) (show v + 1 ≤ n by omega) (show n - (v + 1) < n - v by omega) _ (lv_sub hl [2, 3, 4, 5, 1, 6, 0] rfl)
  · refine lv_lconst (v := 0) hx hb d_M_comeTo_5 (by decide) ?_
    exact W.lret (v := 0) hx hb hr (fun t ht hW => ⟨_, rfl, by rw [hc2]; exact sp_cm_self n so b, ht⟩) (fun _ h => nomatch h) d_M_comeTo_6
set_option maxHeartbeats 4000000 in
set_option maxRecDepth 100000 in
theorem c_M_dominatesIt_0 (l : Launch) (dC : Nat → ClassId) (dI : Nat → Nat → Nat) (cJ cI : ClassId) (h3 k3 o3 w3 v3 p3 e3 f3 q3 : Nat) (cd : Int32) (nn : Int32) (ey : Int32) (ex : Int32) (kn : Int32) (rc : Int64) (eg : Int64) (li : Nat → Int64) (so : Nat → Int64) (wi : Nat → Int64) (ew : Nat → Int64) (lo : Nat → Int64) (en : Nat → Int32) (le : Nat → Int32) (pi : Nat → Int32) (u v : Nat) (hu : u < 48) (hv : v < 48) : Met l y_M_dominatesIt w_M_dominatesIt ({ frames := 1, cells := 0, slots := 0, locals := 22 }) (va_Pc [.ref h3, .int (nI u), .int (nI v), .int (nI 0)] (cw_B (dC, dI) cJ cI (md_ws cJ cI h3 k3 o3 w3 v3 p3 e3 f3 q3 cd nn ey ex kn rc eg li so wi ew lo en le pi))) (vp_Si (fun r => r = bs_i (md_dm rc wi u v))) 0 0 (fun _ => False) := by
  refine Met.ofW (cc := b_M_dominatesIt) (maxL := 6) (ret := (some .boolean)) (by decide) rfl ?_
  intro p e s m args below meth c s₁ B hml hv9
  obtain ⟨rfl, hP, hK, hNw⟩ := hv9
  have hx := B.exec
  have hb := B.bytes
  have hr := B.returns
  have hts := atoms_spec (ws := w_M_dominatesIt) B.pre
  have hown : s.vm.findClass "FlowNestModel" = some m.cls := findClass_of_methodNamed B.named
  have hlocks := B.notSynchronized
  have hP : va_P (dC, dI) vwCl (md_ws cJ cI h3 k3 o3 w3 v3 p3 e3 f3 q3 cd nn ey ex kn rc eg li so wi ew lo en le pi) s.heap := hP
  have hl := lv_entry ([.ref h3, .int (nI u), .int (nI v), .int (nI 0)]) (n := 6) (Nat.le_of_ble_eq_true rfl)
  rw [lg_entry_eq]
  generalize (lg_sl ([.ref h3, .int (nI u), .int (nI v), .int (nI 0)]) ++ List.replicate (6 - (lg_sl ([.ref h3, .int (nI u), .int (nI v), .int (nI 0)])).length) Slot.unset).toArray = ls at hl ⊢
  have hl : lv_has ls 6 [(0, .ref h3), (1, .int (nI u)), (2, .int (nI v)), (3, .int (nI 0))] := hl
  refine lv_iload_n hx hb d_M_dominatesIt_0 rfl (lv_at hl 3 rfl) ?_
  refine wl_ifeqn (tgt := 11) hx hb (by omega) d_M_dominatesIt_1 (by decide) (fun hc1 => ?_) (fun hc1 => ?_)
  · refine lv_aload_n hx hb d_M_dominatesIt_11 rfl (lv_at hl 0 rfl) ?_
    refine va_get (D := (dC, dI)) (ci := 3) (v := .long rc) (C := "FlowNestModel") (T := T_M) (N := 15) hx hb hts nm_iM hown hK hP 0 rfl rfl 7 (by decide) (hts _ (List.mem_cons_of_mem _ nm_421)) (fun _ h9 => h9) rfl d_M_dominatesIt_12 ?_
    refine lv_lstore (lv' := [(4, .long rc), (0, .ref h3), (1, .int (nI u)), (2, .int (nI v)), (3, .int (nI 0))]) hx hb d_M_dominatesIt_15 hl (by decide) rfl (fun ls hl => ?_)
    refine lv_lload hx hb d_M_dominatesIt_17 (lv_at hl 0 rfl) ?_
    refine lv_iload_n hx hb d_M_dominatesIt_19 rfl (lv_at hl 2 rfl) ?_
    refine vp_callSi (va_Run.run (va_runS (As := [.long rc, .int (nI u)]) (rest := []) ⟨hx, hb, hml, hown, hts⟩ (c_M_has l rc u (by omega)) (va_cwS 2 hts (nm_gS nm_476 nm_477 nm_4 nm_c_M_has) rfl rfl rfl (by decide +kernel) ⟨Nat.le_of_ble_eq_true rfl, Nat.le_of_ble_eq_true rfl⟩) ⟨fun _ _ _ _ q => ⟨q.1, trivial⟩, fun U hU hW => ⟨rfl, trivial⟩⟩ rfl rfl hl.1 rfl (lv_room (Nat.le_of_ble_eq_true rfl)) d_M_dominatesIt_20 ⟨Nat.zero_le _, Nat.zero_le _⟩)) (fun r hr => ?_)
    subst hr
    refine wl_ifeqb (tgt := 70) hx hb d_M_dominatesIt_23 (by decide) (fun hc23 => ?_) (fun hc23 => ?_)
    · refine lv_iconst (v := nI 0) hx hb d_M_dominatesIt_70 (by decide) ?_
      exact W.zret (v := nI 0) hx hb hr (by decide) (fun t ht hW => ⟨_, rfl, (bs_i_f (md_dm_f1 hc23)).symm, ht⟩) (fun _ h => nomatch h) d_M_dominatesIt_71
    · refine lv_lload hx hb d_M_dominatesIt_26 (lv_at hl 0 rfl) ?_
      refine lv_iload_n hx hb d_M_dominatesIt_28 rfl (lv_at hl 3 rfl) ?_
      refine vp_callSi (va_Run.run (va_runS (As := [.long rc, .int (nI v)]) (rest := []) ⟨hx, hb, hml, hown, hts⟩ (c_M_has l rc v (by omega)) (va_cwS 2 hts (nm_gS nm_476 nm_477 nm_4 nm_c_M_has) rfl rfl rfl (by decide +kernel) ⟨Nat.le_of_ble_eq_true rfl, Nat.le_of_ble_eq_true rfl⟩) ⟨fun _ _ _ _ q => ⟨q.1, trivial⟩, fun U hU hW => ⟨rfl, trivial⟩⟩ rfl rfl hl.1 rfl (lv_room (Nat.le_of_ble_eq_true rfl)) d_M_dominatesIt_29 ⟨Nat.zero_le _, Nat.zero_le _⟩)) (fun r hr => ?_)
      subst hr
      refine wl_ifeqb (tgt := 70) hx hb d_M_dominatesIt_32 (by decide) (fun hc32 => ?_) (fun hc32 => ?_)
      · refine lv_iconst (v := nI 0) hx hb d_M_dominatesIt_70 (by decide) ?_
        exact W.zret (v := nI 0) hx hb hr (by decide) (fun t ht hW => ⟨_, rfl, (bs_i_f (md_dm_f2 hc32)).symm, ht⟩) (fun _ h => nomatch h) d_M_dominatesIt_71
      · refine lv_iload_n hx hb d_M_dominatesIt_35 rfl (lv_at hl 2 rfl) ?_
        refine lv_iload_n hx hb d_M_dominatesIt_36 rfl (lv_at hl 3 rfl) ?_
        refine wl_ieq (tgt := 66) hx hb (by omega) (by omega) d_M_dominatesIt_37 (by decide) (fun hc37 => ?_) (fun hc37 => ?_)
        · refine lv_iconst (v := nI 1) hx hb d_M_dominatesIt_66 (by decide) ?_
          refine lv_goto (tgt := 71) hx hb d_M_dominatesIt_67 (by decide) ?_
          exact W.zret (v := nI 1) hx hb hr (by decide) (fun t ht hW => ⟨_, rfl, (bs_i_t (by rw [md_dm_t1 hc23 hc32 hc37]; decide)).symm, ht⟩) (fun _ h => nomatch h) d_M_dominatesIt_71
        · refine lv_iload_n hx hb d_M_dominatesIt_40 rfl (lv_at hl 4 rfl) ?_
          refine wl_ifeqn (tgt := 53) hx hb (by omega) d_M_dominatesIt_41 (by decide) (fun hc41 => ?_) (fun hc41 => ?_)
          · refine lv_aload_n hx hb d_M_dominatesIt_53 rfl (lv_at hl 1 rfl) ?_
            refine va_get (D := (dC, dI)) (ci := 3) (v := .ref w3) (C := "FlowNestModel") (T := T_M) (N := 15) hx hb hts nm_iM hown hK hP 0 rfl rfl 9 (by decide) (hts _ (List.mem_cons_of_mem _ nm_423)) (fun _ h9 => h9) rfl d_M_dominatesIt_54 ?_
            refine lv_iload_n hx hb d_M_dominatesIt_57 rfl (lv_at hl 2 rfl) ?_
            refine wl_lald (i := u) hx hb hK hP 3 0 rfl rfl (by omega) (by decide) d_M_dominatesIt_58 ?_
            refine lv_iload_n hx hb d_M_dominatesIt_59 rfl (lv_at hl 3 rfl) ?_
            refine vp_callSi (va_Run.run (va_runS (As := [.long (wi u), .int (nI v)]) (rest := []) ⟨hx, hb, hml, hown, hts⟩ (c_M_has l (wi u) v (by omega)) (va_cwS 2 hts (nm_gS nm_476 nm_477 nm_4 nm_c_M_has) rfl rfl rfl (by decide +kernel) ⟨Nat.le_of_ble_eq_true rfl, Nat.le_of_ble_eq_true rfl⟩) ⟨fun _ _ _ _ q => ⟨q.1, trivial⟩, fun U hU hW => ⟨rfl, trivial⟩⟩ rfl rfl hl.1 rfl (lv_room (Nat.le_of_ble_eq_true rfl)) d_M_dominatesIt_60 ⟨Nat.zero_le _, Nat.zero_le _⟩)) (fun r hr => ?_)
            subst hr
            refine wl_ifneb (tgt := 70) hx hb d_M_dominatesIt_63 (by decide) (fun hc63 => ?_) (fun hc63 => ?_)
            · refine lv_iconst (v := nI 0) hx hb d_M_dominatesIt_70 (by decide) ?_
              exact W.zret (v := nI 0) hx hb hr (by decide) (fun t ht hW => ⟨_, rfl, (bs_i_f (md_dm_f3 hc37 hc63)).symm, ht⟩) (fun _ h => nomatch h) d_M_dominatesIt_71
            · refine lv_iconst (v := nI 1) hx hb d_M_dominatesIt_66 (by decide) ?_
              refine lv_goto (tgt := 71) hx hb d_M_dominatesIt_67 (by decide) ?_
              exact W.zret (v := nI 1) hx hb hr (by decide) (fun t ht hW => ⟨_, rfl, (bs_i_t (by rw [md_dm_t2 hc23 hc32 hc63]; decide)).symm, ht⟩) (fun _ h => nomatch h) d_M_dominatesIt_71
          · exact absurd hc41 (by decide)
  · exact absurd hc1 (by decide)
set_option maxHeartbeats 4000000 in
set_option maxRecDepth 100000 in
theorem c_M_dominatesIt_1 (l : Launch) (dC : Nat → ClassId) (dI : Nat → Nat → Nat) (cJ cI : ClassId) (h3 k3 o3 w3 v3 p3 e3 f3 q3 : Nat) (cd : Int32) (nn : Int32) (ey : Int32) (ex : Int32) (kn : Int32) (rc : Int64) (eg : Int64) (li : Nat → Int64) (so : Nat → Int64) (wi : Nat → Int64) (ew : Nat → Int64) (lo : Nat → Int64) (en : Nat → Int32) (le : Nat → Int32) (pi : Nat → Int32) (u v : Nat) (hu : u < 48) (hv : v < 48) : Met l y_M_dominatesIt w_M_dominatesIt ({ frames := 1, cells := 0, slots := 0, locals := 22 }) (va_Pc [.ref h3, .int (nI u), .int (nI v), .int (nI 1)] (cw_B (dC, dI) cJ cI (md_ws cJ cI h3 k3 o3 w3 v3 p3 e3 f3 q3 cd nn ey ex kn rc eg li so wi ew lo en le pi))) (vp_Si (fun r => r = bs_i (md_dm eg ew u v))) 0 0 (fun _ => False) := by
  refine Met.ofW (cc := b_M_dominatesIt) (maxL := 6) (ret := (some .boolean)) (by decide) rfl ?_
  intro p e s m args below meth c s₁ B hml hv9
  obtain ⟨rfl, hP, hK, hNw⟩ := hv9
  have hx := B.exec
  have hb := B.bytes
  have hr := B.returns
  have hts := atoms_spec (ws := w_M_dominatesIt) B.pre
  have hown : s.vm.findClass "FlowNestModel" = some m.cls := findClass_of_methodNamed B.named
  have hlocks := B.notSynchronized
  have hP : va_P (dC, dI) vwCl (md_ws cJ cI h3 k3 o3 w3 v3 p3 e3 f3 q3 cd nn ey ex kn rc eg li so wi ew lo en le pi) s.heap := hP
  have hl := lv_entry ([.ref h3, .int (nI u), .int (nI v), .int (nI 1)]) (n := 6) (Nat.le_of_ble_eq_true rfl)
  rw [lg_entry_eq]
  generalize (lg_sl ([.ref h3, .int (nI u), .int (nI v), .int (nI 1)]) ++ List.replicate (6 - (lg_sl ([.ref h3, .int (nI u), .int (nI v), .int (nI 1)])).length) Slot.unset).toArray = ls at hl ⊢
  have hl : lv_has ls 6 [(0, .ref h3), (1, .int (nI u)), (2, .int (nI v)), (3, .int (nI 1))] := hl
  refine lv_iload_n hx hb d_M_dominatesIt_0 rfl (lv_at hl 3 rfl) ?_
  refine wl_ifeqn (tgt := 11) hx hb (by omega) d_M_dominatesIt_1 (by decide) (fun hc1 => ?_) (fun hc1 => ?_)
  · exact absurd hc1 (by decide)
  · refine lv_aload_n hx hb d_M_dominatesIt_4 rfl (lv_at hl 0 rfl) ?_
    refine va_get (D := (dC, dI)) (ci := 3) (v := .long eg) (C := "FlowNestModel") (T := T_M) (N := 15) hx hb hts nm_iM hown hK hP 0 rfl rfl 8 (by decide) (hts _ (List.mem_cons_of_mem _ nm_422)) (fun _ h9 => h9) rfl d_M_dominatesIt_5 ?_
    refine lv_goto (tgt := 15) hx hb d_M_dominatesIt_8 (by decide) ?_
    refine lv_lstore (lv' := [(4, .long eg), (0, .ref h3), (1, .int (nI u)), (2, .int (nI v)), (3, .int (nI 1))]) hx hb d_M_dominatesIt_15 hl (by decide) rfl (fun ls hl => ?_)
    refine lv_lload hx hb d_M_dominatesIt_17 (lv_at hl 0 rfl) ?_
    refine lv_iload_n hx hb d_M_dominatesIt_19 rfl (lv_at hl 2 rfl) ?_
    refine vp_callSi (va_Run.run (va_runS (As := [.long eg, .int (nI u)]) (rest := []) ⟨hx, hb, hml, hown, hts⟩ (c_M_has l eg u (by omega)) (va_cwS 2 hts (nm_gS nm_476 nm_477 nm_4 nm_c_M_has) rfl rfl rfl (by decide +kernel) ⟨Nat.le_of_ble_eq_true rfl, Nat.le_of_ble_eq_true rfl⟩) ⟨fun _ _ _ _ q => ⟨q.1, trivial⟩, fun U hU hW => ⟨rfl, trivial⟩⟩ rfl rfl hl.1 rfl (lv_room (Nat.le_of_ble_eq_true rfl)) d_M_dominatesIt_20 ⟨Nat.zero_le _, Nat.zero_le _⟩)) (fun r hr => ?_)
    subst hr
    refine wl_ifeqb (tgt := 70) hx hb d_M_dominatesIt_23 (by decide) (fun hc23 => ?_) (fun hc23 => ?_)
    · refine lv_iconst (v := nI 0) hx hb d_M_dominatesIt_70 (by decide) ?_
      exact W.zret (v := nI 0) hx hb hr (by decide) (fun t ht hW => ⟨_, rfl, (bs_i_f (md_dm_f1 hc23)).symm, ht⟩) (fun _ h => nomatch h) d_M_dominatesIt_71
    · refine lv_lload hx hb d_M_dominatesIt_26 (lv_at hl 0 rfl) ?_
      refine lv_iload_n hx hb d_M_dominatesIt_28 rfl (lv_at hl 3 rfl) ?_
      refine vp_callSi (va_Run.run (va_runS (As := [.long eg, .int (nI v)]) (rest := []) ⟨hx, hb, hml, hown, hts⟩ (c_M_has l eg v (by omega)) (va_cwS 2 hts (nm_gS nm_476 nm_477 nm_4 nm_c_M_has) rfl rfl rfl (by decide +kernel) ⟨Nat.le_of_ble_eq_true rfl, Nat.le_of_ble_eq_true rfl⟩) ⟨fun _ _ _ _ q => ⟨q.1, trivial⟩, fun U hU hW => ⟨rfl, trivial⟩⟩ rfl rfl hl.1 rfl (lv_room (Nat.le_of_ble_eq_true rfl)) d_M_dominatesIt_29 ⟨Nat.zero_le _, Nat.zero_le _⟩)) (fun r hr => ?_)
      subst hr
      refine wl_ifeqb (tgt := 70) hx hb d_M_dominatesIt_32 (by decide) (fun hc32 => ?_) (fun hc32 => ?_)
      · refine lv_iconst (v := nI 0) hx hb d_M_dominatesIt_70 (by decide) ?_
        exact W.zret (v := nI 0) hx hb hr (by decide) (fun t ht hW => ⟨_, rfl, (bs_i_f (md_dm_f2 hc32)).symm, ht⟩) (fun _ h => nomatch h) d_M_dominatesIt_71
      · refine lv_iload_n hx hb d_M_dominatesIt_35 rfl (lv_at hl 2 rfl) ?_
        refine lv_iload_n hx hb d_M_dominatesIt_36 rfl (lv_at hl 3 rfl) ?_
        refine wl_ieq (tgt := 66) hx hb (by omega) (by omega) d_M_dominatesIt_37 (by decide) (fun hc37 => ?_) (fun hc37 => ?_)
        · refine lv_iconst (v := nI 1) hx hb d_M_dominatesIt_66 (by decide) ?_
          refine lv_goto (tgt := 71) hx hb d_M_dominatesIt_67 (by decide) ?_
          exact W.zret (v := nI 1) hx hb hr (by decide) (fun t ht hW => ⟨_, rfl, (bs_i_t (by rw [md_dm_t1 hc23 hc32 hc37]; decide)).symm, ht⟩) (fun _ h => nomatch h) d_M_dominatesIt_71
        · refine lv_iload_n hx hb d_M_dominatesIt_40 rfl (lv_at hl 4 rfl) ?_
          refine wl_ifeqn (tgt := 53) hx hb (by omega) d_M_dominatesIt_41 (by decide) (fun hc41 => ?_) (fun hc41 => ?_)
          · exact absurd hc41 (by decide)
          · refine lv_aload_n hx hb d_M_dominatesIt_44 rfl (lv_at hl 1 rfl) ?_
            refine va_get (D := (dC, dI)) (ci := 3) (v := .ref v3) (C := "FlowNestModel") (T := T_M) (N := 15) hx hb hts nm_iM hown hK hP 0 rfl rfl 10 (by decide) (hts _ (List.mem_cons_of_mem _ nm_424)) (fun _ h9 => h9) rfl d_M_dominatesIt_45 ?_
            refine lv_iload_n hx hb d_M_dominatesIt_48 rfl (lv_at hl 2 rfl) ?_
            refine wl_lald (i := u) hx hb hK hP 4 0 rfl rfl (by omega) (by decide) d_M_dominatesIt_49 ?_
            refine lv_goto (tgt := 59) hx hb d_M_dominatesIt_50 (by decide) ?_
            refine lv_iload_n hx hb d_M_dominatesIt_59 rfl (lv_at hl 3 rfl) ?_
            refine vp_callSi (va_Run.run (va_runS (As := [.long (ew u), .int (nI v)]) (rest := []) ⟨hx, hb, hml, hown, hts⟩ (c_M_has l (ew u) v (by omega)) (va_cwS 2 hts (nm_gS nm_476 nm_477 nm_4 nm_c_M_has) rfl rfl rfl (by decide +kernel) ⟨Nat.le_of_ble_eq_true rfl, Nat.le_of_ble_eq_true rfl⟩) ⟨fun _ _ _ _ q => ⟨q.1, trivial⟩, fun U hU hW => ⟨rfl, trivial⟩⟩ rfl rfl hl.1 rfl (lv_room (Nat.le_of_ble_eq_true rfl)) d_M_dominatesIt_60 ⟨Nat.zero_le _, Nat.zero_le _⟩)) (fun r hr => ?_)
            subst hr
            refine wl_ifneb (tgt := 70) hx hb d_M_dominatesIt_63 (by decide) (fun hc63 => ?_) (fun hc63 => ?_)
            · refine lv_iconst (v := nI 0) hx hb d_M_dominatesIt_70 (by decide) ?_
              exact W.zret (v := nI 0) hx hb hr (by decide) (fun t ht hW => ⟨_, rfl, (bs_i_f (md_dm_f3 hc37 hc63)).symm, ht⟩) (fun _ h => nomatch h) d_M_dominatesIt_71
            · refine lv_iconst (v := nI 1) hx hb d_M_dominatesIt_66 (by decide) ?_
              refine lv_goto (tgt := 71) hx hb d_M_dominatesIt_67 (by decide) ?_
              exact W.zret (v := nI 1) hx hb hr (by decide) (fun t ht hW => ⟨_, rfl, (bs_i_t (by rw [md_dm_t2 hc23 hc32 hc63]; decide)).symm, ht⟩) (fun _ h => nomatch h) d_M_dominatesIt_71
theorem c_M_dominatesIt (l : Launch) (dC : Nat → ClassId) (dI : Nat → Nat → Nat) (cJ cI : ClassId) (h3 k3 o3 w3 v3 p3 e3 f3 q3 : Nat) (cd : Int32) (nn : Int32) (ey : Int32) (ex : Int32) (kn : Int32) (rc : Int64) (eg : Int64) (li : Nat → Int64) (so : Nat → Int64) (wi : Nat → Int64) (ew : Nat → Int64) (lo : Nat → Int64) (en : Nat → Int32) (le : Nat → Int32) (pi : Nat → Int32) (u v : Nat) (cv : Bool) (hu : u < 48) (hv : v < 48) : Met l y_M_dominatesIt w_M_dominatesIt ({ frames := 1, cells := 0, slots := 0, locals := 22 }) (va_Pc [.ref h3, .int (nI u), .int (nI v), .int (bs_i cv)] (cw_B (dC, dI) cJ cI (md_ws cJ cI h3 k3 o3 w3 v3 p3 e3 f3 q3 cd nn ey ex kn rc eg li so wi ew lo en le pi))) (vp_Si (fun r => r = bs_i (md_dm (if cv = true then eg else rc) (if cv = true then ew else wi) u v))) 0 0 (fun _ => False) := by
  cases cv
  · exact c_M_dominatesIt_0 l dC dI cJ cI h3 k3 o3 w3 v3 p3 e3 f3 q3 cd nn ey ex kn rc eg li so wi ew lo en le pi u v hu hv
  · exact c_M_dominatesIt_1 l dC dI cJ cI h3 k3 o3 w3 v3 p3 e3 f3 q3 cd nn ey ex kn rc eg li so wi ew lo en le pi u v hu hv
set_option maxHeartbeats 4000000 in
set_option maxRecDepth 100000 in
theorem c_M_rank (l : Launch) (dC : Nat → ClassId) (dI : Nat → Nat → Nat) (cJ cI : ClassId) (h3 k3 o3 w3 v3 p3 e3 f3 q3 : Nat) (cd : Int32) (ey : Int32) (ex : Int32) (kn : Int32) (rc : Int64) (eg : Int64) (li : Nat → Int64) (so : Nat → Int64) (wi : Nat → Int64) (ew : Nat → Int64) (lo : Nat → Int64) (en : Nat → Int32) (le : Nat → Int32) (pi : Nat → Int32) (n v : Nat) (cv : Bool) (hn : n ≤ 48) (hv : v < n) : Met l y_M_rank w_M_rank ({ frames := 2, cells := 0, slots := 0, locals := 47 }) (va_Pc [.ref h3, .int (nI v), .int (bs_i cv)] (cw_B (dC, dI) cJ cI (md_ws cJ cI h3 k3 o3 w3 v3 p3 e3 f3 q3 cd (nI n) ey ex kn rc eg li so wi ew lo en le pi))) (vp_Si (fun r => r = nI (ct_n (fun u => md_dm (if cv = true then eg else rc) (if cv = true then ew else wi) u v) n))) 0 0 (fun _ => False) := by
  refine Met.ofW (cc := b_M_rank) (maxL := 5) (ret := (some .int)) (by decide) rfl ?_
  intro p e s m args below meth c s₁ B hml hv9
  obtain ⟨rfl, hP, hK, hNw⟩ := hv9
  have hx := B.exec
  have hb := B.bytes
  have hr := B.returns
  have hts := atoms_spec (ws := w_M_rank) B.pre
  have hown : s.vm.findClass "FlowNestModel" = some m.cls := findClass_of_methodNamed B.named
  have hlocks := B.notSynchronized
  have hP : va_P (dC, dI) vwCl (md_ws cJ cI h3 k3 o3 w3 v3 p3 e3 f3 q3 cd (nI n) ey ex kn rc eg li so wi ew lo en le pi) s.heap := hP
  have hl := lv_entry ([.ref h3, .int (nI v), .int (bs_i cv)]) (n := 5) (Nat.le_of_ble_eq_true rfl)
  rw [lg_entry_eq]
  generalize (lg_sl ([.ref h3, .int (nI v), .int (bs_i cv)]) ++ List.replicate (5 - (lg_sl ([.ref h3, .int (nI v), .int (bs_i cv)])).length) Slot.unset).toArray = ls at hl ⊢
  have hl : lv_has ls 5 [(0, .ref h3), (1, .int (nI v)), (2, .int (bs_i cv))] := hl
  refine lv_iconst (v := nI 0) hx hb d_M_rank_0 (by decide) ?_
  refine lv_istore_n (lv' := [(3, .int (nI 0)), (0, .ref h3), (1, .int (nI v)), (2, .int (bs_i cv))]) hx hb d_M_rank_1 rfl hl (by decide) rfl (fun ls hl => ?_)
  refine lv_iconst (v := nI 0) hx hb d_M_rank_2 (by decide) ?_
  refine lv_istore (lv' := [(4, .int (nI 0)), (3, .int (nI 0)), (0, .ref h3), (1, .int (nI v)), (2, .int (bs_i cv))]) hx hb d_M_rank_3 hl (by decide) rfl (fun ls hl => ?_)
  refine wl_loopR (σ := Nat) 5 5 (fun (k : Nat) => [(0, .ref h3), (1, .int (nI v)), (2, .int (bs_i cv)), (3, .int (nI (ct_n (fun u => md_dm (if cv = true then eg else rc) (if cv = true then ew else wi) u v) k))), (4, .int (nI k))]) (fun (k : Nat) => k ≤ n) (fun (k : Nat) => n - k) ?_ 0 (Nat.zero_le n) (lv_sub hl [2, 3, 4, 1, 0] rfl)
  clear hl
  intro k hI ih ls hl
  have hI : k ≤ n := hI
  have hl : lv_has ls 5 [(0, .ref h3), (1, .int (nI v)), (2, .int (bs_i cv)), (3, .int (nI (ct_n (fun u => md_dm (if cv = true then eg else rc) (if cv = true then ew else wi) u v) k))), (4, .int (nI k))] := hl
  refine lv_iload hx hb d_M_rank_5 (lv_at hl 4 rfl) ?_
  refine lv_aload_n hx hb d_M_rank_7 rfl (lv_at hl 0 rfl) ?_
  refine va_get (D := (dC, dI)) (ci := 3) (v := .int (nI n)) (C := "FlowNestModel") (T := T_M) (N := 15) hx hb hts nm_iM hown hK hP 0 rfl rfl 1 (by decide) (hts _ (List.mem_cons_of_mem _ nm_415)) (fun _ h9 => h9) rfl d_M_rank_8 ?_
  refine wl_ige (tgt := 39) hx hb (by omega) (by omega) d_M_rank_11 (by decide) (fun hc11 => ?_) (fun hc11 => ?_)
  · refine lv_iload_n hx hb d_M_rank_39 rfl (lv_at hl 3 rfl) ?_
    exact W.iret (v := nI (ct_n (fun u => md_dm (if cv = true then eg else rc) (if cv = true then ew else wi) u v) k)) hx hb hr (fun t ht hW => ⟨_, rfl, by rw [show k = n by omega], ht⟩) (fun _ h => nomatch h) d_M_rank_40
  · refine lv_iload_n hx hb d_M_rank_14 rfl (lv_at hl 3 rfl) ?_
    refine lv_aload_n hx hb d_M_rank_15 rfl (lv_at hl 0 rfl) ?_
    refine lv_iload hx hb d_M_rank_16 (lv_at hl 4 rfl) ?_
    refine lv_iload_n hx hb d_M_rank_18 rfl (lv_at hl 1 rfl) ?_
    refine lv_iload_n hx hb d_M_rank_19 rfl (lv_at hl 2 rfl) ?_
    refine vp_callSi (va_Run.run (va_runV (C := "FlowNestModel") (b := h3) (As := [.int (nI k), .int (nI v), .int (bs_i cv)]) (rest := [.int (nI (ct_n (fun u => md_dm (if cv = true then eg else rc) (if cv = true then ew else wi) u v) k))]) ⟨hx, hb, hml, hown, hts⟩ (c_M_dominatesIt l dC dI cJ cI h3 k3 o3 w3 v3 p3 e3 f3 q3 cd (nI n) ey ex kn rc eg li so wi ew lo en le pi k v cv (by omega) (by omega)) (cwV 3 hts (nm_gV nm_508 nm_510 nm_s_M_dominatesIt nm_4 nm_c_M_dominatesIt) rfl rfl rfl (by decide +kernel) ⟨Nat.le_of_ble_eq_true rfl, Nat.le_of_ble_eq_true rfl⟩) ⟨cw_blind, va_recv hK hP (ci := 3) rfl (q0 := 0) rfl, cw_pre hP hK hNw⟩ rfl rfl hl.1 rfl (lv_room (Nat.le_of_ble_eq_true rfl)) d_M_rank_20 ⟨Nat.zero_le _, Nat.zero_le _⟩)) (fun r1 hr2 => ?_)
    subst hr2
    refine wl_ifeqb (tgt := 30) hx hb d_M_rank_23 (by decide) (fun hc23 => ?_) (fun hc23 => ?_)
    · refine lv_iconst (v := nI 0) hx hb d_M_rank_30 (by decide) ?_
      refine wl_iaddn hx hb d_M_rank_31 ?_
      refine lv_istore_n (lv' := [(3, .int (nI ((ct_n (fun u => md_dm (if cv = true then eg else rc) (if cv = true then ew else wi) u v) k) + 0))), (0, .ref h3), (1, .int (nI v)), (2, .int (bs_i cv)), (4, .int (nI k))]) hx hb d_M_rank_32 rfl hl (by decide) rfl (fun ls hl => ?_)
      refine lv_iinc (lv' := [(4, .int (nI (k + 1))), (3, .int (nI ((ct_n (fun u => md_dm (if cv = true then eg else rc) (if cv = true then ew else wi) u v) k) + 0))), (0, .ref h3), (1, .int (nI v)), (2, .int (bs_i cv))]) (k := 4) (v := nI (k + 1)) hx hb d_M_rank_33 hl rfl (nI_1 k) (by decide) rfl (fun ls hl => ?_)
      refine lv_goto (tgt := 5) hx hb d_M_rank_36 (by decide) ?_
      rw [show ct_n (fun u => md_dm (if cv = true then eg else rc) (if cv = true then ew else wi) u v) k + 0 = ct_n (fun u => md_dm (if cv = true then eg else rc) (if cv = true then ew else wi) u v) (k + 1) from ct_s0 (p := fun u => md_dm (if cv = true then eg else rc) (if cv = true then ew else wi) u v) hc23] at hl
      exact ih (k + 1) (show k + 1 ≤ n by omega) (show n - (k + 1) < n - k by omega) _ (lv_sub hl [2, 3, 4, 1, 0] rfl)
    · refine lv_iconst (v := nI 1) hx hb d_M_rank_26 (by decide) ?_
      refine lv_goto (tgt := 31) hx hb d_M_rank_27 (by decide) ?_
      refine wl_iaddn hx hb d_M_rank_31 ?_
      refine lv_istore_n (lv' := [(3, .int (nI ((ct_n (fun u => md_dm (if cv = true then eg else rc) (if cv = true then ew else wi) u v) k) + 1))), (0, .ref h3), (1, .int (nI v)), (2, .int (bs_i cv)), (4, .int (nI k))]) hx hb d_M_rank_32 rfl hl (by decide) rfl (fun ls hl => ?_)
      refine lv_iinc (lv' := [(4, .int (nI (k + 1))), (3, .int (nI ((ct_n (fun u => md_dm (if cv = true then eg else rc) (if cv = true then ew else wi) u v) k) + 1))), (0, .ref h3), (1, .int (nI v)), (2, .int (bs_i cv))]) (k := 4) (v := nI (k + 1)) hx hb d_M_rank_33 hl rfl (nI_1 k) (by decide) rfl (fun ls hl => ?_)
      refine lv_goto (tgt := 5) hx hb d_M_rank_36 (by decide) ?_
      rw [show ct_n (fun u => md_dm (if cv = true then eg else rc) (if cv = true then ew else wi) u v) k + 1 = ct_n (fun u => md_dm (if cv = true then eg else rc) (if cv = true then ew else wi) u v) (k + 1) from ct_s1 (p := fun u => md_dm (if cv = true then eg else rc) (if cv = true then ew else wi) u v) hc23] at hl
      exact ih (k + 1) (show k + 1 ≤ n by omega) (show n - (k + 1) < n - k by omega) _ (lv_sub hl [2, 3, 4, 1, 0] rfl)
set_option maxHeartbeats 4000000 in
set_option maxRecDepth 100000 in
theorem c_M_goesBack (l : Launch) (dC : Nat → ClassId) (dI : Nat → Nat → Nat) (cJ cI : ClassId) (h3 k3 o3 w3 v3 p3 e3 f3 q3 : Nat) (cd : Int32) (nn : Int32) (ey : Int32) (ex : Int32) (kn : Int32) (rc : Int64) (eg : Int64) (li : Nat → Int64) (so : Nat → Int64) (wi : Nat → Int64) (ew : Nat → Int64) (lo : Nat → Int64) (en : Nat → Int32) (le : Nat → Int32) (pi : Nat → Int32) (u v : Nat) (hu : u < 48) (hv : v < 48) : Met l y_M_goesBack w_M_goesBack ({ frames := 2, cells := 0, slots := 0, locals := 47 }) (va_Pc [.ref h3, .int (nI u), .int (nI v)] (cw_B (dC, dI) cJ cI (md_ws cJ cI h3 k3 o3 w3 v3 p3 e3 f3 q3 cd nn ey ex kn rc eg li so wi ew lo en le pi))) (vp_Si (fun r => r = bs_i (md_gb li rc wi u v))) 0 0 (fun _ => False) := by
  refine Met.ofW (cc := b_M_goesBack) (maxL := 3) (ret := (some .boolean)) (by decide) rfl ?_
  intro p e s m args below meth c s₁ B hml hv9
  obtain ⟨rfl, hP, hK, hNw⟩ := hv9
  have hx := B.exec
  have hb := B.bytes
  have hr := B.returns
  have hts := atoms_spec (ws := w_M_goesBack) B.pre
  have hown : s.vm.findClass "FlowNestModel" = some m.cls := findClass_of_methodNamed B.named
  have hlocks := B.notSynchronized
  have hP : va_P (dC, dI) vwCl (md_ws cJ cI h3 k3 o3 w3 v3 p3 e3 f3 q3 cd nn ey ex kn rc eg li so wi ew lo en le pi) s.heap := hP
  have hl := lv_entry ([.ref h3, .int (nI u), .int (nI v)]) (n := 3) (Nat.le_of_ble_eq_true rfl)
  rw [lg_entry_eq]
  generalize (lg_sl ([.ref h3, .int (nI u), .int (nI v)]) ++ List.replicate (3 - (lg_sl ([.ref h3, .int (nI u), .int (nI v)])).length) Slot.unset).toArray = ls at hl ⊢
  have hl : lv_has ls 3 [(0, .ref h3), (1, .int (nI u)), (2, .int (nI v))] := hl
  refine lv_aload_n hx hb d_M_goesBack_0 rfl (lv_at hl 0 rfl) ?_
  refine va_get (D := (dC, dI)) (ci := 3) (v := .ref k3) (C := "FlowNestModel") (T := T_M) (N := 15) hx hb hts nm_iM hown hK hP 0 rfl rfl 4 (by decide) (hts _ (List.mem_cons_of_mem _ nm_418)) (fun _ h9 => h9) rfl d_M_goesBack_1 ?_
  refine lv_iload_n hx hb d_M_goesBack_4 rfl (lv_at hl 1 rfl) ?_
  refine wl_lald (i := u) hx hb hK hP 1 0 rfl rfl (by omega) (by decide) d_M_goesBack_5 ?_
  refine lv_iload_n hx hb d_M_goesBack_6 rfl (lv_at hl 2 rfl) ?_
  refine vp_callSi (va_Run.run (va_runS (As := [.long (li u), .int (nI v)]) (rest := []) ⟨hx, hb, hml, hown, hts⟩ (c_M_has l (li u) v (by omega)) (va_cwS 2 hts (nm_gS nm_476 nm_477 nm_4 nm_c_M_has) rfl rfl rfl (by decide +kernel) ⟨Nat.le_of_ble_eq_true rfl, Nat.le_of_ble_eq_true rfl⟩) ⟨fun _ _ _ _ q => ⟨q.1, trivial⟩, fun U hU hW => ⟨rfl, trivial⟩⟩ rfl rfl hl.1 rfl (lv_room (Nat.le_of_ble_eq_true rfl)) d_M_goesBack_7 ⟨Nat.zero_le _, Nat.zero_le _⟩)) (fun r hr => ?_)
  subst hr
  refine wl_ifeqb (tgt := 27) hx hb d_M_goesBack_10 (by decide) (fun hc10 => ?_) (fun hc10 => ?_)
  · refine lv_iconst (v := nI 0) hx hb d_M_goesBack_27 (by decide) ?_
    exact W.zret (v := nI 0) hx hb hr (by decide) (fun t ht hW => ⟨_, rfl, (bs_i_f (md_gb_f hc10)).symm, ht⟩) (fun _ h => nomatch h) d_M_goesBack_28
  · refine lv_aload_n hx hb d_M_goesBack_13 rfl (lv_at hl 0 rfl) ?_
    refine lv_iload_n hx hb d_M_goesBack_14 rfl (lv_at hl 2 rfl) ?_
    refine lv_iload_n hx hb d_M_goesBack_15 rfl (lv_at hl 1 rfl) ?_
    refine lv_iconst (v := nI 0) hx hb d_M_goesBack_16 (by decide) ?_
    refine vp_callSi (va_Run.run (va_runV (C := "FlowNestModel") (b := h3) (As := [.int (nI v), .int (nI u), .int (nI 0)]) (rest := []) ⟨hx, hb, hml, hown, hts⟩ (c_M_dominatesIt_0 l dC dI cJ cI h3 k3 o3 w3 v3 p3 e3 f3 q3 cd nn ey ex kn rc eg li so wi ew lo en le pi v u (by omega) (by omega)) (cwV 3 hts (nm_gV nm_508 nm_510 nm_s_M_dominatesIt nm_4 nm_c_M_dominatesIt) rfl rfl rfl (by decide +kernel) ⟨Nat.le_of_ble_eq_true rfl, Nat.le_of_ble_eq_true rfl⟩) ⟨cw_blind, va_recv hK hP (ci := 3) rfl (q0 := 0) rfl, cw_pre hP hK hNw⟩ rfl rfl hl.1 rfl (lv_room (Nat.le_of_ble_eq_true rfl)) d_M_goesBack_17 ⟨Nat.zero_le _, Nat.zero_le _⟩)) (fun r1 hr2 => ?_)
    subst hr2
    refine wl_ifeqb (tgt := 27) hx hb d_M_goesBack_20 (by decide) (fun hc20 => ?_) (fun hc20 => ?_)
    · refine lv_iconst (v := nI 0) hx hb d_M_goesBack_27 (by decide) ?_
      exact W.zret (v := nI 0) hx hb hr (by decide) (fun t ht hW => ⟨_, rfl, (bs_i_f (md_gb_2 hc10 hc20)).symm, ht⟩) (fun _ h => nomatch h) d_M_goesBack_28
    · refine lv_iconst (v := nI 1) hx hb d_M_goesBack_23 (by decide) ?_
      refine lv_goto (tgt := 28) hx hb d_M_goesBack_24 (by decide) ?_
      exact W.zret (v := nI 1) hx hb hr (by decide) (fun t ht hW => ⟨_, rfl, (bs_i_t (by rw [md_gb_2 hc10 hc20]; decide)).symm, ht⟩) (fun _ h => nomatch h) d_M_goesBack_28
set_option maxHeartbeats 4000000 in
set_option maxRecDepth 100000 in
theorem c_M_loopFrom (l : Launch) (dC : Nat → ClassId) (dI : Nat → Nat → Nat) (cJ cI : ClassId) (h3 k3 o3 w3 v3 p3 e3 f3 q3 : Nat) (cd : Int32) (ey : Int32) (ex : Int32) (kn : Int32) (rc : Int64) (eg : Int64) (li : Nat → Int64) (so : Nat → Int64) (wi : Nat → Int64) (ew : Nat → Int64) (lo : Nat → Int64) (en : Nat → Int32) (le : Nat → Int32) (pi : Nat → Int32) (n r v : Nat) (hn : n ≤ 48) (hv : v < n) (hrc : ∀ i, bs_t rc i = true ↔ gf_R (gf_E n li) r i) (hso : ∀ v, v < n → so v = gf_T n li v) (hbk : ∀ u, u < n → md_gb li rc wi u v = gf_d (sp_Bk n li r u v)) : Met l y_M_loopFrom w_M_loopFrom ({ frames := 3, cells := 0, slots := 0, locals := 69 }) (va_Pc [.ref h3, .int (nI v)] (cw_B (dC, dI) cJ cI (md_ws cJ cI h3 k3 o3 w3 v3 p3 e3 f3 q3 cd (nI n) ey ex kn rc eg li so wi ew lo en le pi))) (vp_Sl (fun r9 => r9 = sp_lp n li r v)) 0 0 (fun _ => False) := by
  refine Met.ofW (cc := b_M_loopFrom) (maxL := 5) (ret := (some .long)) (by decide) rfl ?_
  intro p e s m args below meth c s₁ B hml hv9
  obtain ⟨rfl, hP, hK, hNw⟩ := hv9
  have hx := B.exec
  have hb := B.bytes
  have hr := B.returns
  have hts := atoms_spec (ws := w_M_loopFrom) B.pre
  have hown : s.vm.findClass "FlowNestModel" = some m.cls := findClass_of_methodNamed B.named
  have hlocks := B.notSynchronized
  have hP : va_P (dC, dI) vwCl (md_ws cJ cI h3 k3 o3 w3 v3 p3 e3 f3 q3 cd (nI n) ey ex kn rc eg li so wi ew lo en le pi) s.heap := hP
  have hl := lv_entry ([.ref h3, .int (nI v)]) (n := 5) (Nat.le_of_ble_eq_true rfl)
  rw [lg_entry_eq]
  generalize (lg_sl ([.ref h3, .int (nI v)]) ++ List.replicate (5 - (lg_sl ([.ref h3, .int (nI v)])).length) Slot.unset).toArray = ls at hl ⊢
  have hl : lv_has ls 5 [(0, .ref h3), (1, .int (nI v))] := hl
  refine lv_lconst (v := 0) hx hb d_M_loopFrom_0 (by decide) ?_
  refine lv_lstore_n (lv' := [(2, .long 0), (0, .ref h3), (1, .int (nI v))]) hx hb d_M_loopFrom_1 rfl hl (by decide) rfl (fun ls hl => ?_)
  refine lv_iconst (v := nI 0) hx hb d_M_loopFrom_2 (by decide) ?_
  refine lv_istore (lv' := [(4, .int (nI 0)), (2, .long 0), (0, .ref h3), (1, .int (nI v))]) hx hb d_M_loopFrom_3 hl (by decide) rfl (fun ls hl => ?_)
  refine wl_loopR (σ := Nat) 5 5 (fun (u : Nat) => [(0, .ref h3), (1, .int (nI v)), (2, .long (md_lp n li r v rc u)), (4, .int (nI u))]) (fun (u : Nat) => u ≤ n) (fun (u : Nat) => n - u) ?_ 0 (Nat.zero_le n) (lv_sub hl [2, 3, 1, 0] rfl)
  clear hl
  intro u hI ih ls hl
  have hI : u ≤ n := hI
  have hl : lv_has ls 5 [(0, .ref h3), (1, .int (nI v)), (2, .long (md_lp n li r v rc u)), (4, .int (nI u))] := hl
  refine lv_iload hx hb d_M_loopFrom_5 (lv_at hl 3 rfl) ?_
  refine lv_aload_n hx hb d_M_loopFrom_7 rfl (lv_at hl 0 rfl) ?_
  refine va_get (D := (dC, dI)) (ci := 3) (v := .int (nI n)) (C := "FlowNestModel") (T := T_M) (N := 15) hx hb hts nm_iM hown hK hP 0 rfl rfl 1 (by decide) (hts _ (List.mem_cons_of_mem _ nm_415)) (fun _ h9 => h9) rfl d_M_loopFrom_8 ?_
  refine wl_ige (tgt := 50) hx hb (by omega) (by omega) d_M_loopFrom_11 (by decide) (fun hc11 => ?_) (fun hc11 => ?_)
  · refine lv_lload_n hx hb d_M_loopFrom_50 rfl (lv_at hl 2 rfl) ?_
    exact W.lret (v := md_lp n li r v rc u) hx hb hr (fun t ht hW => ⟨_, rfl, by rw [show u = n by omega]; exact md_lp_eq (by omega) (by omega) hrc, ht⟩) (fun _ h => nomatch h) d_M_loopFrom_51
  · refine lv_aload_n hx hb d_M_loopFrom_14 rfl (lv_at hl 0 rfl) ?_
    refine lv_iload hx hb d_M_loopFrom_15 (lv_at hl 3 rfl) ?_
    refine lv_iload_n hx hb d_M_loopFrom_17 rfl (lv_at hl 1 rfl) ?_
    refine vp_callSi (va_Run.run (va_runV (C := "FlowNestModel") (b := h3) (As := [.int (nI u), .int (nI v)]) (rest := []) ⟨hx, hb, hml, hown, hts⟩ (c_M_goesBack l dC dI cJ cI h3 k3 o3 w3 v3 p3 e3 f3 q3 cd (nI n) ey ex kn rc eg li so wi ew lo en le pi u v (by omega) (by omega)) (cwV 2 hts (nm_gV nm_504 nm_506 nm_s_M_goesBack nm_4 nm_c_M_goesBack) rfl rfl rfl (by decide +kernel) ⟨Nat.le_of_ble_eq_true rfl, Nat.le_of_ble_eq_true rfl⟩) ⟨cw_blind, va_recv hK hP (ci := 3) rfl (q0 := 0) rfl, cw_pre hP hK hNw⟩ rfl rfl hl.1 rfl (lv_room (Nat.le_of_ble_eq_true rfl)) d_M_loopFrom_18 ⟨Nat.zero_le _, Nat.zero_le _⟩)) (fun r1 hr2 => ?_)
    subst hr2
    refine wl_ifeqb (tgt := 44) hx hb d_M_loopFrom_21 (by decide) (fun hc21 => ?_) (fun hc21 => ?_)
    · refine lv_iinc (lv' := [(4, .int (nI (u + 1))), (0, .ref h3), (1, .int (nI v)), (2, .long (md_lp n li r v rc u))]) (k := 3) (v := nI (u + 1)) hx hb d_M_loopFrom_44 hl rfl (nI_1 u) (by decide) rfl (fun ls hl => ?_)
      refine lv_goto (tgt := 5) hx hb d_M_loopFrom_47 (by decide) ?_
      rw [show md_lp n li r v rc u = md_lp n li r v rc (u + 1) from (if_neg (by rw [← hbk u hc11, hc21]; decide)).symm] at hl
      exact ih (u + 1) (show u + 1 ≤ n by omega) (show n - (u + 1) < n - u by omega) _ (lv_sub hl [1, 2, 3, 0] rfl)
    · refine lv_lload_n hx hb d_M_loopFrom_24 rfl (lv_at hl 2 rfl) ?_
      refine lv_lconst (v := 1) hx hb d_M_loopFrom_25 (by decide) ?_
      refine lv_iload_n hx hb d_M_loopFrom_26 rfl (lv_at hl 1 rfl) ?_
      refine lv_lshl (v := bs_b v) hx hb d_M_loopFrom_27 rfl ?_
      refine lv_aload_n hx hb d_M_loopFrom_28 rfl (lv_at hl 0 rfl) ?_
      refine lv_iload hx hb d_M_loopFrom_29 (lv_at hl 3 rfl) ?_
      refine lv_iload_n hx hb d_M_loopFrom_31 rfl (lv_at hl 1 rfl) ?_
      refine lv_iconst (v := nI 1) hx hb d_M_loopFrom_32 (by decide) ?_
      refine vp_callSl (va_Run.run (va_runV (C := "FlowNestModel") (b := h3) (As := [.int (nI u), .int (nI v), .int (nI 1)]) (rest := [.long (bs_b v), .long (md_lp n li r v rc u)]) ⟨hx, hb, hml, hown, hts⟩ (c_M_comeTo_b1 l dC dI cJ cI h3 k3 o3 w3 v3 p3 e3 f3 q3 cd ey ex kn rc eg li so wi ew lo en le pi n u v hn (by omega) (by omega)) (cwV 3 hts (nm_gV nm_496 nm_498 nm_s_M_comeTo nm_4 nm_c_M_comeTo) rfl rfl rfl (by decide +kernel) ⟨Nat.le_of_ble_eq_true rfl, Nat.le_of_ble_eq_true rfl⟩) ⟨cw_blind, va_recv hK hP (ci := 3) rfl (q0 := 0) rfl, cw_pre hP hK hNw⟩ rfl rfl hl.1 rfl (lv_room (Nat.le_of_ble_eq_true rfl)) d_M_loopFrom_33 ⟨Nat.zero_le _, Nat.zero_le _⟩)) (fun r3 hr4 => ?_)
      subst hr4
      refine lv_aload_n hx hb d_M_loopFrom_36 rfl (lv_at hl 0 rfl) ?_
      refine va_get (D := (dC, dI)) (ci := 3) (v := .long rc) (C := "FlowNestModel") (T := T_M) (N := 15) hx hb hts nm_iM hown hK hP 0 rfl rfl 7 (by decide) (hts _ (List.mem_cons_of_mem _ nm_421)) (fun _ h9 => h9) rfl d_M_loopFrom_37 ?_
      refine lv_land hx hb d_M_loopFrom_40 ?_
      refine lv_lor hx hb d_M_loopFrom_41 ?_
      refine lv_lor hx hb d_M_loopFrom_42 ?_
      refine lv_lstore_n (lv' := [(2, .long ((md_lp n li r v rc u) ||| ((bs_b v) ||| ((sp_cm n so u v) &&& rc)))), (0, .ref h3), (1, .int (nI v)), (4, .int (nI u))]) hx hb d_M_loopFrom_43 rfl hl (by decide) rfl (fun ls hl => ?_)
      refine lv_iinc (lv' := [(4, .int (nI (u + 1))), (2, .long ((md_lp n li r v rc u) ||| ((bs_b v) ||| ((sp_cm n so u v) &&& rc)))), (0, .ref h3), (1, .int (nI v))]) (k := 3) (v := nI (u + 1)) hx hb d_M_loopFrom_44 hl rfl (nI_1 u) (by decide) rfl (fun ls hl => ?_)
      refine lv_goto (tgt := 5) hx hb d_M_loopFrom_47 (by decide) ?_
      rw [sp_cm_congr hso] at hl
      rw [show md_lp n li r v rc u ||| (bs_b v ||| (sp_cm n (gf_T n li) u v &&& rc)) = md_lp n li r v rc (u + 1) from (if_pos (by rw [← hbk u hc11]; exact hc21)).symm] at hl
      exact ih (u + 1) (show u + 1 ≤ n by omega) (show n - (u + 1) < n - u by omega) _ (lv_sub hl [2, 3, 1, 0] rfl)
set_option maxHeartbeats 4000000 in
set_option maxRecDepth 100000 in
theorem c_M_frontierOf (l : Launch) (dC : Nat → ClassId) (dI : Nat → Nat → Nat) (cJ cI : ClassId) (h3 k3 o3 w3 v3 p3 e3 f3 q3 : Nat) (cd : Int32) (ey : Int32) (ex : Int32) (kn : Int32) (rc : Int64) (eg : Int64) (li : Nat → Int64) (so : Nat → Int64) (wi : Nat → Int64) (ew : Nat → Int64) (lo : Nat → Int64) (en : Nat → Int32) (le : Nat → Int32) (pi : Nat → Int32) (n r v : Nat) (hn : n ≤ 48) (hv : v < n) (hL : ∀ u v, gf_E n li u v → v < n) (hd : ∀ u w, u < n → w < n → md_dm rc wi u w = gf_d (dm_D (gf_E n li) r u w)) : Met l y_M_frontierOf w_M_frontierOf ({ frames := 2, cells := 0, slots := 0, locals := 47 }) (va_Pc [.ref h3, .int (nI v)] (cw_B (dC, dI) cJ cI (md_ws cJ cI h3 k3 o3 w3 v3 p3 e3 f3 q3 cd (nI n) ey ex kn rc eg li so wi ew lo en le pi))) (vp_Sl (fun r9 => r9 = sp_fr n li r v)) 0 0 (fun _ => False) := by
  refine Met.ofW (cc := b_M_frontierOf) (maxL := 6) (ret := (some .long)) (by decide) rfl ?_
  intro p e s m args below meth c s₁ B hml hv9
  obtain ⟨rfl, hP, hK, hNw⟩ := hv9
  have hx := B.exec
  have hb := B.bytes
  have hr := B.returns
  have hts := atoms_spec (ws := w_M_frontierOf) B.pre
  have hown : s.vm.findClass "FlowNestModel" = some m.cls := findClass_of_methodNamed B.named
  have hlocks := B.notSynchronized
  have hP : va_P (dC, dI) vwCl (md_ws cJ cI h3 k3 o3 w3 v3 p3 e3 f3 q3 cd (nI n) ey ex kn rc eg li so wi ew lo en le pi) s.heap := hP
  have hl := lv_entry ([.ref h3, .int (nI v)]) (n := 6) (Nat.le_of_ble_eq_true rfl)
  rw [lg_entry_eq]
  generalize (lg_sl ([.ref h3, .int (nI v)]) ++ List.replicate (6 - (lg_sl ([.ref h3, .int (nI v)])).length) Slot.unset).toArray = ls at hl ⊢
  have hl : lv_has ls 6 [(0, .ref h3), (1, .int (nI v))] := hl
  refine lv_lconst (v := 0) hx hb d_M_frontierOf_0 (by decide) ?_
  refine lv_lstore_n (lv' := [(2, .long 0), (0, .ref h3), (1, .int (nI v))]) hx hb d_M_frontierOf_1 rfl hl (by decide) rfl (fun ls hl => ?_)
  refine lv_iconst (v := nI 0) hx hb d_M_frontierOf_2 (by decide) ?_
  refine lv_istore (lv' := [(4, .int (nI 0)), (2, .long 0), (0, .ref h3), (1, .int (nI v))]) hx hb d_M_frontierOf_3 hl (by decide) rfl (fun ls hl => ?_)
  refine wl_loopR (σ := Int64 × Nat) 5 6 (fun (x : Int64 × Nat) => match x with | (set, u) => [(0, .ref h3), (1, .int (nI v)), (2, .long set), (4, .int (nI u))]) (fun (x : Int64 × Nat) => match x with | (set, u) => u ≤ n ∧ md_Y n li r v set u 0) (fun (x : Int64 × Nat) => match x with | (set, u) => n - u) ?_ (0, 0) (⟨Nat.zero_le n, md_Y0 n li r v⟩) (lv_sub hl [2, 3, 1, 0] rfl)
  clear hl
  intro x hI ih ls hl
  obtain ⟨set, u⟩ := x
  have hI : u ≤ n ∧ md_Y n li r v set u 0 := hI
  have hl : lv_has ls 6 [(0, .ref h3), (1, .int (nI v)), (2, .long set), (4, .int (nI u))] := hl
  have ih0 := ih
  refine lv_iload hx hb d_M_frontierOf_5 (lv_at hl 3 rfl) ?_
  refine lv_aload_n hx hb d_M_frontierOf_7 rfl (lv_at hl 0 rfl) ?_
  refine va_get (D := (dC, dI)) (ci := 3) (v := .int (nI n)) (C := "FlowNestModel") (T := T_M) (N := 15) hx hb hts nm_iM hown hK hP 0 rfl rfl 1 (by decide) (hts _ (List.mem_cons_of_mem _ nm_415)) (fun _ h9 => h9) rfl d_M_frontierOf_8 ?_
  refine wl_ige (tgt := 88) hx hb (by omega) (by omega) d_M_frontierOf_11 (by decide) (fun hc11 => ?_) (fun hc11 => ?_)
  · refine lv_lload_n hx hb d_M_frontierOf_88 rfl (lv_at hl 2 rfl) ?_
    exact W.lret (v := set) hx hb hr (fun t ht hW => ⟨_, rfl, md_Ye (by have := hI.2; rw [show u = n by omega] at this; exact this), ht⟩) (fun _ h => nomatch h) d_M_frontierOf_89
  · refine lv_iconst (v := nI 0) hx hb d_M_frontierOf_14 (by decide) ?_
    refine lv_istore (lv' := [(5, .int (nI 0)), (0, .ref h3), (1, .int (nI v)), (2, .long set), (4, .int (nI u))]) hx hb d_M_frontierOf_15 hl (by decide) rfl (fun ls hl => ?_)
    refine wl_loopR (σ := Int64 × Nat) 17 6 (fun (x : Int64 × Nat) => match x with | (set, w) => [(0, .ref h3), (1, .int (nI v)), (2, .long set), (4, .int (nI u)), (5, .int (nI w))]) (fun (x : Int64 × Nat) => match x with | (set, w) => w ≤ n ∧ md_Y n li r v set u w) (fun (x : Int64 × Nat) => match x with | (set, w) => n - w) ?_ (set, 0) (⟨Nat.zero_le n, hI.2⟩) (lv_sub hl [1, 2, 3, 4, 0] rfl)
    clear hl
    intro x hI ih ls hl
    obtain ⟨set, w⟩ := x
    have hI : w ≤ n ∧ md_Y n li r v set u w := hI
    have hl : lv_has ls 6 [(0, .ref h3), (1, .int (nI v)), (2, .long set), (4, .int (nI u)), (5, .int (nI w))] := hl
    refine lv_iload hx hb d_M_frontierOf_17 (lv_at hl 4 rfl) ?_
    refine lv_aload_n hx hb d_M_frontierOf_19 rfl (lv_at hl 0 rfl) ?_
    refine va_get (D := (dC, dI)) (ci := 3) (v := .int (nI n)) (C := "FlowNestModel") (T := T_M) (N := 15) hx hb hts nm_iM hown hK hP 0 rfl rfl 1 (by decide) (hts _ (List.mem_cons_of_mem _ nm_415)) (fun _ h9 => h9) rfl d_M_frontierOf_20 ?_
    refine wl_ige (tgt := 82) hx hb (by omega) (by omega) d_M_frontierOf_23 (by decide) (fun hc23 => ?_) (fun hc23 => ?_)
    · refine lv_iinc (lv' := [(4, .int (nI (u + 1))), (0, .ref h3), (1, .int (nI v)), (2, .long set), (5, .int (nI w))]) (k := 3) (v := nI (u + 1)) hx hb d_M_frontierOf_82 hl rfl (nI_1 u) (by decide) rfl (fun ls hl => ?_)
      refine lv_goto (tgt := 5) hx hb d_M_frontierOf_85 (by decide) ?_
      exact ih0 (set, (u + 1)) (show u + 1 ≤ n ∧ md_Y n li r v set (u + 1) 0 from ⟨by omega, md_Yn hL hI.2 (Or.inl hc23)⟩) (show n - (u + 1) < n - u by omega) _ (lv_sub hl [1, 2, 3, 0] rfl)
    · refine lv_aload_n hx hb d_M_frontierOf_26 rfl (lv_at hl 0 rfl) ?_
      refine lv_iload_n hx hb d_M_frontierOf_27 rfl (lv_at hl 1 rfl) ?_
      refine lv_iload hx hb d_M_frontierOf_28 (lv_at hl 3 rfl) ?_
      refine lv_iconst (v := nI 0) hx hb d_M_frontierOf_30 (by decide) ?_
      refine vp_callSi (va_Run.run (va_runV (C := "FlowNestModel") (b := h3) (As := [.int (nI v), .int (nI u), .int (nI 0)]) (rest := []) ⟨hx, hb, hml, hown, hts⟩ (c_M_dominatesIt_0 l dC dI cJ cI h3 k3 o3 w3 v3 p3 e3 f3 q3 cd (nI n) ey ex kn rc eg li so wi ew lo en le pi v u (by omega) (by omega)) (cwV 3 hts (nm_gV nm_508 nm_510 nm_s_M_dominatesIt nm_4 nm_c_M_dominatesIt) rfl rfl rfl (by decide +kernel) ⟨Nat.le_of_ble_eq_true rfl, Nat.le_of_ble_eq_true rfl⟩) ⟨cw_blind, va_recv hK hP (ci := 3) rfl (q0 := 0) rfl, cw_pre hP hK hNw⟩ rfl rfl hl.1 rfl (lv_room (Nat.le_of_ble_eq_true rfl)) d_M_frontierOf_31 ⟨Nat.zero_le _, Nat.zero_le _⟩)) (fun r1 hr2 => ?_)
      subst hr2
      refine wl_ifeqb (tgt := 82) hx hb d_M_frontierOf_34 (by decide) (fun hc34 => ?_) (fun hc34 => ?_)
      · refine lv_iinc (lv' := [(4, .int (nI (u + 1))), (0, .ref h3), (1, .int (nI v)), (2, .long set), (5, .int (nI w))]) (k := 3) (v := nI (u + 1)) hx hb d_M_frontierOf_82 hl rfl (nI_1 u) (by decide) rfl (fun ls hl => ?_)
        refine lv_goto (tgt := 5) hx hb d_M_frontierOf_85 (by decide) ?_
        exact ih0 (set, (u + 1)) (show u + 1 ≤ n ∧ md_Y n li r v set (u + 1) 0 from ⟨by omega, md_Yn hL hI.2 (Or.inr (gf_df.mp (by rw [← hd v u hv (by omega)]; exact hc34)))⟩) (show n - (u + 1) < n - u by omega) _ (lv_sub hl [1, 2, 3, 0] rfl)
      · refine lv_aload_n hx hb d_M_frontierOf_37 rfl (lv_at hl 0 rfl) ?_
        refine va_get (D := (dC, dI)) (ci := 3) (v := .ref k3) (C := "FlowNestModel") (T := T_M) (N := 15) hx hb hts nm_iM hown hK hP 0 rfl rfl 4 (by decide) (hts _ (List.mem_cons_of_mem _ nm_418)) (fun _ h9 => h9) rfl d_M_frontierOf_38 ?_
        refine lv_iload hx hb d_M_frontierOf_41 (lv_at hl 3 rfl) ?_
        refine wl_lald (i := u) hx hb hK hP 1 0 rfl rfl (by omega) (by decide) d_M_frontierOf_43 ?_
        refine lv_iload hx hb d_M_frontierOf_44 (lv_at hl 4 rfl) ?_
        refine vp_callSi (va_Run.run (va_runS (As := [.long (li u), .int (nI w)]) (rest := []) ⟨hx, hb, hml, hown, hts⟩ (c_M_has l (li u) w (by omega)) (va_cwS 2 hts (nm_gS nm_476 nm_477 nm_4 nm_c_M_has) rfl rfl rfl (by decide +kernel) ⟨Nat.le_of_ble_eq_true rfl, Nat.le_of_ble_eq_true rfl⟩) ⟨fun _ _ _ _ q => ⟨q.1, trivial⟩, fun U hU hW => ⟨rfl, trivial⟩⟩ rfl rfl hl.1 rfl (lv_room (Nat.le_of_ble_eq_true rfl)) d_M_frontierOf_46 ⟨Nat.zero_le _, Nat.zero_le _⟩)) (fun r hr => ?_)
        subst hr
        refine wl_ifeqb (tgt := 76) hx hb d_M_frontierOf_49 (by decide) (fun hc49 => ?_) (fun hc49 => ?_)
        · refine lv_iinc (lv' := [(5, .int (nI (w + 1))), (0, .ref h3), (1, .int (nI v)), (2, .long set), (4, .int (nI u))]) (k := 4) (v := nI (w + 1)) hx hb d_M_frontierOf_76 hl rfl (nI_1 w) (by decide) rfl (fun ls hl => ?_)
          refine lv_goto (tgt := 17) hx hb d_M_frontierOf_79 (by decide) ?_
          exact ih (set, (w + 1)) (show w + 1 ≤ n ∧ md_Y n li r v set u (w + 1) from ⟨by omega, md_Yk hI.2 (fun q => by have := q.1.2; rw [hc49] at this; cases this)⟩) (show n - (w + 1) < n - w by omega) _ (lv_sub hl [1, 2, 3, 4, 0] rfl)
        · refine lv_iload hx hb d_M_frontierOf_52 (lv_at hl 4 rfl) ?_
          refine lv_iload_n hx hb d_M_frontierOf_54 rfl (lv_at hl 1 rfl) ?_
          refine wl_ieq (tgt := 69) hx hb (by omega) (by omega) d_M_frontierOf_55 (by decide) (fun hc55 => ?_) (fun hc55 => ?_)
          · refine lv_lload_n hx hb d_M_frontierOf_69 rfl (lv_at hl 2 rfl) ?_
            refine lv_lconst (v := 1) hx hb d_M_frontierOf_70 (by decide) ?_
            refine lv_iload hx hb d_M_frontierOf_71 (lv_at hl 4 rfl) ?_
            refine lv_lshl (v := bs_b w) hx hb d_M_frontierOf_73 rfl ?_
            refine lv_lor hx hb d_M_frontierOf_74 ?_
            refine lv_lstore_n (lv' := [(2, .long (set ||| (bs_b w))), (0, .ref h3), (1, .int (nI v)), (4, .int (nI u)), (5, .int (nI w))]) hx hb d_M_frontierOf_75 rfl hl (by decide) rfl (fun ls hl => ?_)
            refine lv_iinc (lv' := [(5, .int (nI (w + 1))), (2, .long (set ||| (bs_b w))), (0, .ref h3), (1, .int (nI v)), (4, .int (nI u))]) (k := 4) (v := nI (w + 1)) hx hb d_M_frontierOf_76 hl rfl (nI_1 w) (by decide) rfl (fun ls hl => ?_)
            refine lv_goto (tgt := 17) hx hb d_M_frontierOf_79 (by decide) ?_
            exact ih ((set ||| bs_b w), (w + 1)) (show w + 1 ≤ n ∧ md_Y n li r v (set ||| bs_b w) u (w + 1) from ⟨by omega, md_Ya (by omega) hI.2 (gf_di.mp (by rw [← hd v u hv (by omega)]; exact hc34)) ⟨by omega, hc49⟩ (Or.inl hc55)⟩) (show n - (w + 1) < n - w by omega) _ (lv_sub hl [2, 3, 1, 4, 0] rfl)
          · refine lv_aload_n hx hb d_M_frontierOf_58 rfl (lv_at hl 0 rfl) ?_
            refine lv_iload_n hx hb d_M_frontierOf_59 rfl (lv_at hl 1 rfl) ?_
            refine lv_iload hx hb d_M_frontierOf_60 (lv_at hl 4 rfl) ?_
            refine lv_iconst (v := nI 0) hx hb d_M_frontierOf_62 (by decide) ?_
            refine vp_callSi (va_Run.run (va_runV (C := "FlowNestModel") (b := h3) (As := [.int (nI v), .int (nI w), .int (nI 0)]) (rest := []) ⟨hx, hb, hml, hown, hts⟩ (c_M_dominatesIt_0 l dC dI cJ cI h3 k3 o3 w3 v3 p3 e3 f3 q3 cd (nI n) ey ex kn rc eg li so wi ew lo en le pi v w (by omega) (by omega)) (cwV 3 hts (nm_gV nm_508 nm_510 nm_s_M_dominatesIt nm_4 nm_c_M_dominatesIt) rfl rfl rfl (by decide +kernel) ⟨Nat.le_of_ble_eq_true rfl, Nat.le_of_ble_eq_true rfl⟩) ⟨cw_blind, va_recv hK hP (ci := 3) rfl (q0 := 0) rfl, cw_pre hP hK hNw⟩ rfl rfl hl.1 rfl (lv_room (Nat.le_of_ble_eq_true rfl)) d_M_frontierOf_63 ⟨Nat.zero_le _, Nat.zero_le _⟩)) (fun r3 hr4 => ?_)
            subst hr4
            refine wl_ifneb (tgt := 76) hx hb d_M_frontierOf_66 (by decide) (fun hc66 => ?_) (fun hc66 => ?_)
            · refine lv_iinc (lv' := [(5, .int (nI (w + 1))), (0, .ref h3), (1, .int (nI v)), (2, .long set), (4, .int (nI u))]) (k := 4) (v := nI (w + 1)) hx hb d_M_frontierOf_76 hl rfl (nI_1 w) (by decide) rfl (fun ls hl => ?_)
              refine lv_goto (tgt := 17) hx hb d_M_frontierOf_79 (by decide) ?_
              exact ih (set, (w + 1)) (show w + 1 ≤ n ∧ md_Y n li r v set u (w + 1) from ⟨by omega, md_Yk hI.2 (fun q => q.2.elim hc55 (fun z => z (gf_di.mp (by rw [← hd v w hv (by omega)]; exact hc66))))⟩) (show n - (w + 1) < n - w by omega) _ (lv_sub hl [1, 2, 3, 4, 0] rfl)
            · refine lv_lload_n hx hb d_M_frontierOf_69 rfl (lv_at hl 2 rfl) ?_
              refine lv_lconst (v := 1) hx hb d_M_frontierOf_70 (by decide) ?_
              refine lv_iload hx hb d_M_frontierOf_71 (lv_at hl 4 rfl) ?_
              refine lv_lshl (v := bs_b w) hx hb d_M_frontierOf_73 rfl ?_
              refine lv_lor hx hb d_M_frontierOf_74 ?_
              refine lv_lstore_n (lv' := [(2, .long (set ||| (bs_b w))), (0, .ref h3), (1, .int (nI v)), (4, .int (nI u)), (5, .int (nI w))]) hx hb d_M_frontierOf_75 rfl hl (by decide) rfl (fun ls hl => ?_)
              refine lv_iinc (lv' := [(5, .int (nI (w + 1))), (2, .long (set ||| (bs_b w))), (0, .ref h3), (1, .int (nI v)), (4, .int (nI u))]) (k := 4) (v := nI (w + 1)) hx hb d_M_frontierOf_76 hl rfl (nI_1 w) (by decide) rfl (fun ls hl => ?_)
              refine lv_goto (tgt := 17) hx hb d_M_frontierOf_79 (by decide) ?_
              exact ih ((set ||| bs_b w), (w + 1)) (show w + 1 ≤ n ∧ md_Y n li r v (set ||| bs_b w) u (w + 1) from ⟨by omega, md_Ya (by omega) hI.2 (gf_di.mp (by rw [← hd v u hv (by omega)]; exact hc34)) ⟨by omega, hc49⟩ (Or.inr (gf_df.mp (by rw [← hd v w hv (by omega)]; exact hc66)))⟩) (show n - (w + 1) < n - w by omega) _ (lv_sub hl [2, 3, 1, 4, 0] rfl)
