/-! contracts of the reference's thrown, told, begin, link, place (laid by wip/gen/change.py) -/
set_option maxHeartbeats 4000000 in
set_option maxRecDepth 100000 in
theorem c_M_thrown (l : Launch) (dC : Nat → ClassId) (dI : Nat → Nat → Nat) (cJ cI : ClassId) (h3 k3 o3 w3 v3 p3 e3 f3 q3 : Nat) (cd : Int32) (nn : Int32) (ey : Int32) (ex : Int32) (kn : Int32) (rc : Int64) (eg : Int64) (li : Nat → Int64) (so : Nat → Int64) (wi : Nat → Int64) (ew : Nat → Int64) (lo : Nat → Int64) (en : Nat → Int32) (le : Nat → Int32) (pi : Nat → Int32)   : Met l y_M_thrown w_M_thrown ({ frames := 0, cells := 0, slots := 0, locals := 0 }) (va_Pc [.ref h3] (cw_B (dC, dI) cJ cI (md_ws cJ cI h3 k3 o3 w3 v3 p3 e3 f3 q3 cd nn ey ex kn rc eg li so wi ew lo en le pi))) (vp_Si (fun r => r = cd)) 0 0 (fun _ => False) := by
  refine Met.ofW (cc := b_M_thrown) (maxL := 1) (ret := (some .int)) (by decide) rfl ?_
  intro p e s m args below meth c s₁ B hml hv9
  obtain ⟨rfl, hP, hK, hNw⟩ := hv9
  have hx := B.exec
  have hb := B.bytes
  have hr := B.returns
  have hts := atoms_spec (ws := w_M_thrown) B.pre
  have hown : s.vm.findClass "FlowNestModel" = some m.cls := findClass_of_methodNamed B.named
  have hlocks := B.notSynchronized
  have hP : va_P (dC, dI) vwCl (md_ws cJ cI h3 k3 o3 w3 v3 p3 e3 f3 q3 cd nn ey ex kn rc eg li so wi ew lo en le pi) s.heap := hP
  have hl := lv_entry ([.ref h3]) (n := 1) (Nat.le_of_ble_eq_true rfl)
  rw [lg_entry_eq]
  generalize (lg_sl ([.ref h3]) ++ List.replicate (1 - (lg_sl ([.ref h3])).length) Slot.unset).toArray = ls at hl ⊢
  have hl : lv_has ls 1 [(0, .ref h3)] := hl
  refine lv_aload_n hx hb d_M_thrown_0 rfl (lv_at hl 0 rfl) ?_
  refine va_get (D := (dC, dI)) (ci := 3) (v := .int cd) (C := "FlowNestModel") (T := T_M) (N := 15) hx hb hts nm_iM hown hK hP 0 rfl rfl 0 (by decide) (hts _ (List.mem_cons_of_mem _ nm_414)) (fun _ h9 => h9) rfl d_M_thrown_1 ?_
  exact W.iret (v := cd) hx hb hr (fun t ht hW => ⟨_, rfl, rfl, ht⟩) (fun _ h => nomatch h) d_M_thrown_4
set_option maxHeartbeats 4000000 in
set_option maxRecDepth 100000 in
theorem c_M_told (l : Launch) (dC : Nat → ClassId) (dI : Nat → Nat → Nat) (cJ cI : ClassId) (h3 k3 o3 w3 v3 p3 e3 f3 q3 hs : Nat) (cd : Int32) (ey : Int32) (ex : Int32) (rc : Int64) (eg : Int64) (li : Nat → Int64) (so : Nat → Int64) (wi : Nat → Int64) (ew : Nat → Int64) (lo : Nat → Int64) (en : Nat → Int32) (le : Nat → Int32) (pi : Nat → Int32) (n r x : Nat) (q : Bool) (what : Int32) (hn : n ≤ 48) (hz : 0 < n → ey = nI r ∧ ex = nI x ∧ r < n ∧ x < n) (hL : ∀ u v, gf_E n li u v → v < n) (hq : q = true → md_G n r x li rc eg so wi ew lo en le) : Met l y_M_told w_M_told ({ frames := 5, cells := 0, slots := 0, locals := 115 }) (va_Pc [.ref h3, .int what] (cw_M (dC, dI) cJ cI (md_ws cJ cI h3 k3 o3 w3 v3 p3 e3 f3 q3 cd (nI n) ey ex (bs_i q) rc eg li so wi ew lo en le pi) hs)) (va_Qi (fun (r9 : Int32) (u9 : Int64 × Int64 × (Nat → Int64) × (Nat → Int64) × (Nat → Int64) × (Nat → Int64) × (Nat → Int32) × (Nat → Int32) × (Nat → Int32) × Bool) => match u9 with | (rc9, eg9, so9, wi9, ew9, lo9, en9, le9, pi9, k9) => (k9 = true → md_G n r x li rc9 eg9 so9 wi9 ew9 lo9 en9 le9) ∧ sp_told n r x li ey ex what r9) (fun (u9 : Int64 × Int64 × (Nat → Int64) × (Nat → Int64) × (Nat → Int64) × (Nat → Int64) × (Nat → Int32) × (Nat → Int32) × (Nat → Int32) × Bool) (t : State) => match u9 with | (rc9, eg9, so9, wi9, ew9, lo9, en9, le9, pi9, k9) => va_P (dC, dI) vwCl (md_ws cJ cI h3 k3 o3 w3 v3 p3 e3 f3 q3 (nI 0) (nI n) ey ex (bs_i k9) rc9 eg9 li so9 wi9 ew9 lo9 en9 le9 pi9) t.heap ∧ va_D (va_A (md_ws cJ cI h3 k3 o3 w3 v3 p3 e3 f3 q3 cd (nI n) ey ex (bs_i q) rc eg li so wi ew lo en le pi) hs) (md_ws cJ cI h3 k3 o3 w3 v3 p3 e3 f3 q3 (nI 0) (nI n) ey ex (bs_i k9) rc9 eg9 li so9 wi9 ew9 lo9 en9 le9 pi9)) (va_A (md_ws cJ cI h3 k3 o3 w3 v3 p3 e3 f3 q3 cd (nI n) ey ex (bs_i q) rc eg li so wi ew lo en le pi) hs)) 0 0 (va_A (md_ws cJ cI h3 k3 o3 w3 v3 p3 e3 f3 q3 cd (nI n) ey ex (bs_i q) rc eg li so wi ew lo en le pi) hs) := by
  refine Met.ofW (cc := b_M_told) (maxL := 4) (ret := (some .int)) (by decide) rfl ?_
  intro p e s m args below meth c s₁ B hml hv9
  obtain ⟨rfl, hsz, ⟨hP, hK, hNw⟩, hD0⟩ := hv9
  have hx := B.exec
  have hb := B.bytes
  have hr := B.returns
  have hts := atoms_spec (ws := w_M_told) B.pre
  have hown : s.vm.findClass "FlowNestModel" = some m.cls := findClass_of_methodNamed B.named
  have hlocks := B.notSynchronized
  subst hsz
  have hD := hD0.self (sz := s.heap.size)
  generalize hAe : va_A (md_ws cJ cI h3 k3 o3 w3 v3 p3 e3 f3 q3 cd (nI n) ey ex (bs_i q) rc eg li so wi ew lo en le pi) s.heap.size = A at hD ⊢
  have hA : ∀ q : Nat, s.heap.size ≤ q → A q := fun q h => by rw [← hAe]; exact Or.inr h
  have hS : va_S A s.heap s.heap [] := va_S.rf
  have hP : va_P (dC, dI) vwCl (md_ws cJ cI h3 k3 o3 w3 v3 p3 e3 f3 q3 cd (nI n) ey ex (bs_i q) rc eg li so wi ew lo en le pi) s.heap := hP
  have hl := lv_entry ([.ref h3, .int what]) (n := 4) (Nat.le_of_ble_eq_true rfl)
  rw [lg_entry_eq]
  generalize (lg_sl ([.ref h3, .int what]) ++ List.replicate (4 - (lg_sl ([.ref h3, .int what])).length) Slot.unset).toArray = ls at hl ⊢
  have hl : lv_has ls 4 [(0, .ref h3), (1, .int what)] := hl
  refine lv_aload_n hx hb d_M_told_0 rfl (lv_at hl 0 rfl) ?_
  refine lv_iconst (v := nI 0) hx hb d_M_told_1 (by decide) ?_
  refine va_put (D := (dC, dI)) (ci := 3) (v := .int (nI 0)) (ty := .int) (C := "FlowNestModel") (T := T_M) (N := 15) hx hb hts nm_iM t_M t_M_ok nm_M hown hK hP hD hS 0 rfl rfl 0 (by decide) (hts _ (List.mem_cons_of_mem _ nm_414)) (fun _ h9 => h9) rfl (by decide +kernel) (by rfl) (by rfl) (Nat.le_of_ble_eq_true rfl) d_M_told_2 (fun H locs hP hD hS => ?_)
  have hP : va_P (dC, dI) vwCl (md_ws cJ cI h3 k3 o3 w3 v3 p3 e3 f3 q3 (nI 0) (nI n) ey ex (bs_i q) rc eg li so wi ew lo en le pi) H := hP
  have hD : va_D A (md_ws cJ cI h3 k3 o3 w3 v3 p3 e3 f3 q3 (nI 0) (nI n) ey ex (bs_i q) rc eg li so wi ew lo en le pi) := hD
  refine lv_aload_n hx hb d_M_told_5 rfl (lv_at hl 0 rfl) ?_
  refine va_get (D := (dC, dI)) (ci := 3) (v := .int (nI n)) (C := "FlowNestModel") (T := T_M) (N := 15) hx hb hts nm_iM hown hK hP 0 rfl rfl 1 (by decide) (hts _ (List.mem_cons_of_mem _ nm_415)) (fun _ h9 => h9) rfl d_M_told_6 ?_
  refine wl_iflen (tgt := 16) hx hb (by omega) d_M_told_9 (by decide) (fun hc9 => ?_) (fun hc9 => ?_)
  · refine lv_iconst (v := nI 0) hx hb d_M_told_16 (by decide) ?_
    refine lv_istore_n (lv' := [(2, .int (nI 0)), (0, .ref h3), (1, .int what)]) hx hb d_M_told_17 rfl hl (by decide) rfl (fun ls hl => ?_)
    refine lv_iconst (v := nI 0) hx hb d_M_told_18 (by decide) ?_
    refine lv_istore_n (lv' := [(3, .int (nI 0)), (2, .int (nI 0)), (0, .ref h3), (1, .int what)]) hx hb d_M_told_19 rfl hl (by decide) rfl (fun ls hl => ?_)
    refine wl_loop (σ := Nat) (dC, dI) vwCl A 20 4 (fun (h : Nat) => [(0, .ref h3), (1, .int what), (2, .int (nI (sm_n (fun v => ct_n (bs_t (li v)) n) h))), (3, .int (nI h))]) (fun (h : Nat) => md_ws cJ cI h3 k3 o3 w3 v3 p3 e3 f3 q3 (nI 0) (nI n) ey ex (bs_i q) rc eg li so wi ew lo en le pi) (fun (h : Nat) => h ≤ n) (fun (h : Nat) => n - h) ?_ 0 (Nat.zero_le n) hP hD hS (lv_sub hl [2, 3, 1, 0] rfl)
    intro h hI ih H locs ls hP hD hS hl
    have hI : h ≤ n := hI
    have hP : va_P (dC, dI) vwCl (md_ws cJ cI h3 k3 o3 w3 v3 p3 e3 f3 q3 (nI 0) (nI n) ey ex (bs_i q) rc eg li so wi ew lo en le pi) H := hP
    have hD : va_D A (md_ws cJ cI h3 k3 o3 w3 v3 p3 e3 f3 q3 (nI 0) (nI n) ey ex (bs_i q) rc eg li so wi ew lo en le pi) := hD
    have hl : lv_has ls 4 [(0, .ref h3), (1, .int what), (2, .int (nI (sm_n (fun v => ct_n (bs_t (li v)) n) h))), (3, .int (nI h))] := hl
    refine lv_iload_n hx hb d_M_told_20 rfl (lv_at hl 3 rfl) ?_
    refine lv_aload_n hx hb d_M_told_21 rfl (lv_at hl 0 rfl) ?_
    refine va_get (D := (dC, dI)) (ci := 3) (v := .int (nI n)) (C := "FlowNestModel") (T := T_M) (N := 15) hx hb hts nm_iM hown hK hP 0 rfl rfl 1 (by decide) (hts _ (List.mem_cons_of_mem _ nm_415)) (fun _ h9 => h9) rfl d_M_told_22 ?_
    refine wl_ige (tgt := 47) hx hb (by omega) (by omega) d_M_told_25 (by decide) (fun hc25 => ?_) (fun hc25 => ?_)
    · refine lv_iload_n hx hb d_M_told_47 rfl (lv_at hl 1 rfl) ?_
      by_cases hy0 : what = nI 0
      · subst hy0
        refine lv_tableIn (off := 40) (tgt := 88) hx hb d_M_told_48 (by decide) (by decide) (by decide) (by decide) ?_
        refine lv_aload_n hx hb d_M_told_88 rfl (lv_at hl 0 rfl) ?_
        refine va_get (D := (dC, dI)) (ci := 3) (v := .int (nI n)) (C := "FlowNestModel") (T := T_M) (N := 15) hx hb hts nm_iM hown hK hP 0 rfl rfl 1 (by decide) (hts _ (List.mem_cons_of_mem _ nm_415)) (fun _ h9 => h9) rfl d_M_told_89 ?_
        exact W.iret (v := nI n) hx hb hr (fun t ht hW => ⟨⟨(nI n), (rc, eg, so, wi, ew, lo, en, le, pi, q), rfl, ⟨hq, tl_0 rfl⟩, by rw [ht]; exact hP, hD⟩, hS.F ht⟩) hS.2.2 d_M_told_92
      by_cases hy1 : what = nI 1
      · subst hy1
        refine lv_tableIn (off := 45) (tgt := 93) hx hb d_M_told_48 (by decide) (by decide) (by decide) (by decide) ?_
        refine lv_iload_n hx hb d_M_told_93 rfl (lv_at hl 2 rfl) ?_
        exact W.iret (v := nI (sm_n (fun v => ct_n (bs_t (li v)) n) h)) hx hb hr (fun t ht hW => ⟨⟨(nI (sm_n (fun v => ct_n (bs_t (li v)) n) h)), (rc, eg, so, wi, ew, lo, en, le, pi, q), rfl, ⟨hq, tl_1 (by rw [show h = n by omega, md_lc (by omega) hL])⟩, by rw [ht]; exact hP, hD⟩, hS.F ht⟩) hS.2.2 d_M_told_94
      by_cases hy2 : what = nI 2
      · subst hy2
        refine lv_tableIn (off := 47) (tgt := 95) hx hb d_M_told_48 (by decide) (by decide) (by decide) (by decide) ?_
        refine lv_aload_n hx hb d_M_told_95 rfl (lv_at hl 0 rfl) ?_
        refine va_get (D := (dC, dI)) (ci := 3) (v := .int (nI n)) (C := "FlowNestModel") (T := T_M) (N := 15) hx hb hts nm_iM hown hK hP 0 rfl rfl 1 (by decide) (hts _ (List.mem_cons_of_mem _ nm_415)) (fun _ h9 => h9) rfl d_M_told_96 ?_
        refine wl_ifnen (tgt := 106) hx hb (by omega) d_M_told_99 (by decide) (fun hc99 => ?_) (fun hc99 => ?_)
        · exact absurd hc99 (by omega)
        · refine lv_iconst (v := nI 0) hx hb d_M_told_102 (by decide) ?_
          refine lv_goto (tgt := 114) hx hb d_M_told_103 (by decide) ?_
          exact W.iret (v := nI 0) hx hb hr (fun t ht hW => ⟨⟨(nI 0), (rc, eg, so, wi, ew, lo, en, le, pi, q), rfl, ⟨hq, tl_2 (by rw [hc99]; rfl)⟩, by rw [ht]; exact hP, hD⟩, hS.F ht⟩) hS.2.2 d_M_told_114
      by_cases hy3 : what = nI 3
      · subst hy3
        refine lv_tableIn (off := 67) (tgt := 115) hx hb d_M_told_48 (by decide) (by decide) (by decide) (by decide) ?_
        refine lv_aload_n hx hb d_M_told_115 rfl (lv_at hl 0 rfl) ?_
        refine va_get (D := (dC, dI)) (ci := 3) (v := .int (nI n)) (C := "FlowNestModel") (T := T_M) (N := 15) hx hb hts nm_iM hown hK hP 0 rfl rfl 1 (by decide) (hts _ (List.mem_cons_of_mem _ nm_415)) (fun _ h9 => h9) rfl d_M_told_116 ?_
        refine wl_ifnen (tgt := 126) hx hb (by omega) d_M_told_119 (by decide) (fun hc119 => ?_) (fun hc119 => ?_)
        · exact absurd hc119 (by omega)
        · refine lv_iconst (v := nI 0) hx hb d_M_told_122 (by decide) ?_
          refine lv_goto (tgt := 134) hx hb d_M_told_123 (by decide) ?_
          exact W.iret (v := nI 0) hx hb hr (fun t ht hW => ⟨⟨(nI 0), (rc, eg, so, wi, ew, lo, en, le, pi, q), rfl, ⟨hq, tl_3 (by rw [hc119]; rfl)⟩, by rw [ht]; exact hP, hD⟩, hS.F ht⟩) hS.2.2 d_M_told_134
      by_cases hy4 : what = nI 4
      · subst hy4
        refine lv_tableIn (off := 87) (tgt := 135) hx hb d_M_told_48 (by decide) (by decide) (by decide) (by decide) ?_
        refine lv_aload_n hx hb d_M_told_135 rfl (lv_at hl 0 rfl) ?_
        refine va_get (D := (dC, dI)) (ci := 3) (v := .int ey) (C := "FlowNestModel") (T := T_M) (N := 15) hx hb hts nm_iM hown hK hP 0 rfl rfl 2 (by decide) (hts _ (List.mem_cons_of_mem _ nm_416)) (fun _ h9 => h9) rfl d_M_told_136 ?_
        exact W.iret (v := ey) hx hb hr (fun t ht hW => ⟨⟨ey, (rc, eg, so, wi, ew, lo, en, le, pi, q), rfl, ⟨hq, tl_4 rfl⟩, by rw [ht]; exact hP, hD⟩, hS.F ht⟩) hS.2.2 d_M_told_139
      by_cases hy5 : what = nI 5
      · subst hy5
        refine lv_tableIn (off := 92) (tgt := 140) hx hb d_M_told_48 (by decide) (by decide) (by decide) (by decide) ?_
        refine lv_aload_n hx hb d_M_told_140 rfl (lv_at hl 0 rfl) ?_
        refine va_get (D := (dC, dI)) (ci := 3) (v := .int ex) (C := "FlowNestModel") (T := T_M) (N := 15) hx hb hts nm_iM hown hK hP 0 rfl rfl 3 (by decide) (hts _ (List.mem_cons_of_mem _ nm_417)) (fun _ h9 => h9) rfl d_M_told_141 ?_
        exact W.iret (v := ex) hx hb hr (fun t ht hW => ⟨⟨ex, (rc, eg, so, wi, ew, lo, en, le, pi, q), rfl, ⟨hq, tl_5 rfl⟩, by rw [ht]; exact hP, hD⟩, hS.F ht⟩) hS.2.2 d_M_told_144
      refine lv_tableOut (tgt := 145) hx hb d_M_told_48 (tw_out hy0 hy1 hy2 hy3 hy4 hy5) (by decide) ?_
      refine lv_iconst (v := -1) hx hb d_M_told_145 (by decide) ?_
      exact W.iret (v := -1) hx hb hr (fun t ht hW => ⟨⟨(-1), (rc, eg, so, wi, ew, lo, en, le, pi, q), rfl, ⟨hq, tl_d hy0 hy1 hy2 hy3 hy4 hy5 rfl⟩, by rw [ht]; exact hP, hD⟩, hS.F ht⟩) hS.2.2 d_M_told_146
    · refine lv_iload_n hx hb d_M_told_28 rfl (lv_at hl 2 rfl) ?_
      refine lv_aload_n hx hb d_M_told_29 rfl (lv_at hl 0 rfl) ?_
      refine lv_aload_n hx hb d_M_told_30 rfl (lv_at hl 0 rfl) ?_
      refine va_get (D := (dC, dI)) (ci := 3) (v := .ref k3) (C := "FlowNestModel") (T := T_M) (N := 15) hx hb hts nm_iM hown hK hP 0 rfl rfl 4 (by decide) (hts _ (List.mem_cons_of_mem _ nm_418)) (fun _ h9 => h9) rfl d_M_told_31 ?_
      refine lv_iload_n hx hb d_M_told_34 rfl (lv_at hl 3 rfl) ?_
      refine wl_lald (i := h) hx hb hK hP 1 0 rfl rfl (by omega) (by decide) d_M_told_35 ?_
      refine vp_callSi (va_Run.run (va_runV (C := "FlowNestModel") (b := h3) (As := [.long (li h)]) (rest := [.int (nI (sm_n (fun v => ct_n (bs_t (li v)) n) h))]) ⟨hx, hb, hml, hown, hts⟩ (c_M_sizeOf l dC dI cJ cI h3 k3 o3 w3 v3 p3 e3 f3 q3 (nI 0) ey ex (bs_i q) rc eg li so wi ew lo en le pi n (li h) hn) (cwV 1 hts (nm_gV nm_568 nm_570 nm_s_M_sizeOf nm_4 nm_c_M_sizeOf) rfl rfl rfl (by decide +kernel) ⟨Nat.le_of_ble_eq_true rfl, Nat.le_of_ble_eq_true rfl⟩) ⟨cw_blind, va_recv hK hP (ci := 3) rfl (q0 := 0) rfl, cw_pre hP hK hNw⟩ rfl rfl hl.1 rfl (lv_room (Nat.le_of_ble_eq_true rfl)) d_M_told_36 ⟨Nat.zero_le _, Nat.zero_le _⟩)) (fun r1 hr2 => ?_)
      subst hr2
      refine W.eq (g2 := F0 m 39 ls [.int (nI ((fun v => ct_n (bs_t (li v)) n) h)), .int (nI (sm_n (fun v => ct_n (bs_t (li v)) n) h))]) rfl ?_
      refine wl_iaddn hx hb d_M_told_39 ?_
      refine lv_istore_n (lv' := [(2, .int (nI ((sm_n (fun v => ct_n (bs_t (li v)) n) h) + ((fun v => ct_n (bs_t (li v)) n) h)))), (0, .ref h3), (1, .int what), (3, .int (nI h))]) hx hb d_M_told_40 rfl hl (by decide) rfl (fun ls hl => ?_)
      refine lv_iinc (lv' := [(3, .int (nI (h + 1))), (2, .int (nI ((sm_n (fun v => ct_n (bs_t (li v)) n) h) + ((fun v => ct_n (bs_t (li v)) n) h)))), (0, .ref h3), (1, .int what)]) (k := 3) (v := nI (h + 1)) hx hb d_M_told_41 hl rfl (nI_1 h) (by decide) rfl (fun ls hl => ?_)
      refine lv_goto (tgt := 20) hx hb d_M_told_44 (by decide) ?_
      rw [sm_s (fun v => ct_n (bs_t (li v)) n) h] at hl
      exact ih (h + 1) (show h + 1 ≤ n by omega) (show n - (h + 1) < n - h by omega) _ _ _ hP hD hS (lv_sub hl [2, 3, 1, 0] rfl)
  · obtain ⟨rfl, rfl, hr9, hx9⟩ := hz (by omega)
    have hP : va_P (dC, dI) vwCl (md_ws cJ cI h3 k3 o3 w3 v3 p3 e3 f3 q3 (nI 0) (nI n) (nI r) (nI x) (bs_i q) rc eg li so wi ew lo en le pi) H := hP
    have hD : va_D A (md_ws cJ cI h3 k3 o3 w3 v3 p3 e3 f3 q3 (nI 0) (nI n) (nI r) (nI x) (bs_i q) rc eg li so wi ew lo en le pi) := hD
    refine lv_aload_n hx hb d_M_told_12 rfl (lv_at hl 0 rfl) ?_
    have hPc := hP.sub (ws' := md_ws cJ cI h3 k3 o3 w3 v3 p3 e3 f3 q3 (nI 0) (nI n) (nI r) (nI x) (bs_i q) rc eg li so wi ew lo en le pi) [0, 1, 2, 3, 4, 5, 6, 7, 8] rfl
    have hDc := hD.sub (ws' := md_ws cJ cI h3 k3 o3 w3 v3 p3 e3 f3 q3 (nI 0) (nI n) (nI r) (nI x) (bs_i q) rc eg li so wi ew lo en le pi) [0, 1, 2, 3, 4, 5, 6, 7, 8] (by decide) rfl
    have hFc := va_free (wc := md_ws cJ cI h3 k3 o3 w3 v3 p3 e3 f3 q3 (nI 0) (nI n) (nI r) (nI x) (bs_i q) rc eg li so wi ew lo en le pi) hD hS hA [0, 1, 2, 3, 4, 5, 6, 7, 8] rfl
    refine va_callv (va_runV (C := "FlowNestModel") (b := h3) (As := []) (rest := []) ⟨hx, hb, hml, hown, hts⟩ (c_M_learn l dC dI cJ cI h3 k3 o3 w3 v3 p3 e3 f3 q3 H.size (nI 0) rc eg li so wi ew lo en le pi n r x q hn hr9 hx9 hL hq) (cwV 0 hts (nm_gV nm_492 nm_494 nm_s_M_learn nm_4 nm_c_M_learn) rfl rfl rfl (by decide +kernel) ⟨Nat.le_of_ble_eq_true rfl, Nat.le_of_ble_eq_true rfl⟩) ⟨cw_blindM, va_recv hK hP (ci := 3) rfl (q0 := 0) rfl, cw_preM hPc hDc hK hNw⟩ rfl rfl hl.1 rfl (lv_room (Nat.le_of_ble_eq_true rfl)) d_M_told_13 ⟨Nat.zero_le _, Nat.zero_le _⟩) hS (fun q _ h => hFc q h) hFc (fun u9 t H1 locs ht hvm hw4 hB hz1 hk1 hS => ?_)
    obtain ⟨rc5, eg6, so7, wi8, ew9, lo10, en11, le12, pi13⟩ := u9
    obtain ⟨hP1, hD1⟩ := hB
    rw [ht] at hP1
    obtain ⟨hP, hD⟩ := va_join (wr := ([] : List Nat).filterMap (fun (i : Nat) => (md_ws cJ cI h3 k3 o3 w3 v3 p3 e3 f3 q3 (nI 0) (nI n) (nI r) (nI x) (bs_i q) rc eg li so wi ew lo en le pi)[i]?)) (w1 := md_ws cJ cI h3 k3 o3 w3 v3 p3 e3 f3 q3 (nI 0) (nI n) (nI r) (nI x) (nI 1) rc5 eg6 li so7 wi8 ew9 lo10 en11 le12 pi13) hP hD [0, 1, 2, 3, 4, 5, 6, 7, 8] [] rfl rfl (by decide) (by decide) hk1 hFc hP1 hD1
    generalize H1 = H at hP hS ⊢
    have hP : va_P (dC, dI) vwCl (md_ws cJ cI h3 k3 o3 w3 v3 p3 e3 f3 q3 (nI 0) (nI n) (nI r) (nI x) (nI 1) rc5 eg6 li so7 wi8 ew9 lo10 en11 le12 pi13) H := hP.sub (ws' := md_ws cJ cI h3 k3 o3 w3 v3 p3 e3 f3 q3 (nI 0) (nI n) (nI r) (nI x) (nI 1) rc5 eg6 li so7 wi8 ew9 lo10 en11 le12 pi13) [0, 1, 2, 3, 4, 5, 6, 7, 8] rfl
    have hD : va_D A (md_ws cJ cI h3 k3 o3 w3 v3 p3 e3 f3 q3 (nI 0) (nI n) (nI r) (nI x) (nI 1) rc5 eg6 li so7 wi8 ew9 lo10 en11 le12 pi13) := hD.sub (ws' := md_ws cJ cI h3 k3 o3 w3 v3 p3 e3 f3 q3 (nI 0) (nI n) (nI r) (nI x) (nI 1) rc5 eg6 li so7 wi8 ew9 lo10 en11 le12 pi13) [0, 1, 2, 3, 4, 5, 6, 7, 8] (by decide) rfl
    refine lv_iconst (v := nI 0) hx hb d_M_told_16 (by decide) ?_
    refine lv_istore_n (lv' := [(2, .int (nI 0)), (0, .ref h3), (1, .int what)]) hx hb d_M_told_17 rfl hl (by decide) rfl (fun ls hl => ?_)
    refine lv_iconst (v := nI 0) hx hb d_M_told_18 (by decide) ?_
    refine lv_istore_n (lv' := [(3, .int (nI 0)), (2, .int (nI 0)), (0, .ref h3), (1, .int what)]) hx hb d_M_told_19 rfl hl (by decide) rfl (fun ls hl => ?_)
    refine wl_loop (σ := Nat) (dC, dI) vwCl A 20 4 (fun (h : Nat) => [(0, .ref h3), (1, .int what), (2, .int (nI (sm_n (fun v => ct_n (bs_t (li v)) n) h))), (3, .int (nI h))]) (fun (h : Nat) => md_ws cJ cI h3 k3 o3 w3 v3 p3 e3 f3 q3 (nI 0) (nI n) (nI r) (nI x) (nI 1) rc5 eg6 li so7 wi8 ew9 lo10 en11 le12 pi13) (fun (h : Nat) => h ≤ n) (fun (h : Nat) => n - h) ?_ 0 (Nat.zero_le n) hP hD hS (lv_sub hl [2, 3, 1, 0] rfl)
    intro h hI ih H locs ls hP hD hS hl
    have hI : h ≤ n := hI
    have hP : va_P (dC, dI) vwCl (md_ws cJ cI h3 k3 o3 w3 v3 p3 e3 f3 q3 (nI 0) (nI n) (nI r) (nI x) (nI 1) rc5 eg6 li so7 wi8 ew9 lo10 en11 le12 pi13) H := hP
    have hD : va_D A (md_ws cJ cI h3 k3 o3 w3 v3 p3 e3 f3 q3 (nI 0) (nI n) (nI r) (nI x) (nI 1) rc5 eg6 li so7 wi8 ew9 lo10 en11 le12 pi13) := hD
    have hl : lv_has ls 4 [(0, .ref h3), (1, .int what), (2, .int (nI (sm_n (fun v => ct_n (bs_t (li v)) n) h))), (3, .int (nI h))] := hl
    refine lv_iload_n hx hb d_M_told_20 rfl (lv_at hl 3 rfl) ?_
    refine lv_aload_n hx hb d_M_told_21 rfl (lv_at hl 0 rfl) ?_
    refine va_get (D := (dC, dI)) (ci := 3) (v := .int (nI n)) (C := "FlowNestModel") (T := T_M) (N := 15) hx hb hts nm_iM hown hK hP 0 rfl rfl 1 (by decide) (hts _ (List.mem_cons_of_mem _ nm_415)) (fun _ h9 => h9) rfl d_M_told_22 ?_
    refine wl_ige (tgt := 47) hx hb (by omega) (by omega) d_M_told_25 (by decide) (fun hc25 => ?_) (fun hc25 => ?_)
    · refine lv_iload_n hx hb d_M_told_47 rfl (lv_at hl 1 rfl) ?_
      by_cases hy0 : what = nI 0
      · subst hy0
        refine lv_tableIn (off := 40) (tgt := 88) hx hb d_M_told_48 (by decide) (by decide) (by decide) (by decide) ?_
        refine lv_aload_n hx hb d_M_told_88 rfl (lv_at hl 0 rfl) ?_
        refine va_get (D := (dC, dI)) (ci := 3) (v := .int (nI n)) (C := "FlowNestModel") (T := T_M) (N := 15) hx hb hts nm_iM hown hK hP 0 rfl rfl 1 (by decide) (hts _ (List.mem_cons_of_mem _ nm_415)) (fun _ h9 => h9) rfl d_M_told_89 ?_
        exact W.iret (v := nI n) hx hb hr (fun t ht hW => ⟨⟨(nI n), (rc5, eg6, so7, wi8, ew9, lo10, en11, le12, pi13, true), rfl, ⟨fun _ => hw4, tl_0 rfl⟩, by rw [ht]; exact hP, hD⟩, hS.F ht⟩) hS.2.2 d_M_told_92
      by_cases hy1 : what = nI 1
      · subst hy1
        refine lv_tableIn (off := 45) (tgt := 93) hx hb d_M_told_48 (by decide) (by decide) (by decide) (by decide) ?_
        refine lv_iload_n hx hb d_M_told_93 rfl (lv_at hl 2 rfl) ?_
        exact W.iret (v := nI (sm_n (fun v => ct_n (bs_t (li v)) n) h)) hx hb hr (fun t ht hW => ⟨⟨(nI (sm_n (fun v => ct_n (bs_t (li v)) n) h)), (rc5, eg6, so7, wi8, ew9, lo10, en11, le12, pi13, true), rfl, ⟨fun _ => hw4, tl_1 (by rw [show h = n by omega, md_lc (by omega) hL])⟩, by rw [ht]; exact hP, hD⟩, hS.F ht⟩) hS.2.2 d_M_told_94
      by_cases hy2 : what = nI 2
      · subst hy2
        refine lv_tableIn (off := 47) (tgt := 95) hx hb d_M_told_48 (by decide) (by decide) (by decide) (by decide) ?_
        refine lv_aload_n hx hb d_M_told_95 rfl (lv_at hl 0 rfl) ?_
        refine va_get (D := (dC, dI)) (ci := 3) (v := .int (nI n)) (C := "FlowNestModel") (T := T_M) (N := 15) hx hb hts nm_iM hown hK hP 0 rfl rfl 1 (by decide) (hts _ (List.mem_cons_of_mem _ nm_415)) (fun _ h9 => h9) rfl d_M_told_96 ?_
        refine wl_ifnen (tgt := 106) hx hb (by omega) d_M_told_99 (by decide) (fun hc99 => ?_) (fun hc99 => ?_)
        · refine lv_aload_n hx hb d_M_told_106 rfl (lv_at hl 0 rfl) ?_
          refine lv_aload_n hx hb d_M_told_107 rfl (lv_at hl 0 rfl) ?_
          refine va_get (D := (dC, dI)) (ci := 3) (v := .long rc5) (C := "FlowNestModel") (T := T_M) (N := 15) hx hb hts nm_iM hown hK hP 0 rfl rfl 7 (by decide) (hts _ (List.mem_cons_of_mem _ nm_421)) (fun _ h9 => h9) rfl d_M_told_108 ?_
          refine vp_callSi (va_Run.run (va_runV (C := "FlowNestModel") (b := h3) (As := [.long rc5]) (rest := []) ⟨hx, hb, hml, hown, hts⟩ (c_M_sizeOf l dC dI cJ cI h3 k3 o3 w3 v3 p3 e3 f3 q3 (nI 0) (nI r) (nI x) (nI 1) rc5 eg6 li so7 wi8 ew9 lo10 en11 le12 pi13 n rc5 hn) (cwV 1 hts (nm_gV nm_568 nm_570 nm_s_M_sizeOf nm_4 nm_c_M_sizeOf) rfl rfl rfl (by decide +kernel) ⟨Nat.le_of_ble_eq_true rfl, Nat.le_of_ble_eq_true rfl⟩) ⟨cw_blind, va_recv hK hP (ci := 3) rfl (q0 := 0) rfl, cw_pre hP hK hNw⟩ rfl rfl hl.1 rfl (lv_room (Nat.le_of_ble_eq_true rfl)) d_M_told_111 ⟨Nat.zero_le _, Nat.zero_le _⟩)) (fun r14 hr15 => ?_)
          subst hr15
          exact W.iret (v := nI (ct_n (bs_t rc5) n)) hx hb hr (fun t ht hW => ⟨⟨(nI (ct_n (bs_t rc5) n)), (rc5, eg6, so7, wi8, ew9, lo10, en11, le12, pi13, true), rfl, ⟨fun _ => hw4, tl_2 (congrArg nI (ct_congr (fun i _ => md_rch hw4 false i)))⟩, by rw [ht]; exact hP, hD⟩, hS.F ht⟩) hS.2.2 d_M_told_114
        · exact absurd hc99 (by omega)
      by_cases hy3 : what = nI 3
      · subst hy3
        refine lv_tableIn (off := 67) (tgt := 115) hx hb d_M_told_48 (by decide) (by decide) (by decide) (by decide) ?_
        refine lv_aload_n hx hb d_M_told_115 rfl (lv_at hl 0 rfl) ?_
        refine va_get (D := (dC, dI)) (ci := 3) (v := .int (nI n)) (C := "FlowNestModel") (T := T_M) (N := 15) hx hb hts nm_iM hown hK hP 0 rfl rfl 1 (by decide) (hts _ (List.mem_cons_of_mem _ nm_415)) (fun _ h9 => h9) rfl d_M_told_116 ?_
        refine wl_ifnen (tgt := 126) hx hb (by omega) d_M_told_119 (by decide) (fun hc119 => ?_) (fun hc119 => ?_)
        · refine lv_aload_n hx hb d_M_told_126 rfl (lv_at hl 0 rfl) ?_
          refine lv_aload_n hx hb d_M_told_127 rfl (lv_at hl 0 rfl) ?_
          refine va_get (D := (dC, dI)) (ci := 3) (v := .long eg6) (C := "FlowNestModel") (T := T_M) (N := 15) hx hb hts nm_iM hown hK hP 0 rfl rfl 8 (by decide) (hts _ (List.mem_cons_of_mem _ nm_422)) (fun _ h9 => h9) rfl d_M_told_128 ?_
          refine vp_callSi (va_Run.run (va_runV (C := "FlowNestModel") (b := h3) (As := [.long eg6]) (rest := []) ⟨hx, hb, hml, hown, hts⟩ (c_M_sizeOf l dC dI cJ cI h3 k3 o3 w3 v3 p3 e3 f3 q3 (nI 0) (nI r) (nI x) (nI 1) rc5 eg6 li so7 wi8 ew9 lo10 en11 le12 pi13 n eg6 hn) (cwV 1 hts (nm_gV nm_568 nm_570 nm_s_M_sizeOf nm_4 nm_c_M_sizeOf) rfl rfl rfl (by decide +kernel) ⟨Nat.le_of_ble_eq_true rfl, Nat.le_of_ble_eq_true rfl⟩) ⟨cw_blind, va_recv hK hP (ci := 3) rfl (q0 := 0) rfl, cw_pre hP hK hNw⟩ rfl rfl hl.1 rfl (lv_room (Nat.le_of_ble_eq_true rfl)) d_M_told_131 ⟨Nat.zero_le _, Nat.zero_le _⟩)) (fun r16 hr17 => ?_)
          subst hr17
          exact W.iret (v := nI (ct_n (bs_t eg6) n)) hx hb hr (fun t ht hW => ⟨⟨(nI (ct_n (bs_t eg6) n)), (rc5, eg6, so7, wi8, ew9, lo10, en11, le12, pi13, true), rfl, ⟨fun _ => hw4, tl_3 (congrArg nI (ct_congr (fun i _ => md_rch hw4 true i)))⟩, by rw [ht]; exact hP, hD⟩, hS.F ht⟩) hS.2.2 d_M_told_134
        · exact absurd hc119 (by omega)
      by_cases hy4 : what = nI 4
      · subst hy4
        refine lv_tableIn (off := 87) (tgt := 135) hx hb d_M_told_48 (by decide) (by decide) (by decide) (by decide) ?_
        refine lv_aload_n hx hb d_M_told_135 rfl (lv_at hl 0 rfl) ?_
        refine va_get (D := (dC, dI)) (ci := 3) (v := .int (nI r)) (C := "FlowNestModel") (T := T_M) (N := 15) hx hb hts nm_iM hown hK hP 0 rfl rfl 2 (by decide) (hts _ (List.mem_cons_of_mem _ nm_416)) (fun _ h9 => h9) rfl d_M_told_136 ?_
        exact W.iret (v := nI r) hx hb hr (fun t ht hW => ⟨⟨(nI r), (rc5, eg6, so7, wi8, ew9, lo10, en11, le12, pi13, true), rfl, ⟨fun _ => hw4, tl_4 rfl⟩, by rw [ht]; exact hP, hD⟩, hS.F ht⟩) hS.2.2 d_M_told_139
      by_cases hy5 : what = nI 5
      · subst hy5
        refine lv_tableIn (off := 92) (tgt := 140) hx hb d_M_told_48 (by decide) (by decide) (by decide) (by decide) ?_
        refine lv_aload_n hx hb d_M_told_140 rfl (lv_at hl 0 rfl) ?_
        refine va_get (D := (dC, dI)) (ci := 3) (v := .int (nI x)) (C := "FlowNestModel") (T := T_M) (N := 15) hx hb hts nm_iM hown hK hP 0 rfl rfl 3 (by decide) (hts _ (List.mem_cons_of_mem _ nm_417)) (fun _ h9 => h9) rfl d_M_told_141 ?_
        exact W.iret (v := nI x) hx hb hr (fun t ht hW => ⟨⟨(nI x), (rc5, eg6, so7, wi8, ew9, lo10, en11, le12, pi13, true), rfl, ⟨fun _ => hw4, tl_5 rfl⟩, by rw [ht]; exact hP, hD⟩, hS.F ht⟩) hS.2.2 d_M_told_144
      refine lv_tableOut (tgt := 145) hx hb d_M_told_48 (tw_out hy0 hy1 hy2 hy3 hy4 hy5) (by decide) ?_
      refine lv_iconst (v := -1) hx hb d_M_told_145 (by decide) ?_
      exact W.iret (v := -1) hx hb hr (fun t ht hW => ⟨⟨(-1), (rc5, eg6, so7, wi8, ew9, lo10, en11, le12, pi13, true), rfl, ⟨fun _ => hw4, tl_d hy0 hy1 hy2 hy3 hy4 hy5 rfl⟩, by rw [ht]; exact hP, hD⟩, hS.F ht⟩) hS.2.2 d_M_told_146
    · refine lv_iload_n hx hb d_M_told_28 rfl (lv_at hl 2 rfl) ?_
      refine lv_aload_n hx hb d_M_told_29 rfl (lv_at hl 0 rfl) ?_
      refine lv_aload_n hx hb d_M_told_30 rfl (lv_at hl 0 rfl) ?_
      refine va_get (D := (dC, dI)) (ci := 3) (v := .ref k3) (C := "FlowNestModel") (T := T_M) (N := 15) hx hb hts nm_iM hown hK hP 0 rfl rfl 4 (by decide) (hts _ (List.mem_cons_of_mem _ nm_418)) (fun _ h9 => h9) rfl d_M_told_31 ?_
      refine lv_iload_n hx hb d_M_told_34 rfl (lv_at hl 3 rfl) ?_
      refine wl_lald (i := h) hx hb hK hP 1 0 rfl rfl (by omega) (by decide) d_M_told_35 ?_
      refine vp_callSi (va_Run.run (va_runV (C := "FlowNestModel") (b := h3) (As := [.long (li h)]) (rest := [.int (nI (sm_n (fun v => ct_n (bs_t (li v)) n) h))]) ⟨hx, hb, hml, hown, hts⟩ (c_M_sizeOf l dC dI cJ cI h3 k3 o3 w3 v3 p3 e3 f3 q3 (nI 0) (nI r) (nI x) (nI 1) rc5 eg6 li so7 wi8 ew9 lo10 en11 le12 pi13 n (li h) hn) (cwV 1 hts (nm_gV nm_568 nm_570 nm_s_M_sizeOf nm_4 nm_c_M_sizeOf) rfl rfl rfl (by decide +kernel) ⟨Nat.le_of_ble_eq_true rfl, Nat.le_of_ble_eq_true rfl⟩) ⟨cw_blind, va_recv hK hP (ci := 3) rfl (q0 := 0) rfl, cw_pre hP hK hNw⟩ rfl rfl hl.1 rfl (lv_room (Nat.le_of_ble_eq_true rfl)) d_M_told_36 ⟨Nat.zero_le _, Nat.zero_le _⟩)) (fun r18 hr19 => ?_)
      subst hr19
      refine W.eq (g2 := F0 m 39 ls [.int (nI ((fun v => ct_n (bs_t (li v)) n) h)), .int (nI (sm_n (fun v => ct_n (bs_t (li v)) n) h))]) rfl ?_
      refine wl_iaddn hx hb d_M_told_39 ?_
      refine lv_istore_n (lv' := [(2, .int (nI ((sm_n (fun v => ct_n (bs_t (li v)) n) h) + ((fun v => ct_n (bs_t (li v)) n) h)))), (0, .ref h3), (1, .int what), (3, .int (nI h))]) hx hb d_M_told_40 rfl hl (by decide) rfl (fun ls hl => ?_)
      refine lv_iinc (lv' := [(3, .int (nI (h + 1))), (2, .int (nI ((sm_n (fun v => ct_n (bs_t (li v)) n) h) + ((fun v => ct_n (bs_t (li v)) n) h)))), (0, .ref h3), (1, .int what)]) (k := 3) (v := nI (h + 1)) hx hb d_M_told_41 hl rfl (nI_1 h) (by decide) rfl (fun ls hl => ?_)
      refine lv_goto (tgt := 20) hx hb d_M_told_44 (by decide) ?_
      rw [sm_s (fun v => ct_n (bs_t (li v)) n) h] at hl
      exact ih (h + 1) (show h + 1 ≤ n by omega) (show n - (h + 1) < n - h by omega) _ _ _ hP hD hS (lv_sub hl [2, 3, 1, 0] rfl)
set_option maxHeartbeats 4000000 in
set_option maxRecDepth 100000 in
theorem c_M_begin (l : Launch) (dC : Nat → ClassId) (dI : Nat → Nat → Nat) (cJ cI : ClassId) (h3 k3 o3 w3 v3 p3 e3 f3 q3 hs : Nat) (cd : Int32) (ey : Int32) (ex : Int32) (rc : Int64) (eg : Int64) (li : Nat → Int64) (so : Nat → Int64) (wi : Nat → Int64) (ew : Nat → Int64) (lo : Nat → Int64) (en : Nat → Int32) (le : Nat → Int32) (pi : Nat → Int32) (n : Nat) (q : Bool) (v0 : Int32)  : Met l y_M_begin w_M_begin ({ frames := 0, cells := 0, slots := 0, locals := 0 }) (va_Pc [.ref h3, .int v0] (cw_M (dC, dI) cJ cI (md_ws cJ cI h3 k3 o3 w3 v3 p3 e3 f3 q3 cd (nI n) ey ex (bs_i q) rc eg li so wi ew lo en le pi) hs)) (va_Qi (fun (r9 : Int32) (u9 : Bool × Int32 × Int32 × Int32 × Bool × (Nat → Int64)) => match u9 with | (b, nn9, ey9, ex9, k9, li9) => (b = true ↔ ∃ m, 1 ≤ m ∧ m ≤ 48 ∧ v0 = nI m) ∧ (b = false → nn9 = nI n ∧ ey9 = ey ∧ ex9 = ex ∧ k9 = q ∧ li9 = li) ∧ (b = true → ∃ m, 1 ≤ m ∧ m ≤ 48 ∧ v0 = nI m ∧ nn9 = nI m ∧ ey9 = nI 0 ∧ ex9 = nI (m - 1) ∧ k9 = false ∧ (li9 = fun _ => 0) ∧ r9 = nI n)) (fun (u9 : Bool × Int32 × Int32 × Int32 × Bool × (Nat → Int64)) (t : State) => match u9 with | (b, nn9, ey9, ex9, k9, li9) => va_P (dC, dI) vwCl (md_ws cJ cI h3 k3 o3 w3 v3 p3 e3 f3 q3 (bs_i (!b)) nn9 ey9 ex9 (bs_i k9) rc eg li9 so wi ew lo en le pi) t.heap ∧ va_D (va_A (md_ws cJ cI h3 k3 o3 w3 v3 p3 e3 f3 q3 cd (nI n) ey ex (bs_i q) rc eg li so wi ew lo en le pi) hs) (md_ws cJ cI h3 k3 o3 w3 v3 p3 e3 f3 q3 (bs_i (!b)) nn9 ey9 ex9 (bs_i k9) rc eg li9 so wi ew lo en le pi)) (va_A (md_ws cJ cI h3 k3 o3 w3 v3 p3 e3 f3 q3 cd (nI n) ey ex (bs_i q) rc eg li so wi ew lo en le pi) hs)) 0 0 (va_A (md_ws cJ cI h3 k3 o3 w3 v3 p3 e3 f3 q3 cd (nI n) ey ex (bs_i q) rc eg li so wi ew lo en le pi) hs) := by
  refine Met.ofW (cc := b_M_begin) (maxL := 4) (ret := (some .int)) (by decide) rfl ?_
  intro p e s m args below meth c s₁ B hml hv9
  obtain ⟨rfl, hsz, ⟨hP, hK, hNw⟩, hD0⟩ := hv9
  have hx := B.exec
  have hb := B.bytes
  have hr := B.returns
  have hts := atoms_spec (ws := w_M_begin) B.pre
  have hown : s.vm.findClass "FlowNestModel" = some m.cls := findClass_of_methodNamed B.named
  have hlocks := B.notSynchronized
  subst hsz
  have hD := hD0.self (sz := s.heap.size)
  generalize hAe : va_A (md_ws cJ cI h3 k3 o3 w3 v3 p3 e3 f3 q3 cd (nI n) ey ex (bs_i q) rc eg li so wi ew lo en le pi) s.heap.size = A at hD ⊢
  have hA : ∀ q : Nat, s.heap.size ≤ q → A q := fun q h => by rw [← hAe]; exact Or.inr h
  have hS : va_S A s.heap s.heap [] := va_S.rf
  have hP : va_P (dC, dI) vwCl (md_ws cJ cI h3 k3 o3 w3 v3 p3 e3 f3 q3 cd (nI n) ey ex (bs_i q) rc eg li so wi ew lo en le pi) s.heap := hP
  have hl := lv_entry ([.ref h3, .int v0]) (n := 4) (Nat.le_of_ble_eq_true rfl)
  rw [lg_entry_eq]
  generalize (lg_sl ([.ref h3, .int v0]) ++ List.replicate (4 - (lg_sl ([.ref h3, .int v0])).length) Slot.unset).toArray = ls at hl ⊢
  have hl : lv_has ls 4 [(0, .ref h3), (1, .int v0)] := hl
  refine lv_aload_n hx hb d_M_begin_0 rfl (lv_at hl 0 rfl) ?_
  refine lv_iload_n hx hb d_M_begin_1 rfl (lv_at hl 1 rfl) ?_
  refine lv_iconst (v := nI 1) hx hb d_M_begin_2 (by decide) ?_
  refine lv_icmp_lt (tgt := 12) hx hb d_M_begin_3 (by decide) (fun hc3 => ?_) (fun hc3 => ?_)
  · refine lv_iconst (v := nI 1) hx hb d_M_begin_12 (by decide) ?_
    refine lv_goto (tgt := 17) hx hb d_M_begin_13 (by decide) ?_
    refine va_put (D := (dC, dI)) (ci := 3) (v := .int (nI 1)) (ty := .int) (C := "FlowNestModel") (T := T_M) (N := 15) hx hb hts nm_iM t_M t_M_ok nm_M hown hK hP hD hS 0 rfl rfl 0 (by decide) (hts _ (List.mem_cons_of_mem _ nm_414)) (fun _ h9 => h9) rfl (by decide +kernel) (by rfl) (by rfl) (Nat.le_of_ble_eq_true rfl) d_M_begin_17 (fun H locs hP hD hS => ?_)
    have hP : va_P (dC, dI) vwCl (md_ws cJ cI h3 k3 o3 w3 v3 p3 e3 f3 q3 (nI 1) (nI n) ey ex (bs_i q) rc eg li so wi ew lo en le pi) H := hP
    have hD : va_D A (md_ws cJ cI h3 k3 o3 w3 v3 p3 e3 f3 q3 (nI 1) (nI n) ey ex (bs_i q) rc eg li so wi ew lo en le pi) := hD
    refine lv_aload_n hx hb d_M_begin_20 rfl (lv_at hl 0 rfl) ?_
    refine va_get (D := (dC, dI)) (ci := 3) (v := .int (nI 1)) (C := "FlowNestModel") (T := T_M) (N := 15) hx hb hts nm_iM hown hK hP 0 rfl rfl 0 (by decide) (hts _ (List.mem_cons_of_mem _ nm_414)) (fun _ h9 => h9) rfl d_M_begin_21 ?_
    refine wl_iflen (tgt := 29) hx hb (by omega) d_M_begin_24 (by decide) (fun hc24 => ?_) (fun hc24 => ?_)
    · exact absurd hc24 (by decide)
    · refine lv_iconst (v := nI 0) hx hb d_M_begin_27 (by decide) ?_
      exact W.iret (v := nI 0) hx hb hr (fun t ht hW => ⟨⟨(nI 0), (false, nI n, ey, ex, q, li), rfl, ⟨⟨fun h => (by cases h), fun h => absurd h (bg_no1 hc3)⟩, fun _ => ⟨rfl, rfl, rfl, rfl, rfl⟩, fun h => by cases h⟩, by rw [ht]; exact hP, hD⟩, hS.F ht⟩) hS.2.2 d_M_begin_28
  · refine lv_iload_n hx hb d_M_begin_6 rfl (lv_at hl 1 rfl) ?_
    refine lv_bipush (v := nI 48) hx hb d_M_begin_7 (by decide) ?_
    refine lv_icmp_le (tgt := 16) hx hb d_M_begin_9 (by decide) (fun hc9 => ?_) (fun hc9 => ?_)
    · refine lv_iconst (v := nI 0) hx hb d_M_begin_16 (by decide) ?_
      refine va_put (D := (dC, dI)) (ci := 3) (v := .int (nI 0)) (ty := .int) (C := "FlowNestModel") (T := T_M) (N := 15) hx hb hts nm_iM t_M t_M_ok nm_M hown hK hP hD hS 0 rfl rfl 0 (by decide) (hts _ (List.mem_cons_of_mem _ nm_414)) (fun _ h9 => h9) rfl (by decide +kernel) (by rfl) (by rfl) (Nat.le_of_ble_eq_true rfl) d_M_begin_17 (fun H locs hP hD hS => ?_)
      have hP : va_P (dC, dI) vwCl (md_ws cJ cI h3 k3 o3 w3 v3 p3 e3 f3 q3 (nI 0) (nI n) ey ex (bs_i q) rc eg li so wi ew lo en le pi) H := hP
      have hD : va_D A (md_ws cJ cI h3 k3 o3 w3 v3 p3 e3 f3 q3 (nI 0) (nI n) ey ex (bs_i q) rc eg li so wi ew lo en le pi) := hD
      refine lv_aload_n hx hb d_M_begin_20 rfl (lv_at hl 0 rfl) ?_
      refine va_get (D := (dC, dI)) (ci := 3) (v := .int (nI 0)) (C := "FlowNestModel") (T := T_M) (N := 15) hx hb hts nm_iM hown hK hP 0 rfl rfl 0 (by decide) (hts _ (List.mem_cons_of_mem _ nm_414)) (fun _ h9 => h9) rfl d_M_begin_21 ?_
      refine wl_iflen (tgt := 29) hx hb (by omega) d_M_begin_24 (by decide) (fun hc24 => ?_) (fun hc24 => ?_)
      · obtain ⟨m0, hm1, hm2, rfl⟩ := bg_in hc3 hc9
        refine lv_aload_n hx hb d_M_begin_29 rfl (lv_at hl 0 rfl) ?_
        refine va_get (D := (dC, dI)) (ci := 3) (v := .int (nI n)) (C := "FlowNestModel") (T := T_M) (N := 15) hx hb hts nm_iM hown hK hP 0 rfl rfl 1 (by decide) (hts _ (List.mem_cons_of_mem _ nm_415)) (fun _ h9 => h9) rfl d_M_begin_30 ?_
        refine lv_istore_n (lv' := [(2, .int (nI n)), (0, .ref h3), (1, .int (nI m0))]) hx hb d_M_begin_33 rfl hl (by decide) rfl (fun ls hl => ?_)
        refine lv_aload_n hx hb d_M_begin_34 rfl (lv_at hl 1 rfl) ?_
        refine lv_iload_n hx hb d_M_begin_35 rfl (lv_at hl 2 rfl) ?_
        refine va_put (D := (dC, dI)) (ci := 3) (v := .int (nI m0)) (ty := .int) (C := "FlowNestModel") (T := T_M) (N := 15) hx hb hts nm_iM t_M t_M_ok nm_M hown hK hP hD hS 0 rfl rfl 1 (by decide) (hts _ (List.mem_cons_of_mem _ nm_415)) (fun _ h9 => h9) rfl (by decide +kernel) (by rfl) (by rfl) (Nat.le_of_ble_eq_true rfl) d_M_begin_36 (fun H locs hP hD hS => ?_)
        have hP : va_P (dC, dI) vwCl (md_ws cJ cI h3 k3 o3 w3 v3 p3 e3 f3 q3 (nI 0) (nI m0) ey ex (bs_i q) rc eg li so wi ew lo en le pi) H := hP
        have hD : va_D A (md_ws cJ cI h3 k3 o3 w3 v3 p3 e3 f3 q3 (nI 0) (nI m0) ey ex (bs_i q) rc eg li so wi ew lo en le pi) := hD
        refine lv_iconst (v := nI 0) hx hb d_M_begin_39 (by decide) ?_
        refine lv_istore_n (lv' := [(3, .int (nI 0)), (2, .int (nI n)), (0, .ref h3), (1, .int (nI m0))]) hx hb d_M_begin_40 rfl hl (by decide) rfl (fun ls hl => ?_)
        rw [show li = fi_c li 0 0 from fi_0 li 0] at hP hD
        refine wl_loop (σ := Nat) (dC, dI) vwCl A 41 4 (fun (i : Nat) => [(0, .ref h3), (1, .int (nI m0)), (2, .int (nI n)), (3, .int (nI i))]) (fun (i : Nat) => md_ws cJ cI h3 k3 o3 w3 v3 p3 e3 f3 q3 (nI 0) (nI m0) ey ex (bs_i q) rc eg (fi_c li 0 i) so wi ew lo en le pi) (fun (i : Nat) => i ≤ 48) (fun (i : Nat) => 48 - i) ?_ 0 (Nat.zero_le 48) hP hD hS (lv_sub hl [2, 3, 1, 0] rfl)
        intro i hI ih H locs ls hP hD hS hl
        have hI : i ≤ 48 := hI
        have hP : va_P (dC, dI) vwCl (md_ws cJ cI h3 k3 o3 w3 v3 p3 e3 f3 q3 (nI 0) (nI m0) ey ex (bs_i q) rc eg (fi_c li 0 i) so wi ew lo en le pi) H := hP
        have hD : va_D A (md_ws cJ cI h3 k3 o3 w3 v3 p3 e3 f3 q3 (nI 0) (nI m0) ey ex (bs_i q) rc eg (fi_c li 0 i) so wi ew lo en le pi) := hD
        have hl : lv_has ls 4 [(0, .ref h3), (1, .int (nI m0)), (2, .int (nI n)), (3, .int (nI i))] := hl
        refine lv_iload_n hx hb d_M_begin_41 rfl (lv_at hl 3 rfl) ?_
        refine lv_bipush (v := nI 48) hx hb d_M_begin_42 (by decide) ?_
        refine wl_ige (tgt := 60) hx hb (by omega) (by omega) d_M_begin_44 (by decide) (fun hc44 => ?_) (fun hc44 => ?_)
        · rw [show i = 48 by omega] at hP hD
          obtain ⟨hP, hD⟩ := wl_nJ (g := fun _ => 0) hP hD 1 rfl (fi_e li 0)
          have hP : va_P (dC, dI) vwCl (md_ws cJ cI h3 k3 o3 w3 v3 p3 e3 f3 q3 (nI 0) (nI m0) ey ex (bs_i q) rc eg (fun _ => 0) so wi ew lo en le pi) H := hP
          have hD : va_D A (md_ws cJ cI h3 k3 o3 w3 v3 p3 e3 f3 q3 (nI 0) (nI m0) ey ex (bs_i q) rc eg (fun _ => 0) so wi ew lo en le pi) := hD
          refine lv_aload_n hx hb d_M_begin_60 rfl (lv_at hl 0 rfl) ?_
          refine lv_iconst (v := nI 0) hx hb d_M_begin_61 (by decide) ?_
          refine va_put (D := (dC, dI)) (ci := 3) (v := .int (nI 0)) (ty := .int) (C := "FlowNestModel") (T := T_M) (N := 15) hx hb hts nm_iM t_M t_M_ok nm_M hown hK hP hD hS 0 rfl rfl 2 (by decide) (hts _ (List.mem_cons_of_mem _ nm_416)) (fun _ h9 => h9) rfl (by decide +kernel) (by rfl) (by rfl) (Nat.le_of_ble_eq_true rfl) d_M_begin_62 (fun H locs hP hD hS => ?_)
          have hP : va_P (dC, dI) vwCl (md_ws cJ cI h3 k3 o3 w3 v3 p3 e3 f3 q3 (nI 0) (nI m0) (nI 0) ex (bs_i q) rc eg (fun _ => 0) so wi ew lo en le pi) H := hP
          have hD : va_D A (md_ws cJ cI h3 k3 o3 w3 v3 p3 e3 f3 q3 (nI 0) (nI m0) (nI 0) ex (bs_i q) rc eg (fun _ => 0) so wi ew lo en le pi) := hD
          refine lv_aload_n hx hb d_M_begin_65 rfl (lv_at hl 0 rfl) ?_
          refine lv_aload_n hx hb d_M_begin_66 rfl (lv_at hl 0 rfl) ?_
          refine va_get (D := (dC, dI)) (ci := 3) (v := .int (nI m0)) (C := "FlowNestModel") (T := T_M) (N := 15) hx hb hts nm_iM hown hK hP 0 rfl rfl 1 (by decide) (hts _ (List.mem_cons_of_mem _ nm_415)) (fun _ h9 => h9) rfl d_M_begin_67 ?_
          refine lv_iconst (v := nI 1) hx hb d_M_begin_70 (by decide) ?_
          refine wl_isubn hx hb (by omega) d_M_begin_71 ?_
          refine va_put (D := (dC, dI)) (ci := 3) (v := .int (nI (m0 - 1))) (ty := .int) (C := "FlowNestModel") (T := T_M) (N := 15) hx hb hts nm_iM t_M t_M_ok nm_M hown hK hP hD hS 0 rfl rfl 3 (by decide) (hts _ (List.mem_cons_of_mem _ nm_417)) (fun _ h9 => h9) rfl (by decide +kernel) (by rfl) (by rfl) (Nat.le_of_ble_eq_true rfl) d_M_begin_72 (fun H locs hP hD hS => ?_)
          have hP : va_P (dC, dI) vwCl (md_ws cJ cI h3 k3 o3 w3 v3 p3 e3 f3 q3 (nI 0) (nI m0) (nI 0) (nI (m0 - 1)) (bs_i q) rc eg (fun _ => 0) so wi ew lo en le pi) H := hP
          have hD : va_D A (md_ws cJ cI h3 k3 o3 w3 v3 p3 e3 f3 q3 (nI 0) (nI m0) (nI 0) (nI (m0 - 1)) (bs_i q) rc eg (fun _ => 0) so wi ew lo en le pi) := hD
          refine lv_aload_n hx hb d_M_begin_75 rfl (lv_at hl 0 rfl) ?_
          refine lv_iconst (v := nI 0) hx hb d_M_begin_76 (by decide) ?_
          refine va_put (D := (dC, dI)) (ci := 3) (v := .int (nI 0)) (ty := .boolean) (C := "FlowNestModel") (T := T_M) (N := 15) hx hb hts nm_iM t_M t_M_ok nm_M hown hK hP hD hS 0 rfl rfl 6 (by decide) (hts _ (List.mem_cons_of_mem _ nm_420)) (fun _ h9 => h9) rfl (by decide +kernel) (by rfl) (by rfl) (Nat.le_of_ble_eq_true rfl) d_M_begin_77 (fun H locs hP hD hS => ?_)
          have hP : va_P (dC, dI) vwCl (md_ws cJ cI h3 k3 o3 w3 v3 p3 e3 f3 q3 (nI 0) (nI m0) (nI 0) (nI (m0 - 1)) (nI 0) rc eg (fun _ => 0) so wi ew lo en le pi) H := hP
          have hD : va_D A (md_ws cJ cI h3 k3 o3 w3 v3 p3 e3 f3 q3 (nI 0) (nI m0) (nI 0) (nI (m0 - 1)) (nI 0) rc eg (fun _ => 0) so wi ew lo en le pi) := hD
          refine lv_iload_n hx hb d_M_begin_80 rfl (lv_at hl 2 rfl) ?_
          exact W.iret (v := nI n) hx hb hr (fun t ht hW => ⟨⟨(nI n), (true, nI m0, nI 0, nI (m0 - 1), false, fun _ => 0), rfl, ⟨⟨fun _ => ⟨m0, hm1, hm2, rfl⟩, fun _ => rfl⟩, fun h => (by cases h), fun _ => ⟨m0, hm1, hm2, rfl, rfl, rfl, rfl, rfl, rfl, rfl⟩⟩, by rw [ht]; exact hP, hD⟩, hS.F ht⟩) hS.2.2 d_M_begin_81
        · refine lv_aload_n hx hb d_M_begin_47 rfl (lv_at hl 0 rfl) ?_
          refine va_get (D := (dC, dI)) (ci := 3) (v := .ref k3) (C := "FlowNestModel") (T := T_M) (N := 15) hx hb hts nm_iM hown hK hP 0 rfl rfl 4 (by decide) (hts _ (List.mem_cons_of_mem _ nm_418)) (fun _ h9 => h9) rfl d_M_begin_48 ?_
          refine lv_iload_n hx hb d_M_begin_51 rfl (lv_at hl 3 rfl) ?_
          refine lv_lconst (v := 0) hx hb d_M_begin_52 (by decide) ?_
          refine wl_last (i := i) hx hb hK hP hD hS 1 0 rfl rfl (by omega) (by decide) d_M_begin_53 (fun H locs hP hD hS => ?_)
          have hP : va_P (dC, dI) vwCl (md_ws cJ cI h3 k3 o3 w3 v3 p3 e3 f3 q3 (nI 0) (nI m0) ey ex (bs_i q) rc eg (vp_updL (fi_c li 0 i) i 0) so wi ew lo en le pi) H := hP
          have hD : va_D A (md_ws cJ cI h3 k3 o3 w3 v3 p3 e3 f3 q3 (nI 0) (nI m0) ey ex (bs_i q) rc eg (vp_updL (fi_c li 0 i) i 0) so wi ew lo en le pi) := hD
          refine lv_iinc (lv' := [(3, .int (nI (i + 1))), (0, .ref h3), (1, .int (nI m0)), (2, .int (nI n))]) (k := 3) (v := nI (i + 1)) hx hb d_M_begin_54 hl rfl (nI_1 i) (by decide) rfl (fun ls hl => ?_)
          refine lv_goto (tgt := 41) hx hb d_M_begin_57 (by decide) ?_
          rw [fi_sJ] at hP hD
          exact ih (i + 1) (show i + 1 ≤ 48 by omega) (show 48 - (i + 1) < 48 - i by omega) _ _ _ hP hD hS (lv_sub hl [1, 2, 3, 0] rfl)
      · exact absurd hc24 (by decide)
    · refine lv_iconst (v := nI 1) hx hb d_M_begin_12 (by decide) ?_
      refine lv_goto (tgt := 17) hx hb d_M_begin_13 (by decide) ?_
      refine va_put (D := (dC, dI)) (ci := 3) (v := .int (nI 1)) (ty := .int) (C := "FlowNestModel") (T := T_M) (N := 15) hx hb hts nm_iM t_M t_M_ok nm_M hown hK hP hD hS 0 rfl rfl 0 (by decide) (hts _ (List.mem_cons_of_mem _ nm_414)) (fun _ h9 => h9) rfl (by decide +kernel) (by rfl) (by rfl) (Nat.le_of_ble_eq_true rfl) d_M_begin_17 (fun H locs hP hD hS => ?_)
      have hP : va_P (dC, dI) vwCl (md_ws cJ cI h3 k3 o3 w3 v3 p3 e3 f3 q3 (nI 1) (nI n) ey ex (bs_i q) rc eg li so wi ew lo en le pi) H := hP
      have hD : va_D A (md_ws cJ cI h3 k3 o3 w3 v3 p3 e3 f3 q3 (nI 1) (nI n) ey ex (bs_i q) rc eg li so wi ew lo en le pi) := hD
      refine lv_aload_n hx hb d_M_begin_20 rfl (lv_at hl 0 rfl) ?_
      refine va_get (D := (dC, dI)) (ci := 3) (v := .int (nI 1)) (C := "FlowNestModel") (T := T_M) (N := 15) hx hb hts nm_iM hown hK hP 0 rfl rfl 0 (by decide) (hts _ (List.mem_cons_of_mem _ nm_414)) (fun _ h9 => h9) rfl d_M_begin_21 ?_
      refine wl_iflen (tgt := 29) hx hb (by omega) d_M_begin_24 (by decide) (fun hc24 => ?_) (fun hc24 => ?_)
      · exact absurd hc24 (by decide)
      · refine lv_iconst (v := nI 0) hx hb d_M_begin_27 (by decide) ?_
        exact W.iret (v := nI 0) hx hb hr (fun t ht hW => ⟨⟨(nI 0), (false, nI n, ey, ex, q, li), rfl, ⟨⟨fun h => (by cases h), fun h => absurd h (bg_no2 hc9)⟩, fun _ => ⟨rfl, rfl, rfl, rfl, rfl⟩, fun h => by cases h⟩, by rw [ht]; exact hP, hD⟩, hS.F ht⟩) hS.2.2 d_M_begin_28
set_option maxHeartbeats 4000000 in
set_option maxRecDepth 100000 in
theorem c_M_link (l : Launch) (dC : Nat → ClassId) (dI : Nat → Nat → Nat) (cJ cI : ClassId) (h3 k3 o3 w3 v3 p3 e3 f3 q3 hs : Nat) (cd : Int32) (ey : Int32) (ex : Int32) (rc : Int64) (eg : Int64) (li : Nat → Int64) (so : Nat → Int64) (wi : Nat → Int64) (ew : Nat → Int64) (lo : Nat → Int64) (en : Nat → Int32) (le : Nat → Int32) (pi : Nat → Int32) (n : Nat) (q : Bool) (u0 v0 : Int32) (hn : n ≤ 48) : Met l y_M_link w_M_link ({ frames := 1, cells := 0, slots := 0, locals := 22 }) (va_Pc [.ref h3, .int u0, .int v0] (cw_M (dC, dI) cJ cI (md_ws cJ cI h3 k3 o3 w3 v3 p3 e3 f3 q3 cd (nI n) ey ex (bs_i q) rc eg li so wi ew lo en le pi) hs)) (va_Qi (fun (r9 : Int32) (u9 : Bool × Bool × (Nat → Int64)) => match u9 with | (b, k9, li9) => (b = true ↔ (∃ k, k < n ∧ u0 = nI k) ∧ ∃ j, j < n ∧ v0 = nI j) ∧ (b = false → k9 = q ∧ li9 = li) ∧ (b = true → ∃ k j, k < n ∧ j < n ∧ u0 = nI k ∧ v0 = nI j ∧ k9 = false ∧ li9 = vp_updL li k (li k ^^^ bs_b j) ∧ r9 = bs_i (!bs_t (li k) j))) (fun (u9 : Bool × Bool × (Nat → Int64)) (t : State) => match u9 with | (b, k9, li9) => va_P (dC, dI) vwCl (md_ws cJ cI h3 k3 o3 w3 v3 p3 e3 f3 q3 (bs_i (!b)) (nI n) ey ex (bs_i k9) rc eg li9 so wi ew lo en le pi) t.heap ∧ va_D (va_A (md_ws cJ cI h3 k3 o3 w3 v3 p3 e3 f3 q3 cd (nI n) ey ex (bs_i q) rc eg li so wi ew lo en le pi) hs) (md_ws cJ cI h3 k3 o3 w3 v3 p3 e3 f3 q3 (bs_i (!b)) (nI n) ey ex (bs_i k9) rc eg li9 so wi ew lo en le pi)) (va_A (md_ws cJ cI h3 k3 o3 w3 v3 p3 e3 f3 q3 cd (nI n) ey ex (bs_i q) rc eg li so wi ew lo en le pi) hs)) 0 0 (va_A (md_ws cJ cI h3 k3 o3 w3 v3 p3 e3 f3 q3 cd (nI n) ey ex (bs_i q) rc eg li so wi ew lo en le pi) hs) := by
  refine Met.ofW (cc := b_M_link) (maxL := 4) (ret := (some .int)) (by decide) rfl ?_
  intro p e s m args below meth c s₁ B hml hv9
  obtain ⟨rfl, hsz, ⟨hP, hK, hNw⟩, hD0⟩ := hv9
  have hx := B.exec
  have hb := B.bytes
  have hr := B.returns
  have hts := atoms_spec (ws := w_M_link) B.pre
  have hown : s.vm.findClass "FlowNestModel" = some m.cls := findClass_of_methodNamed B.named
  have hlocks := B.notSynchronized
  subst hsz
  have hD := hD0.self (sz := s.heap.size)
  generalize hAe : va_A (md_ws cJ cI h3 k3 o3 w3 v3 p3 e3 f3 q3 cd (nI n) ey ex (bs_i q) rc eg li so wi ew lo en le pi) s.heap.size = A at hD ⊢
  have hA : ∀ q : Nat, s.heap.size ≤ q → A q := fun q h => by rw [← hAe]; exact Or.inr h
  have hS : va_S A s.heap s.heap [] := va_S.rf
  have hP : va_P (dC, dI) vwCl (md_ws cJ cI h3 k3 o3 w3 v3 p3 e3 f3 q3 cd (nI n) ey ex (bs_i q) rc eg li so wi ew lo en le pi) s.heap := hP
  have hl := lv_entry ([.ref h3, .int u0, .int v0]) (n := 4) (Nat.le_of_ble_eq_true rfl)
  rw [lg_entry_eq]
  generalize (lg_sl ([.ref h3, .int u0, .int v0]) ++ List.replicate (4 - (lg_sl ([.ref h3, .int u0, .int v0])).length) Slot.unset).toArray = ls at hl ⊢
  have hl : lv_has ls 4 [(0, .ref h3), (1, .int u0), (2, .int v0)] := hl
  refine lv_aload_n hx hb d_M_link_0 rfl (lv_at hl 0 rfl) ?_
  refine lv_aload_n hx hb d_M_link_1 rfl (lv_at hl 0 rfl) ?_
  refine lv_iload_n hx hb d_M_link_2 rfl (lv_at hl 1 rfl) ?_
  refine vp_callSi (va_Run.run (va_runV (C := "FlowNestModel") (b := h3) (As := [.int u0]) (rest := [.ref h3]) ⟨hx, hb, hml, hown, hts⟩ (c_M_isVertex l dC dI cJ cI h3 k3 o3 w3 v3 p3 e3 f3 q3 cd ey ex (bs_i q) rc eg li so wi ew lo en le pi n u0 hn) (cwV 1 hts (nm_gV nm_472 nm_474 nm_s_M_isVertex nm_4 nm_c_M_isVertex) rfl rfl rfl (by decide +kernel) ⟨Nat.le_of_ble_eq_true rfl, Nat.le_of_ble_eq_true rfl⟩) ⟨cw_blind, va_recv hK hP (ci := 3) rfl (q0 := 0) rfl, cw_pre hP hK hNw⟩ rfl rfl hl.1 rfl (lv_room (Nat.le_of_ble_eq_true rfl)) d_M_link_3 ⟨Nat.zero_le _, Nat.zero_le _⟩)) (fun r1 hr2 => ?_)
  obtain ⟨b3, rfl, hb4⟩ := vn_bool hr2
  refine wl_ifeqb (tgt := 21) hx hb d_M_link_6 (by decide) (fun hc6 => ?_) (fun hc6 => ?_)
  · refine lv_iconst (v := nI 1) hx hb d_M_link_21 (by decide) ?_
    refine va_put (D := (dC, dI)) (ci := 3) (v := .int (nI 1)) (ty := .int) (C := "FlowNestModel") (T := T_M) (N := 15) hx hb hts nm_iM t_M t_M_ok nm_M hown hK hP hD hS 0 rfl rfl 0 (by decide) (hts _ (List.mem_cons_of_mem _ nm_414)) (fun _ h9 => h9) rfl (by decide +kernel) (by rfl) (by rfl) (Nat.le_of_ble_eq_true rfl) d_M_link_22 (fun H locs hP hD hS => ?_)
    have hP : va_P (dC, dI) vwCl (md_ws cJ cI h3 k3 o3 w3 v3 p3 e3 f3 q3 (nI 1) (nI n) ey ex (bs_i q) rc eg li so wi ew lo en le pi) H := hP
    have hD : va_D A (md_ws cJ cI h3 k3 o3 w3 v3 p3 e3 f3 q3 (nI 1) (nI n) ey ex (bs_i q) rc eg li so wi ew lo en le pi) := hD
    refine lv_aload_n hx hb d_M_link_25 rfl (lv_at hl 0 rfl) ?_
    refine va_get (D := (dC, dI)) (ci := 3) (v := .int (nI 1)) (C := "FlowNestModel") (T := T_M) (N := 15) hx hb hts nm_iM hown hK hP 0 rfl rfl 0 (by decide) (hts _ (List.mem_cons_of_mem _ nm_414)) (fun _ h9 => h9) rfl d_M_link_26 ?_
    refine wl_iflen (tgt := 34) hx hb (by omega) d_M_link_29 (by decide) (fun hc29 => ?_) (fun hc29 => ?_)
    · exact absurd hc29 (by decide)
    · refine lv_iconst (v := nI 0) hx hb d_M_link_32 (by decide) ?_
      exact W.iret (v := nI 0) hx hb hr (fun t ht hW => ⟨⟨(nI 0), (false, q, li), rfl, ⟨⟨fun h => (by cases h), fun h => absurd (hb4.mpr h.1) (by rw [hc6]; decide)⟩, fun _ => ⟨rfl, rfl⟩, fun h => by cases h⟩, by rw [ht]; exact hP, hD⟩, hS.F ht⟩) hS.2.2 d_M_link_33
  · refine lv_aload_n hx hb d_M_link_9 rfl (lv_at hl 0 rfl) ?_
    refine lv_iload_n hx hb d_M_link_10 rfl (lv_at hl 2 rfl) ?_
    refine vp_callSi (va_Run.run (va_runV (C := "FlowNestModel") (b := h3) (As := [.int v0]) (rest := [.ref h3]) ⟨hx, hb, hml, hown, hts⟩ (c_M_isVertex l dC dI cJ cI h3 k3 o3 w3 v3 p3 e3 f3 q3 cd ey ex (bs_i q) rc eg li so wi ew lo en le pi n v0 hn) (cwV 1 hts (nm_gV nm_472 nm_474 nm_s_M_isVertex nm_4 nm_c_M_isVertex) rfl rfl rfl (by decide +kernel) ⟨Nat.le_of_ble_eq_true rfl, Nat.le_of_ble_eq_true rfl⟩) ⟨cw_blind, va_recv hK hP (ci := 3) rfl (q0 := 0) rfl, cw_pre hP hK hNw⟩ rfl rfl hl.1 rfl (lv_room (Nat.le_of_ble_eq_true rfl)) d_M_link_11 ⟨Nat.zero_le _, Nat.zero_le _⟩)) (fun r5 hr6 => ?_)
    obtain ⟨b7, rfl, hb8⟩ := vn_bool hr6
    refine wl_ifeqb (tgt := 21) hx hb d_M_link_14 (by decide) (fun hc14 => ?_) (fun hc14 => ?_)
    · refine lv_iconst (v := nI 1) hx hb d_M_link_21 (by decide) ?_
      refine va_put (D := (dC, dI)) (ci := 3) (v := .int (nI 1)) (ty := .int) (C := "FlowNestModel") (T := T_M) (N := 15) hx hb hts nm_iM t_M t_M_ok nm_M hown hK hP hD hS 0 rfl rfl 0 (by decide) (hts _ (List.mem_cons_of_mem _ nm_414)) (fun _ h9 => h9) rfl (by decide +kernel) (by rfl) (by rfl) (Nat.le_of_ble_eq_true rfl) d_M_link_22 (fun H locs hP hD hS => ?_)
      have hP : va_P (dC, dI) vwCl (md_ws cJ cI h3 k3 o3 w3 v3 p3 e3 f3 q3 (nI 1) (nI n) ey ex (bs_i q) rc eg li so wi ew lo en le pi) H := hP
      have hD : va_D A (md_ws cJ cI h3 k3 o3 w3 v3 p3 e3 f3 q3 (nI 1) (nI n) ey ex (bs_i q) rc eg li so wi ew lo en le pi) := hD
      refine lv_aload_n hx hb d_M_link_25 rfl (lv_at hl 0 rfl) ?_
      refine va_get (D := (dC, dI)) (ci := 3) (v := .int (nI 1)) (C := "FlowNestModel") (T := T_M) (N := 15) hx hb hts nm_iM hown hK hP 0 rfl rfl 0 (by decide) (hts _ (List.mem_cons_of_mem _ nm_414)) (fun _ h9 => h9) rfl d_M_link_26 ?_
      refine wl_iflen (tgt := 34) hx hb (by omega) d_M_link_29 (by decide) (fun hc29 => ?_) (fun hc29 => ?_)
      · exact absurd hc29 (by decide)
      · refine lv_iconst (v := nI 0) hx hb d_M_link_32 (by decide) ?_
        exact W.iret (v := nI 0) hx hb hr (fun t ht hW => ⟨⟨(nI 0), (false, q, li), rfl, ⟨⟨fun h => (by cases h), fun h => absurd (hb8.mpr h.2) (by rw [hc14]; decide)⟩, fun _ => ⟨rfl, rfl⟩, fun h => by cases h⟩, by rw [ht]; exact hP, hD⟩, hS.F ht⟩) hS.2.2 d_M_link_33
    · refine lv_iconst (v := nI 0) hx hb d_M_link_17 (by decide) ?_
      refine lv_goto (tgt := 22) hx hb d_M_link_18 (by decide) ?_
      refine va_put (D := (dC, dI)) (ci := 3) (v := .int (nI 0)) (ty := .int) (C := "FlowNestModel") (T := T_M) (N := 15) hx hb hts nm_iM t_M t_M_ok nm_M hown hK hP hD hS 0 rfl rfl 0 (by decide) (hts _ (List.mem_cons_of_mem _ nm_414)) (fun _ h9 => h9) rfl (by decide +kernel) (by rfl) (by rfl) (Nat.le_of_ble_eq_true rfl) d_M_link_22 (fun H locs hP hD hS => ?_)
      have hP : va_P (dC, dI) vwCl (md_ws cJ cI h3 k3 o3 w3 v3 p3 e3 f3 q3 (nI 0) (nI n) ey ex (bs_i q) rc eg li so wi ew lo en le pi) H := hP
      have hD : va_D A (md_ws cJ cI h3 k3 o3 w3 v3 p3 e3 f3 q3 (nI 0) (nI n) ey ex (bs_i q) rc eg li so wi ew lo en le pi) := hD
      refine lv_aload_n hx hb d_M_link_25 rfl (lv_at hl 0 rfl) ?_
      refine va_get (D := (dC, dI)) (ci := 3) (v := .int (nI 0)) (C := "FlowNestModel") (T := T_M) (N := 15) hx hb hts nm_iM hown hK hP 0 rfl rfl 0 (by decide) (hts _ (List.mem_cons_of_mem _ nm_414)) (fun _ h9 => h9) rfl d_M_link_26 ?_
      refine wl_iflen (tgt := 34) hx hb (by omega) d_M_link_29 (by decide) (fun hc29 => ?_) (fun hc29 => ?_)
      · obtain ⟨k, hk_k, rfl⟩ := hb4.mp hc6
        obtain ⟨j, hk_j, rfl⟩ := hb8.mp hc14
        refine lv_aload_n hx hb d_M_link_34 rfl (lv_at hl 0 rfl) ?_
        refine va_get (D := (dC, dI)) (ci := 3) (v := .ref k3) (C := "FlowNestModel") (T := T_M) (N := 15) hx hb hts nm_iM hown hK hP 0 rfl rfl 4 (by decide) (hts _ (List.mem_cons_of_mem _ nm_418)) (fun _ h9 => h9) rfl d_M_link_35 ?_
        refine lv_iload_n hx hb d_M_link_38 rfl (lv_at hl 1 rfl) ?_
        refine wl_lald (i := k) hx hb hK hP 1 0 rfl rfl (by omega) (by decide) d_M_link_39 ?_
        refine lv_iload_n hx hb d_M_link_40 rfl (lv_at hl 2 rfl) ?_
        refine vp_callSi (va_Run.run (va_runS (As := [.long (li k), .int (nI j)]) (rest := []) ⟨hx, hb, hml, hown, hts⟩ (c_M_has l (li k) j (by omega)) (va_cwS 2 hts (nm_gS nm_476 nm_477 nm_4 nm_c_M_has) rfl rfl rfl (by decide +kernel) ⟨Nat.le_of_ble_eq_true rfl, Nat.le_of_ble_eq_true rfl⟩) ⟨fun _ _ _ _ q => ⟨q.1, trivial⟩, fun U hU hW => ⟨rfl, trivial⟩⟩ rfl rfl hl.1 rfl (lv_room (Nat.le_of_ble_eq_true rfl)) d_M_link_41 ⟨Nat.zero_le _, Nat.zero_le _⟩)) (fun r hr => ?_)
        subst hr
        refine lv_istore_n (lv' := [(3, .int (bs_i (bs_t (li k) j))), (0, .ref h3), (1, .int (nI k)), (2, .int (nI j))]) hx hb d_M_link_44 rfl hl (by decide) rfl (fun ls hl => ?_)
        refine lv_aload_n hx hb d_M_link_45 rfl (lv_at hl 1 rfl) ?_
        refine va_get (D := (dC, dI)) (ci := 3) (v := .ref k3) (C := "FlowNestModel") (T := T_M) (N := 15) hx hb hts nm_iM hown hK hP 0 rfl rfl 4 (by decide) (hts _ (List.mem_cons_of_mem _ nm_418)) (fun _ h9 => h9) rfl d_M_link_46 ?_
        refine lv_iload_n hx hb d_M_link_49 rfl (lv_at hl 2 rfl) ?_
        refine lv_iload_n hx hb d_M_link_50 rfl (lv_at hl 0 rfl) ?_
        refine wl_ifeqb (tgt := 71) hx hb d_M_link_51 (by decide) (fun hc51 => ?_) (fun hc51 => ?_)
        · refine lv_aload_n hx hb d_M_link_71 rfl (lv_at hl 1 rfl) ?_
          refine va_get (D := (dC, dI)) (ci := 3) (v := .ref k3) (C := "FlowNestModel") (T := T_M) (N := 15) hx hb hts nm_iM hown hK hP 0 rfl rfl 4 (by decide) (hts _ (List.mem_cons_of_mem _ nm_418)) (fun _ h9 => h9) rfl d_M_link_72 ?_
          refine lv_iload_n hx hb d_M_link_75 rfl (lv_at hl 2 rfl) ?_
          refine wl_lald (i := k) hx hb hK hP 1 0 rfl rfl (by omega) (by decide) d_M_link_76 ?_
          refine lv_lconst (v := 1) hx hb d_M_link_77 (by decide) ?_
          refine lv_iload_n hx hb d_M_link_78 rfl (lv_at hl 3 rfl) ?_
          refine lv_lshl (v := bs_b j) hx hb d_M_link_79 rfl ?_
          refine lv_lor hx hb d_M_link_80 ?_
          refine wl_last (i := k) hx hb hK hP hD hS 1 0 rfl rfl (by omega) (by decide) d_M_link_81 (fun H locs hP hD hS => ?_)
          have hP : va_P (dC, dI) vwCl (md_ws cJ cI h3 k3 o3 w3 v3 p3 e3 f3 q3 (nI 0) (nI n) ey ex (bs_i q) rc eg (vp_updL li k ((li k) ||| (bs_b j))) so wi ew lo en le pi) H := hP
          have hD : va_D A (md_ws cJ cI h3 k3 o3 w3 v3 p3 e3 f3 q3 (nI 0) (nI n) ey ex (bs_i q) rc eg (vp_updL li k ((li k) ||| (bs_b j))) so wi ew lo en le pi) := hD
          refine lv_aload_n hx hb d_M_link_82 rfl (lv_at hl 1 rfl) ?_
          refine lv_iconst (v := nI 0) hx hb d_M_link_83 (by decide) ?_
          refine va_put (D := (dC, dI)) (ci := 3) (v := .int (nI 0)) (ty := .boolean) (C := "FlowNestModel") (T := T_M) (N := 15) hx hb hts nm_iM t_M t_M_ok nm_M hown hK hP hD hS 0 rfl rfl 6 (by decide) (hts _ (List.mem_cons_of_mem _ nm_420)) (fun _ h9 => h9) rfl (by decide +kernel) (by rfl) (by rfl) (Nat.le_of_ble_eq_true rfl) d_M_link_84 (fun H locs hP hD hS => ?_)
          have hP : va_P (dC, dI) vwCl (md_ws cJ cI h3 k3 o3 w3 v3 p3 e3 f3 q3 (nI 0) (nI n) ey ex (nI 0) rc eg (vp_updL li k ((li k) ||| (bs_b j))) so wi ew lo en le pi) H := hP
          have hD : va_D A (md_ws cJ cI h3 k3 o3 w3 v3 p3 e3 f3 q3 (nI 0) (nI n) ey ex (nI 0) rc eg (vp_updL li k ((li k) ||| (bs_b j))) so wi ew lo en le pi) := hD
          refine lv_iload_n hx hb d_M_link_87 rfl (lv_at hl 0 rfl) ?_
          refine wl_ifeqb (tgt := 95) hx hb d_M_link_88 (by decide) (fun hc88 => ?_) (fun hc88 => ?_)
          · refine lv_iconst (v := nI 1) hx hb d_M_link_95 (by decide) ?_
            rw [bs_on (by omega) hc51] at hP hD
            exact W.iret (v := nI 1) hx hb hr (fun t ht hW => ⟨⟨(nI 1), (true, false, vp_updL li k (li k ^^^ bs_b j)), rfl, ⟨⟨fun _ => ⟨⟨k, hk_k, rfl⟩, ⟨j, hk_j, rfl⟩⟩, fun _ => rfl⟩, fun h => (by cases h), fun _ => ⟨k, j, hk_k, hk_j, rfl, rfl, rfl, rfl, by rw [hc51]; rfl⟩⟩, by rw [ht]; exact hP, hD⟩, hS.F ht⟩) hS.2.2 d_M_link_96
          · exact absurd (hc51.symm.trans hc88) (by decide)
        · refine lv_aload_n hx hb d_M_link_54 rfl (lv_at hl 1 rfl) ?_
          refine va_get (D := (dC, dI)) (ci := 3) (v := .ref k3) (C := "FlowNestModel") (T := T_M) (N := 15) hx hb hts nm_iM hown hK hP 0 rfl rfl 4 (by decide) (hts _ (List.mem_cons_of_mem _ nm_418)) (fun _ h9 => h9) rfl d_M_link_55 ?_
          refine lv_iload_n hx hb d_M_link_58 rfl (lv_at hl 2 rfl) ?_
          refine wl_lald (i := k) hx hb hK hP 1 0 rfl rfl (by omega) (by decide) d_M_link_59 ?_
          refine lv_lconst (v := 1) hx hb d_M_link_60 (by decide) ?_
          refine lv_iload_n hx hb d_M_link_61 rfl (lv_at hl 3 rfl) ?_
          refine lv_lshl (v := bs_b j) hx hb d_M_link_62 rfl ?_
          refine lv_ldc2 (v := -1) hx hb hown (hts _ (List.mem_cons_of_mem _ nm_479)) d_M_link_63 ?_
          refine lv_lxor hx hb d_M_link_66 ?_
          refine lv_land hx hb d_M_link_67 ?_
          refine lv_goto (tgt := 81) hx hb d_M_link_68 (by decide) ?_
          refine wl_last (i := k) hx hb hK hP hD hS 1 0 rfl rfl (by omega) (by decide) d_M_link_81 (fun H locs hP hD hS => ?_)
          have hP : va_P (dC, dI) vwCl (md_ws cJ cI h3 k3 o3 w3 v3 p3 e3 f3 q3 (nI 0) (nI n) ey ex (bs_i q) rc eg (vp_updL li k ((li k) &&& ((bs_b j) ^^^ (-1)))) so wi ew lo en le pi) H := hP
          have hD : va_D A (md_ws cJ cI h3 k3 o3 w3 v3 p3 e3 f3 q3 (nI 0) (nI n) ey ex (bs_i q) rc eg (vp_updL li k ((li k) &&& ((bs_b j) ^^^ (-1)))) so wi ew lo en le pi) := hD
          refine lv_aload_n hx hb d_M_link_82 rfl (lv_at hl 1 rfl) ?_
          refine lv_iconst (v := nI 0) hx hb d_M_link_83 (by decide) ?_
          refine va_put (D := (dC, dI)) (ci := 3) (v := .int (nI 0)) (ty := .boolean) (C := "FlowNestModel") (T := T_M) (N := 15) hx hb hts nm_iM t_M t_M_ok nm_M hown hK hP hD hS 0 rfl rfl 6 (by decide) (hts _ (List.mem_cons_of_mem _ nm_420)) (fun _ h9 => h9) rfl (by decide +kernel) (by rfl) (by rfl) (Nat.le_of_ble_eq_true rfl) d_M_link_84 (fun H locs hP hD hS => ?_)
          have hP : va_P (dC, dI) vwCl (md_ws cJ cI h3 k3 o3 w3 v3 p3 e3 f3 q3 (nI 0) (nI n) ey ex (nI 0) rc eg (vp_updL li k ((li k) &&& ((bs_b j) ^^^ (-1)))) so wi ew lo en le pi) H := hP
          have hD : va_D A (md_ws cJ cI h3 k3 o3 w3 v3 p3 e3 f3 q3 (nI 0) (nI n) ey ex (nI 0) rc eg (vp_updL li k ((li k) &&& ((bs_b j) ^^^ (-1)))) so wi ew lo en le pi) := hD
          refine lv_iload_n hx hb d_M_link_87 rfl (lv_at hl 0 rfl) ?_
          refine wl_ifeqb (tgt := 95) hx hb d_M_link_88 (by decide) (fun hc88 => ?_) (fun hc88 => ?_)
          · exact absurd (hc51.symm.trans hc88) (by decide)
          · refine lv_iconst (v := nI 0) hx hb d_M_link_91 (by decide) ?_
            refine lv_goto (tgt := 96) hx hb d_M_link_92 (by decide) ?_
            rw [bs_off (by omega) hc51] at hP hD
            exact W.iret (v := nI 0) hx hb hr (fun t ht hW => ⟨⟨(nI 0), (true, false, vp_updL li k (li k ^^^ bs_b j)), rfl, ⟨⟨fun _ => ⟨⟨k, hk_k, rfl⟩, ⟨j, hk_j, rfl⟩⟩, fun _ => rfl⟩, fun h => (by cases h), fun _ => ⟨k, j, hk_k, hk_j, rfl, rfl, rfl, rfl, by rw [hc51]; rfl⟩⟩, by rw [ht]; exact hP, hD⟩, hS.F ht⟩) hS.2.2 d_M_link_96
      · exact absurd hc29 (by decide)
set_option maxHeartbeats 4000000 in
set_option maxRecDepth 100000 in
theorem c_M_place (l : Launch) (dC : Nat → ClassId) (dI : Nat → Nat → Nat) (cJ cI : ClassId) (h3 k3 o3 w3 v3 p3 e3 f3 q3 hs : Nat) (cd : Int32) (ey : Int32) (ex : Int32) (rc : Int64) (eg : Int64) (li : Nat → Int64) (so : Nat → Int64) (wi : Nat → Int64) (ew : Nat → Int64) (lo : Nat → Int64) (en : Nat → Int32) (le : Nat → Int32) (pi : Nat → Int32) (n : Nat) (q : Bool) (v0 : Int32) (e9 : Bool) (hn : n ≤ 48) : Met l y_M_place w_M_place ({ frames := 1, cells := 0, slots := 0, locals := 21 }) (va_Pc [.ref h3, .int v0, .int (bs_i e9)] (cw_M (dC, dI) cJ cI (md_ws cJ cI h3 k3 o3 w3 v3 p3 e3 f3 q3 cd (nI n) ey ex (bs_i q) rc eg li so wi ew lo en le pi) hs)) (va_Qi (fun (r9 : Int32) (u9 : Bool × Bool × Int32 × Int32) => match u9 with | (b, k9, ey9, ex9) => (b = true ↔ ∃ k, k < n ∧ v0 = nI k) ∧ (b = false → k9 = q ∧ ey9 = ey ∧ ex9 = ex) ∧ (b = true → ∃ k, k < n ∧ v0 = nI k ∧ k9 = false ∧ ey9 = (if e9 = true then ey else nI k) ∧ ex9 = (if e9 = true then nI k else ex) ∧ r9 = if e9 = true then ex else ey)) (fun (u9 : Bool × Bool × Int32 × Int32) (t : State) => match u9 with | (b, k9, ey9, ex9) => va_P (dC, dI) vwCl (md_ws cJ cI h3 k3 o3 w3 v3 p3 e3 f3 q3 (bs_i (!b)) (nI n) ey9 ex9 (bs_i k9) rc eg li so wi ew lo en le pi) t.heap ∧ va_D (va_A (md_ws cJ cI h3 k3 o3 w3 v3 p3 e3 f3 q3 cd (nI n) ey ex (bs_i q) rc eg li so wi ew lo en le pi) hs) (md_ws cJ cI h3 k3 o3 w3 v3 p3 e3 f3 q3 (bs_i (!b)) (nI n) ey9 ex9 (bs_i k9) rc eg li so wi ew lo en le pi)) (va_A (md_ws cJ cI h3 k3 o3 w3 v3 p3 e3 f3 q3 cd (nI n) ey ex (bs_i q) rc eg li so wi ew lo en le pi) hs)) 0 0 (va_A (md_ws cJ cI h3 k3 o3 w3 v3 p3 e3 f3 q3 cd (nI n) ey ex (bs_i q) rc eg li so wi ew lo en le pi) hs) := by
  refine Met.ofW (cc := b_M_place) (maxL := 4) (ret := (some .int)) (by decide) rfl ?_
  intro p e s m args below meth c s₁ B hml hv9
  obtain ⟨rfl, hsz, ⟨hP, hK, hNw⟩, hD0⟩ := hv9
  have hx := B.exec
  have hb := B.bytes
  have hr := B.returns
  have hts := atoms_spec (ws := w_M_place) B.pre
  have hown : s.vm.findClass "FlowNestModel" = some m.cls := findClass_of_methodNamed B.named
  have hlocks := B.notSynchronized
  subst hsz
  have hD := hD0.self (sz := s.heap.size)
  generalize hAe : va_A (md_ws cJ cI h3 k3 o3 w3 v3 p3 e3 f3 q3 cd (nI n) ey ex (bs_i q) rc eg li so wi ew lo en le pi) s.heap.size = A at hD ⊢
  have hA : ∀ q : Nat, s.heap.size ≤ q → A q := fun q h => by rw [← hAe]; exact Or.inr h
  have hS : va_S A s.heap s.heap [] := va_S.rf
  have hP : va_P (dC, dI) vwCl (md_ws cJ cI h3 k3 o3 w3 v3 p3 e3 f3 q3 cd (nI n) ey ex (bs_i q) rc eg li so wi ew lo en le pi) s.heap := hP
  have hl := lv_entry ([.ref h3, .int v0, .int (bs_i e9)]) (n := 4) (Nat.le_of_ble_eq_true rfl)
  rw [lg_entry_eq]
  generalize (lg_sl ([.ref h3, .int v0, .int (bs_i e9)]) ++ List.replicate (4 - (lg_sl ([.ref h3, .int v0, .int (bs_i e9)])).length) Slot.unset).toArray = ls at hl ⊢
  have hl : lv_has ls 4 [(0, .ref h3), (1, .int v0), (2, .int (bs_i e9))] := hl
  refine lv_aload_n hx hb d_M_place_0 rfl (lv_at hl 0 rfl) ?_
  refine lv_aload_n hx hb d_M_place_1 rfl (lv_at hl 0 rfl) ?_
  refine lv_iload_n hx hb d_M_place_2 rfl (lv_at hl 1 rfl) ?_
  refine vp_callSi (va_Run.run (va_runV (C := "FlowNestModel") (b := h3) (As := [.int v0]) (rest := [.ref h3]) ⟨hx, hb, hml, hown, hts⟩ (c_M_isVertex l dC dI cJ cI h3 k3 o3 w3 v3 p3 e3 f3 q3 cd ey ex (bs_i q) rc eg li so wi ew lo en le pi n v0 hn) (cwV 1 hts (nm_gV nm_472 nm_474 nm_s_M_isVertex nm_4 nm_c_M_isVertex) rfl rfl rfl (by decide +kernel) ⟨Nat.le_of_ble_eq_true rfl, Nat.le_of_ble_eq_true rfl⟩) ⟨cw_blind, va_recv hK hP (ci := 3) rfl (q0 := 0) rfl, cw_pre hP hK hNw⟩ rfl rfl hl.1 rfl (lv_room (Nat.le_of_ble_eq_true rfl)) d_M_place_3 ⟨Nat.zero_le _, Nat.zero_le _⟩)) (fun r1 hr2 => ?_)
  obtain ⟨b3, rfl, hb4⟩ := vn_bool hr2
  refine wl_ifeqb (tgt := 13) hx hb d_M_place_6 (by decide) (fun hc6 => ?_) (fun hc6 => ?_)
  · refine lv_iconst (v := nI 1) hx hb d_M_place_13 (by decide) ?_
    refine va_put (D := (dC, dI)) (ci := 3) (v := .int (nI 1)) (ty := .int) (C := "FlowNestModel") (T := T_M) (N := 15) hx hb hts nm_iM t_M t_M_ok nm_M hown hK hP hD hS 0 rfl rfl 0 (by decide) (hts _ (List.mem_cons_of_mem _ nm_414)) (fun _ h9 => h9) rfl (by decide +kernel) (by rfl) (by rfl) (Nat.le_of_ble_eq_true rfl) d_M_place_14 (fun H locs hP hD hS => ?_)
    have hP : va_P (dC, dI) vwCl (md_ws cJ cI h3 k3 o3 w3 v3 p3 e3 f3 q3 (nI 1) (nI n) ey ex (bs_i q) rc eg li so wi ew lo en le pi) H := hP
    have hD : va_D A (md_ws cJ cI h3 k3 o3 w3 v3 p3 e3 f3 q3 (nI 1) (nI n) ey ex (bs_i q) rc eg li so wi ew lo en le pi) := hD
    refine lv_aload_n hx hb d_M_place_17 rfl (lv_at hl 0 rfl) ?_
    refine va_get (D := (dC, dI)) (ci := 3) (v := .int (nI 1)) (C := "FlowNestModel") (T := T_M) (N := 15) hx hb hts nm_iM hown hK hP 0 rfl rfl 0 (by decide) (hts _ (List.mem_cons_of_mem _ nm_414)) (fun _ h9 => h9) rfl d_M_place_18 ?_
    refine wl_iflen (tgt := 26) hx hb (by omega) d_M_place_21 (by decide) (fun hc21 => ?_) (fun hc21 => ?_)
    · exact absurd hc21 (by decide)
    · refine lv_iconst (v := nI 0) hx hb d_M_place_24 (by decide) ?_
      exact W.iret (v := nI 0) hx hb hr (fun t ht hW => ⟨⟨(nI 0), (false, q, ey, ex), rfl, ⟨⟨fun h => (by cases h), fun h => absurd (hb4.mpr h) (by rw [hc6]; decide)⟩, fun _ => ⟨rfl, rfl, rfl⟩, fun h => by cases h⟩, by rw [ht]; exact hP, hD⟩, hS.F ht⟩) hS.2.2 d_M_place_25
  · refine lv_iconst (v := nI 0) hx hb d_M_place_9 (by decide) ?_
    refine lv_goto (tgt := 14) hx hb d_M_place_10 (by decide) ?_
    refine va_put (D := (dC, dI)) (ci := 3) (v := .int (nI 0)) (ty := .int) (C := "FlowNestModel") (T := T_M) (N := 15) hx hb hts nm_iM t_M t_M_ok nm_M hown hK hP hD hS 0 rfl rfl 0 (by decide) (hts _ (List.mem_cons_of_mem _ nm_414)) (fun _ h9 => h9) rfl (by decide +kernel) (by rfl) (by rfl) (Nat.le_of_ble_eq_true rfl) d_M_place_14 (fun H locs hP hD hS => ?_)
    have hP : va_P (dC, dI) vwCl (md_ws cJ cI h3 k3 o3 w3 v3 p3 e3 f3 q3 (nI 0) (nI n) ey ex (bs_i q) rc eg li so wi ew lo en le pi) H := hP
    have hD : va_D A (md_ws cJ cI h3 k3 o3 w3 v3 p3 e3 f3 q3 (nI 0) (nI n) ey ex (bs_i q) rc eg li so wi ew lo en le pi) := hD
    refine lv_aload_n hx hb d_M_place_17 rfl (lv_at hl 0 rfl) ?_
    refine va_get (D := (dC, dI)) (ci := 3) (v := .int (nI 0)) (C := "FlowNestModel") (T := T_M) (N := 15) hx hb hts nm_iM hown hK hP 0 rfl rfl 0 (by decide) (hts _ (List.mem_cons_of_mem _ nm_414)) (fun _ h9 => h9) rfl d_M_place_18 ?_
    refine wl_iflen (tgt := 26) hx hb (by omega) d_M_place_21 (by decide) (fun hc21 => ?_) (fun hc21 => ?_)
    · obtain ⟨k, hk_k, rfl⟩ := hb4.mp hc6
      refine lv_iload_n hx hb d_M_place_26 rfl (lv_at hl 2 rfl) ?_
      refine wl_ifeqb (tgt := 37) hx hb d_M_place_27 (by decide) (fun hc27 => ?_) (fun hc27 => ?_)
      · refine lv_aload_n hx hb d_M_place_37 rfl (lv_at hl 0 rfl) ?_
        refine va_get (D := (dC, dI)) (ci := 3) (v := .int ey) (C := "FlowNestModel") (T := T_M) (N := 15) hx hb hts nm_iM hown hK hP 0 rfl rfl 2 (by decide) (hts _ (List.mem_cons_of_mem _ nm_416)) (fun _ h9 => h9) rfl d_M_place_38 ?_
        refine lv_istore_n (lv' := [(3, .int ey), (0, .ref h3), (1, .int (nI k)), (2, .int (bs_i e9))]) hx hb d_M_place_41 rfl hl (by decide) rfl (fun ls hl => ?_)
        refine lv_aload_n hx hb d_M_place_42 rfl (lv_at hl 1 rfl) ?_
        refine lv_iload_n hx hb d_M_place_43 rfl (lv_at hl 3 rfl) ?_
        refine wl_ifeqb (tgt := 51) hx hb d_M_place_44 (by decide) (fun hc44 => ?_) (fun hc44 => ?_)
        · refine lv_aload_n hx hb d_M_place_51 rfl (lv_at hl 1 rfl) ?_
          refine va_get (D := (dC, dI)) (ci := 3) (v := .int ex) (C := "FlowNestModel") (T := T_M) (N := 15) hx hb hts nm_iM hown hK hP 0 rfl rfl 3 (by decide) (hts _ (List.mem_cons_of_mem _ nm_417)) (fun _ h9 => h9) rfl d_M_place_52 ?_
          refine va_put (D := (dC, dI)) (ci := 3) (v := .int ex) (ty := .int) (C := "FlowNestModel") (T := T_M) (N := 15) hx hb hts nm_iM t_M t_M_ok nm_M hown hK hP hD hS 0 rfl rfl 3 (by decide) (hts _ (List.mem_cons_of_mem _ nm_417)) (fun _ h9 => h9) rfl (by decide +kernel) (by rfl) (by rfl) (Nat.le_of_ble_eq_true rfl) d_M_place_55 (fun H locs hP hD hS => ?_)
          have hP : va_P (dC, dI) vwCl (md_ws cJ cI h3 k3 o3 w3 v3 p3 e3 f3 q3 (nI 0) (nI n) ey ex (bs_i q) rc eg li so wi ew lo en le pi) H := hP
          have hD : va_D A (md_ws cJ cI h3 k3 o3 w3 v3 p3 e3 f3 q3 (nI 0) (nI n) ey ex (bs_i q) rc eg li so wi ew lo en le pi) := hD
          refine lv_aload_n hx hb d_M_place_58 rfl (lv_at hl 1 rfl) ?_
          refine lv_iload_n hx hb d_M_place_59 rfl (lv_at hl 3 rfl) ?_
          refine wl_ifeqb (tgt := 70) hx hb d_M_place_60 (by decide) (fun hc60 => ?_) (fun hc60 => ?_)
          · refine lv_iload_n hx hb d_M_place_70 rfl (lv_at hl 2 rfl) ?_
            refine va_put (D := (dC, dI)) (ci := 3) (v := .int (nI k)) (ty := .int) (C := "FlowNestModel") (T := T_M) (N := 15) hx hb hts nm_iM t_M t_M_ok nm_M hown hK hP hD hS 0 rfl rfl 2 (by decide) (hts _ (List.mem_cons_of_mem _ nm_416)) (fun _ h9 => h9) rfl (by decide +kernel) (by rfl) (by rfl) (Nat.le_of_ble_eq_true rfl) d_M_place_71 (fun H locs hP hD hS => ?_)
            have hP : va_P (dC, dI) vwCl (md_ws cJ cI h3 k3 o3 w3 v3 p3 e3 f3 q3 (nI 0) (nI n) (nI k) ex (bs_i q) rc eg li so wi ew lo en le pi) H := hP
            have hD : va_D A (md_ws cJ cI h3 k3 o3 w3 v3 p3 e3 f3 q3 (nI 0) (nI n) (nI k) ex (bs_i q) rc eg li so wi ew lo en le pi) := hD
            refine lv_aload_n hx hb d_M_place_74 rfl (lv_at hl 1 rfl) ?_
            refine lv_iconst (v := nI 0) hx hb d_M_place_75 (by decide) ?_
            refine va_put (D := (dC, dI)) (ci := 3) (v := .int (nI 0)) (ty := .boolean) (C := "FlowNestModel") (T := T_M) (N := 15) hx hb hts nm_iM t_M t_M_ok nm_M hown hK hP hD hS 0 rfl rfl 6 (by decide) (hts _ (List.mem_cons_of_mem _ nm_420)) (fun _ h9 => h9) rfl (by decide +kernel) (by rfl) (by rfl) (Nat.le_of_ble_eq_true rfl) d_M_place_76 (fun H locs hP hD hS => ?_)
            have hP : va_P (dC, dI) vwCl (md_ws cJ cI h3 k3 o3 w3 v3 p3 e3 f3 q3 (nI 0) (nI n) (nI k) ex (nI 0) rc eg li so wi ew lo en le pi) H := hP
            have hD : va_D A (md_ws cJ cI h3 k3 o3 w3 v3 p3 e3 f3 q3 (nI 0) (nI n) (nI k) ex (nI 0) rc eg li so wi ew lo en le pi) := hD
            refine lv_iload_n hx hb d_M_place_79 rfl (lv_at hl 0 rfl) ?_
            exact W.iret (v := ey) hx hb hr (fun t ht hW => ⟨⟨ey, (true, false, nI k, ex), rfl, ⟨⟨fun _ => ⟨k, hk_k, rfl⟩, fun _ => rfl⟩, fun h => (by cases h), fun _ => ⟨k, hk_k, rfl, rfl, by rw [hc27]; rfl, by rw [hc27]; rfl, by rw [hc27]; rfl⟩⟩, by rw [ht]; exact hP, hD⟩, hS.F ht⟩) hS.2.2 d_M_place_80
          · exact absurd (hc27.symm.trans hc60) (by decide)
        · exact absurd (hc27.symm.trans hc44) (by decide)
      · refine lv_aload_n hx hb d_M_place_30 rfl (lv_at hl 0 rfl) ?_
        refine va_get (D := (dC, dI)) (ci := 3) (v := .int ex) (C := "FlowNestModel") (T := T_M) (N := 15) hx hb hts nm_iM hown hK hP 0 rfl rfl 3 (by decide) (hts _ (List.mem_cons_of_mem _ nm_417)) (fun _ h9 => h9) rfl d_M_place_31 ?_
        refine lv_goto (tgt := 41) hx hb d_M_place_34 (by decide) ?_
        refine lv_istore_n (lv' := [(3, .int ex), (0, .ref h3), (1, .int (nI k)), (2, .int (bs_i e9))]) hx hb d_M_place_41 rfl hl (by decide) rfl (fun ls hl => ?_)
        refine lv_aload_n hx hb d_M_place_42 rfl (lv_at hl 1 rfl) ?_
        refine lv_iload_n hx hb d_M_place_43 rfl (lv_at hl 3 rfl) ?_
        refine wl_ifeqb (tgt := 51) hx hb d_M_place_44 (by decide) (fun hc44 => ?_) (fun hc44 => ?_)
        · exact absurd (hc27.symm.trans hc44) (by decide)
        · refine lv_iload_n hx hb d_M_place_47 rfl (lv_at hl 2 rfl) ?_
          refine lv_goto (tgt := 55) hx hb d_M_place_48 (by decide) ?_
          refine va_put (D := (dC, dI)) (ci := 3) (v := .int (nI k)) (ty := .int) (C := "FlowNestModel") (T := T_M) (N := 15) hx hb hts nm_iM t_M t_M_ok nm_M hown hK hP hD hS 0 rfl rfl 3 (by decide) (hts _ (List.mem_cons_of_mem _ nm_417)) (fun _ h9 => h9) rfl (by decide +kernel) (by rfl) (by rfl) (Nat.le_of_ble_eq_true rfl) d_M_place_55 (fun H locs hP hD hS => ?_)
          have hP : va_P (dC, dI) vwCl (md_ws cJ cI h3 k3 o3 w3 v3 p3 e3 f3 q3 (nI 0) (nI n) ey (nI k) (bs_i q) rc eg li so wi ew lo en le pi) H := hP
          have hD : va_D A (md_ws cJ cI h3 k3 o3 w3 v3 p3 e3 f3 q3 (nI 0) (nI n) ey (nI k) (bs_i q) rc eg li so wi ew lo en le pi) := hD
          refine lv_aload_n hx hb d_M_place_58 rfl (lv_at hl 1 rfl) ?_
          refine lv_iload_n hx hb d_M_place_59 rfl (lv_at hl 3 rfl) ?_
          refine wl_ifeqb (tgt := 70) hx hb d_M_place_60 (by decide) (fun hc60 => ?_) (fun hc60 => ?_)
          · exact absurd (hc27.symm.trans hc60) (by decide)
          · refine lv_aload_n hx hb d_M_place_63 rfl (lv_at hl 1 rfl) ?_
            refine va_get (D := (dC, dI)) (ci := 3) (v := .int ey) (C := "FlowNestModel") (T := T_M) (N := 15) hx hb hts nm_iM hown hK hP 0 rfl rfl 2 (by decide) (hts _ (List.mem_cons_of_mem _ nm_416)) (fun _ h9 => h9) rfl d_M_place_64 ?_
            refine lv_goto (tgt := 71) hx hb d_M_place_67 (by decide) ?_
            refine va_put (D := (dC, dI)) (ci := 3) (v := .int ey) (ty := .int) (C := "FlowNestModel") (T := T_M) (N := 15) hx hb hts nm_iM t_M t_M_ok nm_M hown hK hP hD hS 0 rfl rfl 2 (by decide) (hts _ (List.mem_cons_of_mem _ nm_416)) (fun _ h9 => h9) rfl (by decide +kernel) (by rfl) (by rfl) (Nat.le_of_ble_eq_true rfl) d_M_place_71 (fun H locs hP hD hS => ?_)
            have hP : va_P (dC, dI) vwCl (md_ws cJ cI h3 k3 o3 w3 v3 p3 e3 f3 q3 (nI 0) (nI n) ey (nI k) (bs_i q) rc eg li so wi ew lo en le pi) H := hP
            have hD : va_D A (md_ws cJ cI h3 k3 o3 w3 v3 p3 e3 f3 q3 (nI 0) (nI n) ey (nI k) (bs_i q) rc eg li so wi ew lo en le pi) := hD
            refine lv_aload_n hx hb d_M_place_74 rfl (lv_at hl 1 rfl) ?_
            refine lv_iconst (v := nI 0) hx hb d_M_place_75 (by decide) ?_
            refine va_put (D := (dC, dI)) (ci := 3) (v := .int (nI 0)) (ty := .boolean) (C := "FlowNestModel") (T := T_M) (N := 15) hx hb hts nm_iM t_M t_M_ok nm_M hown hK hP hD hS 0 rfl rfl 6 (by decide) (hts _ (List.mem_cons_of_mem _ nm_420)) (fun _ h9 => h9) rfl (by decide +kernel) (by rfl) (by rfl) (Nat.le_of_ble_eq_true rfl) d_M_place_76 (fun H locs hP hD hS => ?_)
            have hP : va_P (dC, dI) vwCl (md_ws cJ cI h3 k3 o3 w3 v3 p3 e3 f3 q3 (nI 0) (nI n) ey (nI k) (nI 0) rc eg li so wi ew lo en le pi) H := hP
            have hD : va_D A (md_ws cJ cI h3 k3 o3 w3 v3 p3 e3 f3 q3 (nI 0) (nI n) ey (nI k) (nI 0) rc eg li so wi ew lo en le pi) := hD
            refine lv_iload_n hx hb d_M_place_79 rfl (lv_at hl 0 rfl) ?_
            exact W.iret (v := ex) hx hb hr (fun t ht hW => ⟨⟨ex, (true, false, ey, nI k), rfl, ⟨⟨fun _ => ⟨k, hk_k, rfl⟩, fun _ => rfl⟩, fun h => (by cases h), fun _ => ⟨k, hk_k, rfl, rfl, by rw [hc27]; rfl, by rw [hc27]; rfl, by rw [hc27]; rfl⟩⟩, by rw [ht]; exact hP, hD⟩, hS.F ht⟩) hS.2.2 d_M_place_80
    · exact absurd hc21 (by decide)
