/-! the law's cases (laid by wip/gen/law.py) -/
set_option maxHeartbeats 4000000 in
set_option maxRecDepth 100000 in
theorem law_8 {p : Program} {l : Launch} {e : Env} {s : State} {m : MethodId} {below : List Frame} {meth : Method} {c : Code} {b Ln : Nat} {xs : Nat → Int32} {A : Nat → Prop} {Q : State → Prop} {dC : Nat → ClassId} {dI : Nat → Nat → Nat} {cJ cI : ClassId} {h0 h1 n1 a1 e1 l1 b1 t1 h2 n2 a2 e2 l2 b2 t2 h4 c4 h3 k3 o3 w3 v3 p3 e3 f3 q3 g5 sa sb : Nat} (C9 : lw_C p l s m c b Ln xs A dC dI cJ cI sa sb) {cells slots i : Nat} (hi : i + 4 ≤ Ln) (hc9 : cells + 2 ≤ 1053) (hs9 : slots + 12 ≤ 9256) (back : ∀ (H : Heap) (locs : List Loc) (ls : Array Slot), lw_J A dC dI cJ cI h0 h1 n1 a1 e1 l1 b1 t1 h2 n2 a2 e2 l2 b2 t2 h4 c4 h3 k3 o3 w3 v3 p3 e3 f3 q3 g5 H → va_S A s.heap H locs → lv_has ls 8 [(0, .ref b), (1, .ref h0), (2, .ref h3), (3, .ref g5), (4, .int (nI i))] → W p l e room_1 s m #[Value.ref b] below meth c H locs (cells + 2) (slots + 12) Q (F0 m 1239 ls [])) {H : Heap} {locs : List Loc} {ls : Array Slot} (hJ : lw_J A dC dI cJ cI h0 h1 n1 a1 e1 l1 b1 t1 h2 n2 a2 e2 l2 b2 t2 h4 c4 h3 k3 o3 w3 v3 p3 e3 f3 q3 g5 H) (hS : va_S A s.heap H locs) (hl : lv_has ls 8 [(0, .ref b), (1, .ref h0), (2, .ref h3), (3, .ref g5), (4, .int (nI i))]) : W p l e room_1 s m #[Value.ref b] below meth c H locs cells slots Q (F0 m 721 ls []) := by
  obtain ⟨hx, hb, hml, hown, hts, hNw, hK, hX0, hA1, hl9, hscr, hbl, hLn⟩ := C9
  have hA : ∀ q : Nat, s.heap.size ≤ q → A q := fun q h => (hA1 q).mpr h
  have hbA : ¬ A b := fun z => absurd ((hA1 b).mp z) (by omega)
  obtain ⟨n, r, x, L, fc, M, q1, q2, q4, ab, en, lf, bl, tr, mt, ab2, en2, lf2, bl2, tr2, mt2, bo, cd, ey, ex, q, rc, eg, so, wi, ew, lo, men, le, pi, ou, hn, hL, hI1, hI2, hI4, hfc, hM, hz, hz0, hq, hP, hD⟩ := hJ
  subst hfc
  subst hM
  have hP : va_P (dC, dI) vwCl (la_ws cJ cI h0 h1 n1 a1 e1 l1 b1 t1 h2 n2 a2 e2 l2 b2 t2 h4 c4 h3 k3 o3 w3 v3 p3 e3 f3 q3 g5 (nI n) (nI (sp_lc n L)) L ab en lf bl tr (nI n) (nI r) mt (bs_i q1) (gf_T n L) ab2 en2 lf2 bl2 tr2 (nI n) (nI x) mt2 (bs_i q2) bo (bs_i q4) cd (nI n) ey ex (bs_i q) rc eg L so wi ew lo men le pi ou) H := hP
  have hD : va_D A (la_ws cJ cI h0 h1 n1 a1 e1 l1 b1 t1 h2 n2 a2 e2 l2 b2 t2 h4 c4 h3 k3 o3 w3 v3 p3 e3 f3 q3 g5 (nI n) (nI (sp_lc n L)) L ab en lf bl tr (nI n) (nI r) mt (bs_i q1) (gf_T n L) ab2 en2 lf2 bl2 tr2 (nI n) (nI x) mt2 (bs_i q2) bo (bs_i q4) cd (nI n) ey ex (bs_i q) rc eg L so wi ew lo men le pi ou) := hD
  refine lv_aload_n hx hb d_L_law_721 rfl (lv_at hl 1 rfl) ?_
  refine lv_aload_n hx hb d_L_law_722 rfl (lv_at hl 0 rfl) ?_
  refine lv_iload hx hb d_L_law_723 (lv_at hl 4 rfl) ?_
  refine lv_iconst (v := nI 1) hx hb d_L_law_725 (by decide) ?_
  refine wl_iaddn hx hb d_L_law_726 ?_
  refine wl_sld hx hb hscr hbl hbA hS (i := (i + 1)) (by omega) hLn d_L_law_727 ?_
  refine lv_i2l (v := (xs (i + 1)).toInt64) hx hb d_L_law_728 rfl ?_
  refine lv_bipush (v := nI 32) hx hb d_L_law_729 (by decide) ?_
  refine lv_lshl (v := ((xs (i + 1)).toInt64) <<< ((nI 32).toInt64 &&& 63)) hx hb d_L_law_731 rfl ?_
  refine lv_aload_n hx hb d_L_law_732 rfl (lv_at hl 0 rfl) ?_
  refine lv_iload hx hb d_L_law_733 (lv_at hl 4 rfl) ?_
  refine lv_iconst (v := nI 2) hx hb d_L_law_735 (by decide) ?_
  refine wl_iaddn hx hb d_L_law_736 ?_
  refine wl_sld hx hb hscr hbl hbA hS (i := (i + 2)) (by omega) hLn d_L_law_737 ?_
  refine lv_i2l (v := (xs (i + 2)).toInt64) hx hb d_L_law_738 rfl ?_
  refine lv_ldc2 (v := 4294967295) hx hb hown (hts _ (List.mem_cons_of_mem _ nm_584)) d_L_law_739 ?_
  refine lv_land hx hb d_L_law_742 ?_
  refine lv_lor hx hb d_L_law_743 ?_
  obtain ⟨hPc, hDc, hFc⟩ := la_F hP hD hS hA
  refine va_calll (va_runV (C := "FlowNest") (b := h0) (As := [.long ((((xs (i + 1)).toInt64) <<< ((nI 32).toInt64 &&& 63)) ||| (((xs (i + 2)).toInt64) &&& 4294967295))]) (rest := []) ⟨hx, hb, hml, hown, hts⟩ (c_F_spread l dC dI cJ cI h0 h1 n1 a1 e1 l1 b1 t1 h2 n2 a2 e2 l2 b2 t2 h4 c4 H.size ab en lf bl tr mt ab2 en2 lf2 bl2 tr2 mt2 bo n r x L q1 q2 q4 ((((xs (i + 1)).toInt64) <<< ((nI 32).toInt64 &&& 63)) ||| (((xs (i + 2)).toInt64) &&& 4294967295)) hn hL hI1 hI2 hI4) (cwV 1 hts (nm_gV nm_99 nm_100 nm_101 nm_1 nm_c_F_spread) rfl rfl rfl (by decide +kernel) ⟨Nat.le_of_ble_eq_true rfl, Nat.le_of_ble_eq_true rfl⟩) ⟨cw_blindM, va_recv hK hPc (ci := 2) rfl (q0 := 0) rfl, cw_preM hPc hDc hK hNw⟩ rfl rfl hl.1 rfl (lv_room (Nat.le_of_ble_eq_true rfl)) d_L_law_744 ⟨rm_c (by omega), rm_s (by omega)⟩) hS (fun q _ h => hFc q h) hFc (fun r1 u9 t H1 locs ht hvm hw2 hB hz1 hk1 hS => ?_)
  obtain ⟨p93, ab94, en95, lf96, bl97, tr98, mt99, s910, yb911, yn912, yf913, yl914, yr915, ym916, w917, bo918⟩ := u9
  obtain ⟨hP1, hD1⟩ := hB
  rw [ht] at hP1
  obtain ⟨hP, hD⟩ := la_jF hP hD hk1 hFc hP1 hD1
  clear hPc hDc hFc hP1 hD1 hk1 hz1 ht
  generalize H1 = H at hP hS ⊢
  obtain ⟨hJ1, hJ2, hJ4, hfa⟩ := hw2
  refine lv_aload_n hx hb d_L_law_747 rfl (lv_at hl 2 rfl) ?_
  refine lv_aload_n hx hb d_L_law_748 rfl (lv_at hl 0 rfl) ?_
  refine lv_iload hx hb d_L_law_749 (lv_at hl 4 rfl) ?_
  refine lv_iconst (v := nI 1) hx hb d_L_law_751 (by decide) ?_
  refine wl_iaddn hx hb d_L_law_752 ?_
  refine wl_sld hx hb hscr hbl hbA hS (i := (i + 1)) (by omega) hLn d_L_law_753 ?_
  refine lv_i2l (v := (xs (i + 1)).toInt64) hx hb d_L_law_754 rfl ?_
  refine lv_bipush (v := nI 32) hx hb d_L_law_755 (by decide) ?_
  refine lv_lshl (v := ((xs (i + 1)).toInt64) <<< ((nI 32).toInt64 &&& 63)) hx hb d_L_law_757 rfl ?_
  refine lv_aload_n hx hb d_L_law_758 rfl (lv_at hl 0 rfl) ?_
  refine lv_iload hx hb d_L_law_759 (lv_at hl 4 rfl) ?_
  refine lv_iconst (v := nI 2) hx hb d_L_law_761 (by decide) ?_
  refine wl_iaddn hx hb d_L_law_762 ?_
  refine wl_sld hx hb hscr hbl hbA hS (i := (i + 2)) (by omega) hLn d_L_law_763 ?_
  refine lv_i2l (v := (xs (i + 2)).toInt64) hx hb d_L_law_764 rfl ?_
  refine lv_ldc2 (v := 4294967295) hx hb hown (hts _ (List.mem_cons_of_mem _ nm_584)) d_L_law_765 ?_
  refine lv_land hx hb d_L_law_768 ?_
  refine lv_lor hx hb d_L_law_769 ?_
  obtain ⟨hPc, hDc, hFc⟩ := la_M hP hD hS hA
  refine va_calll (va_runV (C := "FlowNestModel") (b := h3) (As := [.long ((((xs (i + 1)).toInt64) <<< ((nI 32).toInt64 &&& 63)) ||| (((xs (i + 2)).toInt64) &&& 4294967295))]) (rest := [.long r1]) ⟨hx, hb, hml, hown, hts⟩ (c_M_spread l dC dI cJ cI h3 k3 o3 w3 v3 p3 e3 f3 q3 H.size cd ey ex rc eg L so wi ew lo men le pi n r x q ((((xs (i + 1)).toInt64) <<< ((nI 32).toInt64 &&& 63)) ||| (((xs (i + 2)).toInt64) &&& 4294967295)) hn hz hL hq) (cwV 1 hts (nm_gV nm_540 nm_541 nm_542 nm_4 nm_c_M_spread) rfl rfl rfl (by decide +kernel) ⟨Nat.le_of_ble_eq_true rfl, Nat.le_of_ble_eq_true rfl⟩) ⟨cw_blindM, va_recv hK hPc (ci := 3) rfl (q0 := 0) rfl, cw_preM hPc hDc hK hNw⟩ rfl rfl hl.1 rfl (lv_room (Nat.le_of_ble_eq_true rfl)) d_L_law_770 ⟨rm_c (by omega), rm_s (by omega)⟩) hS (fun q _ h => hFc q h) hFc (fun r19 u9 t H1 locs ht hvm hw20 hB hz1 hk1 hS => ?_)
  obtain ⟨zrc21, zeg22, zso23, zwi24, zew25, zlo26, zen27, zle28, zpi29, zk30⟩ := u9
  obtain ⟨hP1, hD1⟩ := hB
  rw [ht] at hP1
  obtain ⟨hP, hD⟩ := la_jM hP hD hk1 hFc hP1 hD1
  clear hPc hDc hFc hP1 hD1 hk1 hz1 ht
  generalize H1 = H at hP hS ⊢
  obtain ⟨hq2, hma⟩ := hw20
  refine wl_lcmpeq (tgt := 1239) hx hb d_L_law_773 d_L_law_774 (by decide) (fun hc773 => ?_) (fun hc773 => ?_)
  · refine W.widen (k := cells + 2) (n := slots + 12) (by omega) (by omega) ?_
    exact back _ _ _ ⟨n, r, x, L, nI (sp_lc n L), gf_T n L, p93, s910, w917, ab94, en95, lf96, bl97, tr98, mt99, yb911, yn912, yf913, yl914, yr915, ym916, bo918, nI 0, ey, ex, zk30, zrc21, zeg22, zso23, zwi24, zew25, zlo26, zen27, zle28, zpi29, ou, hn, hL, hJ1, hJ2, hJ4, rfl, rfl, hz, hz0, hq2, hP, hD⟩ hS (lv_sub hl [0, 1, 2, 3, 4] rfl)
  · exact absurd (n0_u hfa hma) hc773
set_option maxHeartbeats 4000000 in
set_option maxRecDepth 100000 in
theorem law_12 {p : Program} {l : Launch} {e : Env} {s : State} {m : MethodId} {below : List Frame} {meth : Method} {c : Code} {b Ln : Nat} {xs : Nat → Int32} {A : Nat → Prop} {Q : State → Prop} {dC : Nat → ClassId} {dI : Nat → Nat → Nat} {cJ cI : ClassId} {h0 h1 n1 a1 e1 l1 b1 t1 h2 n2 a2 e2 l2 b2 t2 h4 c4 h3 k3 o3 w3 v3 p3 e3 f3 q3 g5 sa sb : Nat} (C9 : lw_C p l s m c b Ln xs A dC dI cJ cI sa sb) {cells slots i : Nat} (hi : i + 4 ≤ Ln) (hc9 : cells + 2 ≤ 1053) (hs9 : slots + 12 ≤ 9256) (back : ∀ (H : Heap) (locs : List Loc) (ls : Array Slot), lw_J A dC dI cJ cI h0 h1 n1 a1 e1 l1 b1 t1 h2 n2 a2 e2 l2 b2 t2 h4 c4 h3 k3 o3 w3 v3 p3 e3 f3 q3 g5 H → va_S A s.heap H locs → lv_has ls 8 [(0, .ref b), (1, .ref h0), (2, .ref h3), (3, .ref g5), (4, .int (nI i))] → W p l e room_1 s m #[Value.ref b] below meth c H locs (cells + 2) (slots + 12) Q (F0 m 1239 ls [])) {H : Heap} {locs : List Loc} {ls : Array Slot} (hJ : lw_J A dC dI cJ cI h0 h1 n1 a1 e1 l1 b1 t1 h2 n2 a2 e2 l2 b2 t2 h4 c4 h3 k3 o3 w3 v3 p3 e3 f3 q3 g5 H) (hS : va_S A s.heap H locs) (hl : lv_has ls 8 [(0, .ref b), (1, .ref h0), (2, .ref h3), (3, .ref g5), (4, .int (nI i))]) : W p l e room_1 s m #[Value.ref b] below meth c H locs cells slots Q (F0 m 964 ls []) := by
  obtain ⟨hx, hb, hml, hown, hts, hNw, hK, hX0, hA1, hl9, hscr, hbl, hLn⟩ := C9
  have hA : ∀ q : Nat, s.heap.size ≤ q → A q := fun q h => (hA1 q).mpr h
  have hbA : ¬ A b := fun z => absurd ((hA1 b).mp z) (by omega)
  obtain ⟨n, r, x, L, fc, M, q1, q2, q4, ab, en, lf, bl, tr, mt, ab2, en2, lf2, bl2, tr2, mt2, bo, cd, ey, ex, q, rc, eg, so, wi, ew, lo, men, le, pi, ou, hn, hL, hI1, hI2, hI4, hfc, hM, hz, hz0, hq, hP, hD⟩ := hJ
  subst hfc
  subst hM
  have hP : va_P (dC, dI) vwCl (la_ws cJ cI h0 h1 n1 a1 e1 l1 b1 t1 h2 n2 a2 e2 l2 b2 t2 h4 c4 h3 k3 o3 w3 v3 p3 e3 f3 q3 g5 (nI n) (nI (sp_lc n L)) L ab en lf bl tr (nI n) (nI r) mt (bs_i q1) (gf_T n L) ab2 en2 lf2 bl2 tr2 (nI n) (nI x) mt2 (bs_i q2) bo (bs_i q4) cd (nI n) ey ex (bs_i q) rc eg L so wi ew lo men le pi ou) H := hP
  have hD : va_D A (la_ws cJ cI h0 h1 n1 a1 e1 l1 b1 t1 h2 n2 a2 e2 l2 b2 t2 h4 c4 h3 k3 o3 w3 v3 p3 e3 f3 q3 g5 (nI n) (nI (sp_lc n L)) L ab en lf bl tr (nI n) (nI r) mt (bs_i q1) (gf_T n L) ab2 en2 lf2 bl2 tr2 (nI n) (nI x) mt2 (bs_i q2) bo (bs_i q4) cd (nI n) ey ex (bs_i q) rc eg L so wi ew lo men le pi ou) := hD
  refine lv_aload_n hx hb d_L_law_964 rfl (lv_at hl 1 rfl) ?_
  obtain ⟨hPc, hDc, hFc⟩ := la_F hP hD hS hA
  refine va_calli (va_runV (C := "FlowNest") (b := h0) (As := []) (rest := []) ⟨hx, hb, hml, hown, hts⟩ (c_F_loops l dC dI cJ cI h0 h1 n1 a1 e1 l1 b1 t1 h2 n2 a2 e2 l2 b2 t2 h4 c4 H.size ab en lf bl tr mt ab2 en2 lf2 bl2 tr2 mt2 bo n r x L q1 q2 q4  hn hL hI1 hI2 hI4) (cwV 0 hts (nm_gV nm_153 nm_154 nm_155 nm_1 nm_c_F_loops) rfl rfl rfl (by decide +kernel) ⟨Nat.le_of_ble_eq_true rfl, Nat.le_of_ble_eq_true rfl⟩) ⟨cw_blindM, va_recv hK hPc (ci := 2) rfl (q0 := 0) rfl, cw_preM hPc hDc hK hNw⟩ rfl rfl hl.1 rfl (lv_room (Nat.le_of_ble_eq_true rfl)) d_L_law_965 ⟨rm_c (by omega), rm_s (by omega)⟩) hS (fun q _ h => hFc q h) hFc (fun r1 u9 t H1 locs ht hvm hw2 hB hz1 hk1 hS => ?_)
  obtain ⟨p93, ab94, en95, lf96, bl97, tr98, mt99, s910, yb911, yn912, yf913, yl914, yr915, ym916, w917, bo918⟩ := u9
  obtain ⟨hP1, hD1⟩ := hB
  rw [ht] at hP1
  obtain ⟨hP, hD⟩ := la_jF hP hD hk1 hFc hP1 hD1
  clear hPc hDc hFc hP1 hD1 hk1 hz1 ht
  generalize H1 = H at hP hS ⊢
  obtain ⟨hJ1, hJ2, hJ4, hfa⟩ := hw2
  refine lv_aload_n hx hb d_L_law_968 rfl (lv_at hl 2 rfl) ?_
  obtain ⟨hPc, hDc, hFc⟩ := la_M hP hD hS hA
  refine va_calli (va_runV (C := "FlowNestModel") (b := h3) (As := []) (rest := [.int r1]) ⟨hx, hb, hml, hown, hts⟩ (c_M_loops l dC dI cJ cI h3 k3 o3 w3 v3 p3 e3 f3 q3 H.size cd ey ex rc eg L so wi ew lo men le pi n r x q  hn hz hL hq) (cwV 0 hts (nm_gV nm_556 nm_557 nm_558 nm_4 nm_c_M_loops) rfl rfl rfl (by decide +kernel) ⟨Nat.le_of_ble_eq_true rfl, Nat.le_of_ble_eq_true rfl⟩) ⟨cw_blindM, va_recv hK hPc (ci := 3) rfl (q0 := 0) rfl, cw_preM hPc hDc hK hNw⟩ rfl rfl hl.1 rfl (lv_room (Nat.le_of_ble_eq_true rfl)) d_L_law_969 ⟨rm_c (by omega), rm_s (by omega)⟩) hS (fun q _ h => hFc q h) hFc (fun r19 u9 t H1 locs ht hvm hw20 hB hz1 hk1 hS => ?_)
  obtain ⟨zrc21, zeg22, zso23, zwi24, zew25, zlo26, zen27, zle28, zpi29, zk30⟩ := u9
  obtain ⟨hP1, hD1⟩ := hB
  rw [ht] at hP1
  obtain ⟨hP, hD⟩ := la_jM hP hD hk1 hFc hP1 hD1
  clear hPc hDc hFc hP1 hD1 hk1 hz1 ht
  generalize H1 = H at hP hS ⊢
  obtain ⟨hq2, hma⟩ := hw20
  refine lv_icmp_eq (tgt := 1239) hx hb d_L_law_972 (by decide) (fun hc972 => ?_) (fun hc972 => ?_)
  · refine W.widen (k := cells + 2) (n := slots + 12) (by omega) (by omega) ?_
    exact back _ _ _ ⟨n, r, x, L, nI (sp_lc n L), gf_T n L, p93, s910, w917, ab94, en95, lf96, bl97, tr98, mt99, yb911, yn912, yf913, yl914, yr915, ym916, bo918, nI 0, ey, ex, zk30, zrc21, zeg22, zso23, zwi24, zew25, zlo26, zen27, zle28, zpi29, ou, hn, hL, hJ1, hJ2, hJ4, rfl, rfl, hz, hz0, hq2, hP, hD⟩ hS (lv_sub hl [0, 1, 2, 3, 4] rfl)
  · exact absurd (hfa.trans hma.symm) hc972
set_option maxHeartbeats 4000000 in
set_option maxRecDepth 100000 in
theorem law_15 {p : Program} {l : Launch} {e : Env} {s : State} {m : MethodId} {below : List Frame} {meth : Method} {c : Code} {b Ln : Nat} {xs : Nat → Int32} {A : Nat → Prop} {Q : State → Prop} {dC : Nat → ClassId} {dI : Nat → Nat → Nat} {cJ cI : ClassId} {h0 h1 n1 a1 e1 l1 b1 t1 h2 n2 a2 e2 l2 b2 t2 h4 c4 h3 k3 o3 w3 v3 p3 e3 f3 q3 g5 sa sb : Nat} (C9 : lw_C p l s m c b Ln xs A dC dI cJ cI sa sb) {cells slots i : Nat} (hi : i + 4 ≤ Ln) (hc9 : cells + 2 ≤ 1053) (hs9 : slots + 12 ≤ 9256) (back : ∀ (H : Heap) (locs : List Loc) (ls : Array Slot), lw_J A dC dI cJ cI h0 h1 n1 a1 e1 l1 b1 t1 h2 n2 a2 e2 l2 b2 t2 h4 c4 h3 k3 o3 w3 v3 p3 e3 f3 q3 g5 H → va_S A s.heap H locs → lv_has ls 8 [(0, .ref b), (1, .ref h0), (2, .ref h3), (3, .ref g5), (4, .int (nI i))] → W p l e room_1 s m #[Value.ref b] below meth c H locs (cells + 2) (slots + 12) Q (F0 m 1239 ls [])) {H : Heap} {locs : List Loc} {ls : Array Slot} (hJ : lw_J A dC dI cJ cI h0 h1 n1 a1 e1 l1 b1 t1 h2 n2 a2 e2 l2 b2 t2 h4 c4 h3 k3 o3 w3 v3 p3 e3 f3 q3 g5 H) (hS : va_S A s.heap H locs) (hl : lv_has ls 8 [(0, .ref b), (1, .ref h0), (2, .ref h3), (3, .ref g5), (4, .int (nI i))]) : W p l e room_1 s m #[Value.ref b] below meth c H locs cells slots Q (F0 m 1117 ls []) := by
  obtain ⟨hx, hb, hml, hown, hts, hNw, hK, hX0, hA1, hl9, hscr, hbl, hLn⟩ := C9
  have hA : ∀ q : Nat, s.heap.size ≤ q → A q := fun q h => (hA1 q).mpr h
  have hbA : ¬ A b := fun z => absurd ((hA1 b).mp z) (by omega)
  obtain ⟨n, r, x, L, fc, M, q1, q2, q4, ab, en, lf, bl, tr, mt, ab2, en2, lf2, bl2, tr2, mt2, bo, cd, ey, ex, q, rc, eg, so, wi, ew, lo, men, le, pi, ou, hn, hL, hI1, hI2, hI4, hfc, hM, hz, hz0, hq, hP, hD⟩ := hJ
  subst hfc
  subst hM
  have hP : va_P (dC, dI) vwCl (la_ws cJ cI h0 h1 n1 a1 e1 l1 b1 t1 h2 n2 a2 e2 l2 b2 t2 h4 c4 h3 k3 o3 w3 v3 p3 e3 f3 q3 g5 (nI n) (nI (sp_lc n L)) L ab en lf bl tr (nI n) (nI r) mt (bs_i q1) (gf_T n L) ab2 en2 lf2 bl2 tr2 (nI n) (nI x) mt2 (bs_i q2) bo (bs_i q4) cd (nI n) ey ex (bs_i q) rc eg L so wi ew lo men le pi ou) H := hP
  have hD : va_D A (la_ws cJ cI h0 h1 n1 a1 e1 l1 b1 t1 h2 n2 a2 e2 l2 b2 t2 h4 c4 h3 k3 o3 w3 v3 p3 e3 f3 q3 g5 (nI n) (nI (sp_lc n L)) L ab en lf bl tr (nI n) (nI r) mt (bs_i q1) (gf_T n L) ab2 en2 lf2 bl2 tr2 (nI n) (nI x) mt2 (bs_i q2) bo (bs_i q4) cd (nI n) ey ex (bs_i q) rc eg L so wi ew lo men le pi ou) := hD
  refine lv_aload_n hx hb d_L_law_1117 rfl (lv_at hl 1 rfl) ?_
  obtain ⟨hPc, hDc, hFc⟩ := la_F hP hD hS hA
  refine va_calli (va_runV (C := "FlowNest") (b := h0) (As := []) (rest := []) ⟨hx, hb, hml, hown, hts⟩ (c_F_isReducible l dC dI cJ cI h0 h1 n1 a1 e1 l1 b1 t1 h2 n2 a2 e2 l2 b2 t2 h4 c4 H.size ab en lf bl tr mt ab2 en2 lf2 bl2 tr2 mt2 bo n r x L q1 q2 q4  hn hL hI1 hI2 hI4) (cwV 0 hts (nm_gV nm_179 nm_180 nm_181 nm_1 nm_c_F_isReducible) rfl rfl rfl (by decide +kernel) ⟨Nat.le_of_ble_eq_true rfl, Nat.le_of_ble_eq_true rfl⟩) ⟨cw_blindM, va_recv hK hPc (ci := 2) rfl (q0 := 0) rfl, cw_preM hPc hDc hK hNw⟩ rfl rfl hl.1 rfl (lv_room (Nat.le_of_ble_eq_true rfl)) d_L_law_1118 ⟨rm_c (by omega), rm_s (by omega)⟩) hS (fun q _ h => hFc q h) hFc (fun r1 u9 t H1 locs ht hvm hw2 hB hz1 hk1 hS => ?_)
  obtain ⟨p93, ab94, en95, lf96, bl97, tr98, mt99, s910, yb911, yn912, yf913, yl914, yr915, ym916, w917, bo918⟩ := u9
  obtain ⟨hP1, hD1⟩ := hB
  rw [ht] at hP1
  obtain ⟨hP, hD⟩ := la_jF hP hD hk1 hFc hP1 hD1
  clear hPc hDc hFc hP1 hD1 hk1 hz1 ht
  generalize H1 = H at hP hS ⊢
  obtain ⟨hJ1, hJ2, hJ4, hfa⟩ := hw2
  refine lv_aload_n hx hb d_L_law_1121 rfl (lv_at hl 2 rfl) ?_
  obtain ⟨hPc, hDc, hFc⟩ := la_M hP hD hS hA
  refine va_calli (va_runV (C := "FlowNestModel") (b := h3) (As := []) (rest := [.int r1]) ⟨hx, hb, hml, hown, hts⟩ (c_M_isReducible l dC dI cJ cI h3 k3 o3 w3 v3 p3 e3 f3 q3 H.size cd ey ex rc eg L so wi ew lo men le pi n r x q  hn hz hL hq) (cwV 0 hts (nm_gV nm_572 nm_573 nm_574 nm_4 nm_c_M_isReducible) rfl rfl rfl (by decide +kernel) ⟨Nat.le_of_ble_eq_true rfl, Nat.le_of_ble_eq_true rfl⟩) ⟨cw_blindM, va_recv hK hPc (ci := 3) rfl (q0 := 0) rfl, cw_preM hPc hDc hK hNw⟩ rfl rfl hl.1 rfl (lv_room (Nat.le_of_ble_eq_true rfl)) d_L_law_1122 ⟨rm_c (by omega), rm_s (by omega)⟩) hS (fun q _ h => hFc q h) hFc (fun r19 u9 t H1 locs ht hvm hw20 hB hz1 hk1 hS => ?_)
  obtain ⟨zrc21, zeg22, zso23, zwi24, zew25, zlo26, zen27, zle28, zpi29, zk30⟩ := u9
  obtain ⟨hP1, hD1⟩ := hB
  rw [ht] at hP1
  obtain ⟨hP, hD⟩ := la_jM hP hD hk1 hFc hP1 hD1
  clear hPc hDc hFc hP1 hD1 hk1 hz1 ht
  generalize H1 = H at hP hS ⊢
  obtain ⟨hq2, hma⟩ := hw20
  refine lv_icmp_eq (tgt := 1239) hx hb d_L_law_1125 (by decide) (fun hc1125 => ?_) (fun hc1125 => ?_)
  · refine W.widen (k := cells + 2) (n := slots + 12) (by omega) (by omega) ?_
    exact back _ _ _ ⟨n, r, x, L, nI (sp_lc n L), gf_T n L, p93, s910, w917, ab94, en95, lf96, bl97, tr98, mt99, yb911, yn912, yf913, yl914, yr915, ym916, bo918, nI 0, ey, ex, zk30, zrc21, zeg22, zso23, zwi24, zew25, zlo26, zen27, zle28, zpi29, ou, hn, hL, hJ1, hJ2, hJ4, rfl, rfl, hz, hz0, hq2, hP, hD⟩ hS (lv_sub hl [0, 1, 2, 3, 4] rfl)
  · exact absurd (n0_u hfa hma) hc1125
set_option maxHeartbeats 4000000 in
set_option maxRecDepth 100000 in
theorem law_17 {p : Program} {l : Launch} {e : Env} {s : State} {m : MethodId} {below : List Frame} {meth : Method} {c : Code} {b Ln : Nat} {xs : Nat → Int32} {A : Nat → Prop} {Q : State → Prop} {dC : Nat → ClassId} {dI : Nat → Nat → Nat} {cJ cI : ClassId} {h0 h1 n1 a1 e1 l1 b1 t1 h2 n2 a2 e2 l2 b2 t2 h4 c4 h3 k3 o3 w3 v3 p3 e3 f3 q3 g5 sa sb : Nat} (C9 : lw_C p l s m c b Ln xs A dC dI cJ cI sa sb) {cells slots i : Nat} (hi : i + 4 ≤ Ln) (hc9 : cells + 2 ≤ 1053) (hs9 : slots + 12 ≤ 9256) (back : ∀ (H : Heap) (locs : List Loc) (ls : Array Slot), lw_J A dC dI cJ cI h0 h1 n1 a1 e1 l1 b1 t1 h2 n2 a2 e2 l2 b2 t2 h4 c4 h3 k3 o3 w3 v3 p3 e3 f3 q3 g5 H → va_S A s.heap H locs → lv_has ls 8 [(0, .ref b), (1, .ref h0), (2, .ref h3), (3, .ref g5), (4, .int (nI i))] → W p l e room_1 s m #[Value.ref b] below meth c H locs (cells + 2) (slots + 12) Q (F0 m 1239 ls [])) {H : Heap} {locs : List Loc} {ls : Array Slot} (hJ : lw_J A dC dI cJ cI h0 h1 n1 a1 e1 l1 b1 t1 h2 n2 a2 e2 l2 b2 t2 h4 c4 h3 k3 o3 w3 v3 p3 e3 f3 q3 g5 H) (hS : va_S A s.heap H locs) (hl : lv_has ls 8 [(0, .ref b), (1, .ref h0), (2, .ref h3), (3, .ref g5), (4, .int (nI i))]) : W p l e room_1 s m #[Value.ref b] below meth c H locs cells slots Q (F0 m 1214 ls []) := by
  obtain ⟨hx, hb, hml, hown, hts, hNw, hK, hX0, hA1, hl9, hscr, hbl, hLn⟩ := C9
  have hA : ∀ q : Nat, s.heap.size ≤ q → A q := fun q h => (hA1 q).mpr h
  have hbA : ¬ A b := fun z => absurd ((hA1 b).mp z) (by omega)
  obtain ⟨n, r, x, L, fc, M, q1, q2, q4, ab, en, lf, bl, tr, mt, ab2, en2, lf2, bl2, tr2, mt2, bo, cd, ey, ex, q, rc, eg, so, wi, ew, lo, men, le, pi, ou, hn, hL, hI1, hI2, hI4, hfc, hM, hz, hz0, hq, hP, hD⟩ := hJ
  subst hfc
  subst hM
  have hP : va_P (dC, dI) vwCl (la_ws cJ cI h0 h1 n1 a1 e1 l1 b1 t1 h2 n2 a2 e2 l2 b2 t2 h4 c4 h3 k3 o3 w3 v3 p3 e3 f3 q3 g5 (nI n) (nI (sp_lc n L)) L ab en lf bl tr (nI n) (nI r) mt (bs_i q1) (gf_T n L) ab2 en2 lf2 bl2 tr2 (nI n) (nI x) mt2 (bs_i q2) bo (bs_i q4) cd (nI n) ey ex (bs_i q) rc eg L so wi ew lo men le pi ou) H := hP
  have hD : va_D A (la_ws cJ cI h0 h1 n1 a1 e1 l1 b1 t1 h2 n2 a2 e2 l2 b2 t2 h4 c4 h3 k3 o3 w3 v3 p3 e3 f3 q3 g5 (nI n) (nI (sp_lc n L)) L ab en lf bl tr (nI n) (nI r) mt (bs_i q1) (gf_T n L) ab2 en2 lf2 bl2 tr2 (nI n) (nI x) mt2 (bs_i q2) bo (bs_i q4) cd (nI n) ey ex (bs_i q) rc eg L so wi ew lo men le pi ou) := hD
  refine lv_aload_n hx hb d_L_law_1214 rfl (lv_at hl 1 rfl) ?_
  refine lv_aload_n hx hb d_L_law_1215 rfl (lv_at hl 0 rfl) ?_
  refine lv_iload hx hb d_L_law_1216 (lv_at hl 4 rfl) ?_
  refine lv_iconst (v := nI 1) hx hb d_L_law_1218 (by decide) ?_
  refine wl_iaddn hx hb d_L_law_1219 ?_
  refine wl_sld hx hb hscr hbl hbA hS (i := (i + 1)) (by omega) hLn d_L_law_1220 ?_
  obtain ⟨hPc, hDc, hFc⟩ := la_F hP hD hS hA
  refine va_calli (va_runV (C := "FlowNest") (b := h0) (As := [.int (xs (i + 1))]) (rest := []) ⟨hx, hb, hml, hown, hts⟩ (c_F_told l dC dI cJ cI h0 h1 n1 a1 e1 l1 b1 t1 h2 n2 a2 e2 l2 b2 t2 h4 c4 H.size ab en lf bl tr mt ab2 en2 lf2 bl2 tr2 mt2 bo n r x L q1 q2 q4 (xs (i + 1)) hn hL hI1 hI2 hI4) (cwV 1 hts (nm_gV nm_187 nm_188 nm_189 nm_1 nm_c_F_told) rfl rfl rfl (by decide +kernel) ⟨Nat.le_of_ble_eq_true rfl, Nat.le_of_ble_eq_true rfl⟩) ⟨cw_blindM, va_recv hK hPc (ci := 2) rfl (q0 := 0) rfl, cw_preM hPc hDc hK hNw⟩ rfl rfl hl.1 rfl (lv_room (Nat.le_of_ble_eq_true rfl)) d_L_law_1221 ⟨rm_c (by omega), rm_s (by omega)⟩) hS (fun q _ h => hFc q h) hFc (fun r1 u9 t H1 locs ht hvm hw2 hB hz1 hk1 hS => ?_)
  obtain ⟨p93, ab94, en95, lf96, bl97, tr98, mt99, s910, yb911, yn912, yf913, yl914, yr915, ym916, w917, bo918⟩ := u9
  obtain ⟨hP1, hD1⟩ := hB
  rw [ht] at hP1
  obtain ⟨hP, hD⟩ := la_jF hP hD hk1 hFc hP1 hD1
  clear hPc hDc hFc hP1 hD1 hk1 hz1 ht
  generalize H1 = H at hP hS ⊢
  obtain ⟨hJ1, hJ2, hJ4, hfa⟩ := hw2
  refine lv_aload_n hx hb d_L_law_1224 rfl (lv_at hl 2 rfl) ?_
  refine lv_aload_n hx hb d_L_law_1225 rfl (lv_at hl 0 rfl) ?_
  refine lv_iload hx hb d_L_law_1226 (lv_at hl 4 rfl) ?_
  refine lv_iconst (v := nI 1) hx hb d_L_law_1228 (by decide) ?_
  refine wl_iaddn hx hb d_L_law_1229 ?_
  refine wl_sld hx hb hscr hbl hbA hS (i := (i + 1)) (by omega) hLn d_L_law_1230 ?_
  obtain ⟨hPc, hDc, hFc⟩ := la_M hP hD hS hA
  refine va_calli (va_runV (C := "FlowNestModel") (b := h3) (As := [.int (xs (i + 1))]) (rest := [.int r1]) ⟨hx, hb, hml, hown, hts⟩ (c_M_told l dC dI cJ cI h3 k3 o3 w3 v3 p3 e3 f3 q3 H.size cd ey ex rc eg L so wi ew lo men le pi n r x q (xs (i + 1)) hn hz hL hq) (cwV 1 hts (nm_gV nm_580 nm_581 nm_582 nm_4 nm_c_M_told) rfl rfl rfl (by decide +kernel) ⟨Nat.le_of_ble_eq_true rfl, Nat.le_of_ble_eq_true rfl⟩) ⟨cw_blindM, va_recv hK hPc (ci := 3) rfl (q0 := 0) rfl, cw_preM hPc hDc hK hNw⟩ rfl rfl hl.1 rfl (lv_room (Nat.le_of_ble_eq_true rfl)) d_L_law_1231 ⟨rm_c (by omega), rm_s (by omega)⟩) hS (fun q _ h => hFc q h) hFc (fun r19 u9 t H1 locs ht hvm hw20 hB hz1 hk1 hS => ?_)
  obtain ⟨zrc21, zeg22, zso23, zwi24, zew25, zlo26, zen27, zle28, zpi29, zk30⟩ := u9
  obtain ⟨hP1, hD1⟩ := hB
  rw [ht] at hP1
  obtain ⟨hP, hD⟩ := la_jM hP hD hk1 hFc hP1 hD1
  clear hPc hDc hFc hP1 hD1 hk1 hz1 ht
  generalize H1 = H at hP hS ⊢
  obtain ⟨hq2, hma⟩ := hw20
  refine lv_icmp_eq (tgt := 1239) hx hb d_L_law_1234 (by decide) (fun hc1234 => ?_) (fun hc1234 => ?_)
  · refine W.widen (k := cells + 2) (n := slots + 12) (by omega) (by omega) ?_
    exact back _ _ _ ⟨n, r, x, L, nI (sp_lc n L), gf_T n L, p93, s910, w917, ab94, en95, lf96, bl97, tr98, mt99, yb911, yn912, yf913, yl914, yr915, ym916, bo918, nI 0, ey, ex, zk30, zrc21, zeg22, zso23, zwi24, zew25, zlo26, zen27, zle28, zpi29, ou, hn, hL, hJ1, hJ2, hJ4, rfl, rfl, hz, hz0, hq2, hP, hD⟩ hS (lv_sub hl [0, 1, 2, 3, 4] rfl)
  · exact absurd (sp_told_u (by rw [(ft_ey hz hz0).1, (ft_ey hz hz0).2] at hfa; exact hfa) hma) hc1234
