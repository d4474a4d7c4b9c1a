/-! the law's cases (laid by wip/gen/law.py) -/
set_option maxHeartbeats 4000000 in
set_option maxRecDepth 100000 in
theorem law_0 {p : Program} {l : Launch} {e : Env} {s : State} {m : MethodId} {below : List Frame} {meth : Method} {c : Code} {b Ln : Nat} {xs : Nat → Int32} {A : Nat → Prop} {Q : State → Prop} {dC : Nat → ClassId} {dI : Nat → Nat → Nat} {cJ cI : ClassId} {h0 h1 n1 a1 e1 l1 b1 t1 h2 n2 a2 e2 l2 b2 t2 h4 c4 h3 k3 o3 w3 v3 p3 e3 f3 q3 g5 sa sb : Nat} (C9 : lw_C p l s m c b Ln xs A dC dI cJ cI sa sb) {cells slots i : Nat} (hi : i + 4 ≤ Ln) (hc9 : cells + 2 ≤ 1053) (hs9 : slots + 12 ≤ 9256) (back : ∀ (H : Heap) (locs : List Loc) (ls : Array Slot), lw_J A dC dI cJ cI h0 h1 n1 a1 e1 l1 b1 t1 h2 n2 a2 e2 l2 b2 t2 h4 c4 h3 k3 o3 w3 v3 p3 e3 f3 q3 g5 H → va_S A s.heap H locs → lv_has ls 8 [(0, .ref b), (1, .ref h0), (2, .ref h3), (3, .ref g5), (4, .int (nI i))] → W p l e room_1 s m #[Value.ref b] below meth c H locs (cells + 2) (slots + 12) Q (F0 m 1239 ls [])) {H : Heap} {locs : List Loc} {ls : Array Slot} (hJ : lw_J A dC dI cJ cI h0 h1 n1 a1 e1 l1 b1 t1 h2 n2 a2 e2 l2 b2 t2 h4 c4 h3 k3 o3 w3 v3 p3 e3 f3 q3 g5 H) (hS : va_S A s.heap H locs) (hl : lv_has ls 8 [(0, .ref b), (1, .ref h0), (2, .ref h3), (3, .ref g5), (4, .int (nI i))]) : W p l e room_1 s m #[Value.ref b] below meth c H locs cells slots Q (F0 m 124 ls []) := by
  obtain ⟨hx, hb, hml, hown, hts, hNw, hK, hX0, hA1, hl9, hscr, hbl, hLn⟩ := C9
  have hA : ∀ q : Nat, s.heap.size ≤ q → A q := fun q h => (hA1 q).mpr h
  have hbA : ¬ A b := fun z => absurd ((hA1 b).mp z) (by omega)
  obtain ⟨n, r, x, L, fc, M, q1, q2, q4, ab, en, lf, bl, tr, mt, ab2, en2, lf2, bl2, tr2, mt2, bo, cd, ey, ex, q, rc, eg, so, wi, ew, lo, men, le, pi, ou, hn, hL, hI1, hI2, hI4, hfc, hM, hz, hz0, hq, hP, hD⟩ := hJ
  subst hfc
  subst hM
  have hP : va_P (dC, dI) vwCl (la_ws cJ cI h0 h1 n1 a1 e1 l1 b1 t1 h2 n2 a2 e2 l2 b2 t2 h4 c4 h3 k3 o3 w3 v3 p3 e3 f3 q3 g5 (nI n) (nI (sp_lc n L)) L ab en lf bl tr (nI n) (nI r) mt (bs_i q1) (gf_T n L) ab2 en2 lf2 bl2 tr2 (nI n) (nI x) mt2 (bs_i q2) bo (bs_i q4) cd (nI n) ey ex (bs_i q) rc eg L so wi ew lo men le pi ou) H := hP
  have hD : va_D A (la_ws cJ cI h0 h1 n1 a1 e1 l1 b1 t1 h2 n2 a2 e2 l2 b2 t2 h4 c4 h3 k3 o3 w3 v3 p3 e3 f3 q3 g5 (nI n) (nI (sp_lc n L)) L ab en lf bl tr (nI n) (nI r) mt (bs_i q1) (gf_T n L) ab2 en2 lf2 bl2 tr2 (nI n) (nI x) mt2 (bs_i q2) bo (bs_i q4) cd (nI n) ey ex (bs_i q) rc eg L so wi ew lo men le pi ou) := hD
  refine lv_aload_n hx hb d_L_law_124 rfl (lv_at hl 1 rfl) ?_
  refine lv_aload_n hx hb d_L_law_125 rfl (lv_at hl 0 rfl) ?_
  refine lv_iload hx hb d_L_law_126 (lv_at hl 4 rfl) ?_
  refine lv_iconst (v := nI 1) hx hb d_L_law_128 (by decide) ?_
  refine wl_iaddn hx hb d_L_law_129 ?_
  refine wl_sld hx hb hscr hbl hbA hS (i := (i + 1)) (by omega) hLn d_L_law_130 ?_
  refine lv_aload_n hx hb d_L_law_131 rfl (lv_at hl 3 rfl) ?_
  obtain ⟨hPc, hDc, hFc⟩ := la_L hP hD hS hA
  have hX := tx_kept hX0 hS.1 (fun q hq9 => hS.2.1 q hq9 (fun z => absurd ((hA1 q).mp z) (by omega)))
  refine va_calli (vx_runSW (As := [.ref h0, .int (xs (i + 1)), .ref g5]) (rest := []) ⟨hx, hb, hml, hown, hts⟩ (c_L_begin l hl9 dC dI cJ cI h0 h1 n1 a1 e1 l1 b1 t1 h2 n2 a2 e2 l2 b2 t2 h4 c4 g5 H.size sa sb ab en lf bl tr mt ab2 en2 lf2 bl2 tr2 mt2 bo ou n r x L q1 q2 q4 (xs (i + 1))) (vx_cwSW 3 hts (nm_gS nm_191 nm_192 nm_0 nm_c_L_begin) rfl rfl rfl (by decide +kernel) ⟨Nat.le_of_ble_eq_true rfl, Nat.le_of_ble_eq_true rfl⟩) ⟨cw_blindT, cw_preT hPc hDc hK hNw hX⟩ rfl rfl hl.1 rfl (lv_room (Nat.le_of_ble_eq_true rfl)) d_L_law_132 ⟨rm_c (by omega), rm_s (by omega)⟩) hS (fun q _ h => hFc q h) hFc (fun r1 u9 t H1 locs ht hvm hw hB hz1 hk1 hS => ?_)
  obtain ⟨yn91, yy92, yz93, yc94, yL95, yM96, yp97, ys98, yw99, you910⟩ := u9
  obtain ⟨hP1, hD1⟩ := hB
  rw [ht] at hP1
  obtain ⟨hP, hD⟩ := la_jL hP hD hk1 hFc hP1 hD1
  clear hPc hDc hFc hX hP1 hD1 hk1 hz1 ht
  generalize H1 = H at hP hS ⊢
  rcases hw with ⟨hr1, g1, g2, g3, f1, f2, f3, f4, f5, f6, f7, f8, hou⟩ | ⟨hr1, hval, f0, f1, f2, f3, f4, f5, f6, f7, f8⟩
  · replace hr1 := hr1.symm
    subst hr1
    replace f1 := f1.symm
    subst f1
    replace f2 := f2.symm
    subst f2
    replace f3 := f3.symm
    subst f3
    replace f4 := f4.symm
    subst f4
    replace f5 := f5.symm
    subst f5
    replace f6 := f6.symm
    subst f6
    replace f7 := f7.symm
    subst f7
    replace f8 := f8.symm
    subst f8
    have hval : ∃ m, 1 ≤ m ∧ m ≤ 48 ∧ xs (i + 1) = nI m := ⟨yn91, g1, g2, g3⟩
    have hP : va_P (dC, dI) vwCl (la_ws cJ cI h0 h1 n1 a1 e1 l1 b1 t1 h2 n2 a2 e2 l2 b2 t2 h4 c4 h3 k3 o3 w3 v3 p3 e3 f3 q3 g5 (nI yn91) (nI 0) (fun _ => 0) ab en lf bl tr (nI yn91) (nI 0) mt (bs_i true) (fun _ => 0) ab2 en2 lf2 bl2 tr2 (nI yn91) (nI (yn91 - 1)) mt2 (bs_i true) bo (bs_i true) cd (nI n) ey ex (bs_i q) rc eg L so wi ew lo men le pi you910) H := hP
    have hD : va_D A (la_ws cJ cI h0 h1 n1 a1 e1 l1 b1 t1 h2 n2 a2 e2 l2 b2 t2 h4 c4 h3 k3 o3 w3 v3 p3 e3 f3 q3 g5 (nI yn91) (nI 0) (fun _ => 0) ab en lf bl tr (nI yn91) (nI 0) mt (bs_i true) (fun _ => 0) ab2 en2 lf2 bl2 tr2 (nI yn91) (nI (yn91 - 1)) mt2 (bs_i true) bo (bs_i true) cd (nI n) ey ex (bs_i q) rc eg L so wi ew lo men le pi you910) := hD
    refine lv_istore (lv' := [(5, .int (nI 0)), (0, .ref b), (1, .ref h0), (2, .ref h3), (3, .ref g5), (4, .int (nI i))]) hx hb d_L_law_135 hl (by decide) rfl (fun ls hl => ?_)
    refine lv_aload_n hx hb d_L_law_137 rfl (lv_at hl 3 rfl) ?_
    refine lv_aload_n hx hb d_L_law_138 rfl (lv_at hl 1 rfl) ?_
    refine lv_iload hx hb d_L_law_139 (lv_at hl 5 rfl) ?_
    refine lv_iconst (v := nI 1) hx hb d_L_law_141 (by decide) ?_
    refine wl_iaddn hx hb d_L_law_142 ?_
    refine wl_sld hx hb hscr hbl hbA hS (i := (i + 1)) (by omega) hLn d_L_law_143 ?_
    obtain ⟨hPc, hDc, hFc⟩ := la_M hP hD hS hA
    refine va_calli (va_runV (C := "FlowNestModel") (b := h3) (As := [.int (xs (i + 1))]) (rest := []) ⟨hx, hb, hml, hown, hts⟩ (c_M_begin l dC dI cJ cI h3 k3 o3 w3 v3 p3 e3 f3 q3 H.size cd ey ex rc eg L so wi ew lo men le pi n q (xs (i + 1))) (cwV 1 hts (nm_gV nm_464 nm_465 nm_466 nm_4 nm_c_M_begin) rfl rfl rfl (by decide +kernel) ⟨Nat.le_of_ble_eq_true rfl, Nat.le_of_ble_eq_true rfl⟩) ⟨cw_blindM, va_recv hK hPc (ci := 3) rfl (q0 := 0) rfl, cw_preM hPc hDc hK hNw⟩ rfl rfl hl.1 rfl (lv_room (Nat.le_of_ble_eq_true rfl)) d_L_law_144 ⟨rm_c (by omega), rm_s (by omega)⟩) hS (fun q _ h => hFc q h) hFc (fun r11 u9 t H1 locs ht hvm hw12 hB hz1 hk1 hS => ?_)
    obtain ⟨zb13, znn14, zey15, zex16, zk17, zli18⟩ := u9
    obtain ⟨hP1, hD1⟩ := hB
    rw [ht] at hP1
    obtain ⟨hP, hD⟩ := la_jM hP hD hk1 hFc hP1 hD1
    clear hPc hDc hFc hP1 hD1 hk1 hz1 ht
    generalize H1 = H at hP hS ⊢
    obtain ⟨hv2, hn2, ha2⟩ := hw12
    have hzb : zb13 = true := hv2.mpr hval
    replace hzb := hzb.symm
    subst hzb
    obtain ⟨m2, m3, m4, m5, m6, m7, m8, m9, m10, m11⟩ := ha2 rfl
    have ek := nI_i (a := yn91) (b := m2) g2 m4 (g3.symm.trans m5)
    subst ek
    replace m6 := m6.symm
    subst m6
    replace m7 := m7.symm
    subst m7
    replace m8 := m8.symm
    subst m8
    replace m9 := m9.symm
    subst m9
    replace m10 := m10.symm
    subst m10
    replace m11 := m11.symm
    subst m11
    have hP : va_P (dC, dI) vwCl (la_ws cJ cI h0 h1 n1 a1 e1 l1 b1 t1 h2 n2 a2 e2 l2 b2 t2 h4 c4 h3 k3 o3 w3 v3 p3 e3 f3 q3 g5 (nI yn91) (nI 0) (fun _ => 0) ab en lf bl tr (nI yn91) (nI 0) mt (bs_i true) (fun _ => 0) ab2 en2 lf2 bl2 tr2 (nI yn91) (nI (yn91 - 1)) mt2 (bs_i true) bo (bs_i true) (nI 0) (nI yn91) (nI 0) (nI (yn91 - 1)) (bs_i false) rc eg (fun _ => 0) so wi ew lo men le pi you910) H := hP
    have hD : va_D A (la_ws cJ cI h0 h1 n1 a1 e1 l1 b1 t1 h2 n2 a2 e2 l2 b2 t2 h4 c4 h3 k3 o3 w3 v3 p3 e3 f3 q3 g5 (nI yn91) (nI 0) (fun _ => 0) ab en lf bl tr (nI yn91) (nI 0) mt (bs_i true) (fun _ => 0) ab2 en2 lf2 bl2 tr2 (nI yn91) (nI (yn91 - 1)) mt2 (bs_i true) bo (bs_i true) (nI 0) (nI yn91) (nI 0) (nI (yn91 - 1)) (bs_i false) rc eg (fun _ => 0) so wi ew lo men le pi you910) := hD
    refine lv_istore (lv' := [(6, .int (nI n)), (5, .int (nI 0)), (0, .ref b), (1, .ref h0), (2, .ref h3), (3, .ref g5), (4, .int (nI i))]) hx hb d_L_law_147 hl (by decide) rfl (fun ls hl => ?_)
    refine lv_aload_n hx hb d_L_law_149 rfl (lv_at hl 4 rfl) ?_
    have hPc := (la_M hP hD hS hA).1
    refine vp_callSi (va_Run.run (va_runV (C := "FlowNestModel") (b := h3) (As := []) (rest := []) ⟨hx, hb, hml, hown, hts⟩ (c_M_thrown l dC dI cJ cI h3 k3 o3 w3 v3 p3 e3 f3 q3 (nI 0) (nI yn91) (nI 0) (nI (yn91 - 1)) (bs_i false) rc eg (fun _ => 0) so wi ew lo men le pi) (cwV 0 hts (nm_gV nm_460 nm_461 nm_462 nm_4 nm_c_M_thrown) rfl rfl rfl (by decide +kernel) ⟨Nat.le_of_ble_eq_true rfl, Nat.le_of_ble_eq_true rfl⟩) ⟨cw_blind, va_recv hK hPc (ci := 3) rfl (q0 := 0) rfl, cw_pre hPc hK hNw⟩ rfl rfl hl.1 rfl (lv_room (Nat.le_of_ble_eq_true rfl)) d_L_law_150 ⟨rm_c (by omega), rm_s (by omega)⟩)) (fun r19 hr20 => ?_)
    clear hPc
    subst hr20
    refine lv_iload hx hb d_L_law_153 (lv_at hl 1 rfl) ?_
    refine wl_ieq (tgt := 160) hx hb (by omega) (by omega) d_L_law_155 (by decide) (fun hc155 => ?_) (fun hc155 => ?_)
    · refine lv_iload hx hb d_L_law_160 (lv_at hl 1 rfl) ?_
      refine wl_ifnen (tgt := 177) hx hb (by omega) d_L_law_162 (by decide) (fun hc162 => ?_) (fun hc162 => ?_)
      · exact absurd hc162 (by decide)
      · refine lv_aload_n hx hb d_L_law_165 rfl (lv_at hl 5 rfl) ?_
        refine lv_iconst (v := nI 0) hx hb d_L_law_166 (by decide) ?_
        refine wl_lald (i := 0) hx hb hK hP 26 0 rfl rfl (by omega) (by decide) d_L_law_167 ?_
        refine lv_iload hx hb d_L_law_168 (lv_at hl 0 rfl) ?_
        refine lv_i2l (v := (nI n).toInt64) hx hb d_L_law_170 rfl ?_
        refine wl_lcmpeq (tgt := 177) hx hb d_L_law_171 d_L_law_172 (by decide) (fun hc171 => ?_) (fun hc171 => ?_)
        · refine lv_goto (tgt := 1239) hx hb d_L_law_177 (by decide) ?_
          refine W.widen (k := cells + 2) (n := slots + 12) (by omega) (by omega) ?_
          exact back _ _ _ ⟨yn91, 0, (yn91 - 1), (fun _ => 0), nI 0, fun _ => 0, true, true, true, ab, en, lf, bl, tr, mt, ab2, en2, lf2, bl2, tr2, mt2, bo, nI 0, nI 0, nI (yn91 - 1), false, rc, eg, so, wi, ew, lo, men, le, pi, you910, g2, (gf_L_0 _), (fv_S_t (by omega)), (fv_S_t (by omega)), (fv_N_t (by omega)), (congrArg nI (sp_lc_0 _).symm), (gf_T_0 _).symm, (fun _ => ⟨rfl, rfl, by omega, by omega⟩), (fun z => absurd z (by omega)), (fun z => absurd z (by decide)), hP, hD⟩ hS (lv_sub hl [2, 3, 4, 5, 6] rfl)
        · exact absurd (hou) hc171
    · exact absurd rfl hc155
  · replace hr1 := hr1.symm
    subst hr1
    replace f0 := f0.symm
    subst f0
    replace f1 := f1.symm
    subst f1
    replace f2 := f2.symm
    subst f2
    replace f3 := f3.symm
    subst f3
    replace f4 := f4.symm
    subst f4
    replace f5 := f5.symm
    subst f5
    replace f6 := f6.symm
    subst f6
    replace f7 := f7.symm
    subst f7
    replace f8 := f8.symm
    subst f8
    have hP : va_P (dC, dI) vwCl (la_ws cJ cI h0 h1 n1 a1 e1 l1 b1 t1 h2 n2 a2 e2 l2 b2 t2 h4 c4 h3 k3 o3 w3 v3 p3 e3 f3 q3 g5 (nI n) (nI (sp_lc n L)) L ab en lf bl tr (nI n) (nI r) mt (bs_i q1) (gf_T n L) ab2 en2 lf2 bl2 tr2 (nI n) (nI x) mt2 (bs_i q2) bo (bs_i q4) cd (nI n) ey ex (bs_i q) rc eg L so wi ew lo men le pi you910) H := hP
    have hD : va_D A (la_ws cJ cI h0 h1 n1 a1 e1 l1 b1 t1 h2 n2 a2 e2 l2 b2 t2 h4 c4 h3 k3 o3 w3 v3 p3 e3 f3 q3 g5 (nI n) (nI (sp_lc n L)) L ab en lf bl tr (nI n) (nI r) mt (bs_i q1) (gf_T n L) ab2 en2 lf2 bl2 tr2 (nI n) (nI x) mt2 (bs_i q2) bo (bs_i q4) cd (nI n) ey ex (bs_i q) rc eg L so wi ew lo men le pi you910) := hD
    refine lv_istore (lv' := [(5, .int (nI 1)), (0, .ref b), (1, .ref h0), (2, .ref h3), (3, .ref g5), (4, .int (nI i))]) hx hb d_L_law_135 hl (by decide) rfl (fun ls hl => ?_)
    refine lv_aload_n hx hb d_L_law_137 rfl (lv_at hl 3 rfl) ?_
    refine lv_aload_n hx hb d_L_law_138 rfl (lv_at hl 1 rfl) ?_
    refine lv_iload hx hb d_L_law_139 (lv_at hl 5 rfl) ?_
    refine lv_iconst (v := nI 1) hx hb d_L_law_141 (by decide) ?_
    refine wl_iaddn hx hb d_L_law_142 ?_
    refine wl_sld hx hb hscr hbl hbA hS (i := (i + 1)) (by omega) hLn d_L_law_143 ?_
    obtain ⟨hPc, hDc, hFc⟩ := la_M hP hD hS hA
    refine va_calli (va_runV (C := "FlowNestModel") (b := h3) (As := [.int (xs (i + 1))]) (rest := []) ⟨hx, hb, hml, hown, hts⟩ (c_M_begin l dC dI cJ cI h3 k3 o3 w3 v3 p3 e3 f3 q3 H.size cd ey ex rc eg L so wi ew lo men le pi n q (xs (i + 1))) (cwV 1 hts (nm_gV nm_464 nm_465 nm_466 nm_4 nm_c_M_begin) rfl rfl rfl (by decide +kernel) ⟨Nat.le_of_ble_eq_true rfl, Nat.le_of_ble_eq_true rfl⟩) ⟨cw_blindM, va_recv hK hPc (ci := 3) rfl (q0 := 0) rfl, cw_preM hPc hDc hK hNw⟩ rfl rfl hl.1 rfl (lv_room (Nat.le_of_ble_eq_true rfl)) d_L_law_144 ⟨rm_c (by omega), rm_s (by omega)⟩) hS (fun q _ h => hFc q h) hFc (fun r21 u9 t H1 locs ht hvm hw22 hB hz1 hk1 hS => ?_)
    obtain ⟨zb23, znn24, zey25, zex26, zk27, zli28⟩ := u9
    obtain ⟨hP1, hD1⟩ := hB
    rw [ht] at hP1
    obtain ⟨hP, hD⟩ := la_jM hP hD hk1 hFc hP1 hD1
    clear hPc hDc hFc hP1 hD1 hk1 hz1 ht
    generalize H1 = H at hP hS ⊢
    obtain ⟨hv2, hn2, ha2⟩ := hw22
    have hzb : zb23 = false := Bool.eq_false_iff.mpr (fun z => hval (hv2.mp z))
    replace hzb := hzb.symm
    subst hzb
    obtain ⟨m6, m7, m8, m9, m10⟩ := hn2 rfl
    replace m6 := m6.symm
    subst m6
    replace m7 := m7.symm
    subst m7
    replace m8 := m8.symm
    subst m8
    replace m9 := m9.symm
    subst m9
    replace m10 := m10.symm
    subst m10
    have hP : va_P (dC, dI) vwCl (la_ws cJ cI h0 h1 n1 a1 e1 l1 b1 t1 h2 n2 a2 e2 l2 b2 t2 h4 c4 h3 k3 o3 w3 v3 p3 e3 f3 q3 g5 (nI n) (nI (sp_lc n L)) L ab en lf bl tr (nI n) (nI r) mt (bs_i q1) (gf_T n L) ab2 en2 lf2 bl2 tr2 (nI n) (nI x) mt2 (bs_i q2) bo (bs_i q4) (nI 1) (nI n) ey ex (bs_i q) rc eg L so wi ew lo men le pi you910) H := hP
    have hD : va_D A (la_ws cJ cI h0 h1 n1 a1 e1 l1 b1 t1 h2 n2 a2 e2 l2 b2 t2 h4 c4 h3 k3 o3 w3 v3 p3 e3 f3 q3 g5 (nI n) (nI (sp_lc n L)) L ab en lf bl tr (nI n) (nI r) mt (bs_i q1) (gf_T n L) ab2 en2 lf2 bl2 tr2 (nI n) (nI x) mt2 (bs_i q2) bo (bs_i q4) (nI 1) (nI n) ey ex (bs_i q) rc eg L so wi ew lo men le pi you910) := hD
    refine lv_istore (lv' := [(6, .int r21), (5, .int (nI 1)), (0, .ref b), (1, .ref h0), (2, .ref h3), (3, .ref g5), (4, .int (nI i))]) hx hb d_L_law_147 hl (by decide) rfl (fun ls hl => ?_)
    refine lv_aload_n hx hb d_L_law_149 rfl (lv_at hl 4 rfl) ?_
    have hPc := (la_M hP hD hS hA).1
    refine vp_callSi (va_Run.run (va_runV (C := "FlowNestModel") (b := h3) (As := []) (rest := []) ⟨hx, hb, hml, hown, hts⟩ (c_M_thrown l dC dI cJ cI h3 k3 o3 w3 v3 p3 e3 f3 q3 (nI 1) (nI n) ey ex (bs_i q) rc eg L so wi ew lo men le pi) (cwV 0 hts (nm_gV nm_460 nm_461 nm_462 nm_4 nm_c_M_thrown) rfl rfl rfl (by decide +kernel) ⟨Nat.le_of_ble_eq_true rfl, Nat.le_of_ble_eq_true rfl⟩) ⟨cw_blind, va_recv hK hPc (ci := 3) rfl (q0 := 0) rfl, cw_pre hPc hK hNw⟩ rfl rfl hl.1 rfl (lv_room (Nat.le_of_ble_eq_true rfl)) d_L_law_150 ⟨rm_c (by omega), rm_s (by omega)⟩)) (fun r29 hr30 => ?_)
    clear hPc
    subst hr30
    refine lv_iload hx hb d_L_law_153 (lv_at hl 1 rfl) ?_
    refine wl_ieq (tgt := 160) hx hb (by omega) (by omega) d_L_law_155 (by decide) (fun hc155 => ?_) (fun hc155 => ?_)
    · refine lv_iload hx hb d_L_law_160 (lv_at hl 1 rfl) ?_
      refine wl_ifnen (tgt := 177) hx hb (by omega) d_L_law_162 (by decide) (fun hc162 => ?_) (fun hc162 => ?_)
      · refine lv_goto (tgt := 1239) hx hb d_L_law_177 (by decide) ?_
        refine W.widen (k := cells + 2) (n := slots + 12) (by omega) (by omega) ?_
        exact back _ _ _ ⟨n, r, x, L, nI (sp_lc n L), gf_T n L, q1, q2, q4, ab, en, lf, bl, tr, mt, ab2, en2, lf2, bl2, tr2, mt2, bo, nI 1, ey, ex, q, rc, eg, so, wi, ew, lo, men, le, pi, you910, hn, hL, hI1, hI2, hI4, rfl, rfl, hz, hz0, hq, hP, hD⟩ hS (lv_sub hl [2, 3, 4, 5, 6] rfl)
      · exact absurd hc162 (by decide)
    · exact absurd rfl hc155
set_option maxHeartbeats 4000000 in
set_option maxRecDepth 100000 in
theorem law_1 {p : Program} {l : Launch} {e : Env} {s : State} {m : MethodId} {below : List Frame} {meth : Method} {c : Code} {b Ln : Nat} {xs : Nat → Int32} {A : Nat → Prop} {Q : State → Prop} {dC : Nat → ClassId} {dI : Nat → Nat → Nat} {cJ cI : ClassId} {h0 h1 n1 a1 e1 l1 b1 t1 h2 n2 a2 e2 l2 b2 t2 h4 c4 h3 k3 o3 w3 v3 p3 e3 f3 q3 g5 sa sb : Nat} (C9 : lw_C p l s m c b Ln xs A dC dI cJ cI sa sb) {cells slots i : Nat} (hi : i + 4 ≤ Ln) (hc9 : cells + 2 ≤ 1053) (hs9 : slots + 12 ≤ 9256) (back : ∀ (H : Heap) (locs : List Loc) (ls : Array Slot), lw_J A dC dI cJ cI h0 h1 n1 a1 e1 l1 b1 t1 h2 n2 a2 e2 l2 b2 t2 h4 c4 h3 k3 o3 w3 v3 p3 e3 f3 q3 g5 H → va_S A s.heap H locs → lv_has ls 8 [(0, .ref b), (1, .ref h0), (2, .ref h3), (3, .ref g5), (4, .int (nI i))] → W p l e room_1 s m #[Value.ref b] below meth c H locs (cells + 2) (slots + 12) Q (F0 m 1239 ls [])) {H : Heap} {locs : List Loc} {ls : Array Slot} (hJ : lw_J A dC dI cJ cI h0 h1 n1 a1 e1 l1 b1 t1 h2 n2 a2 e2 l2 b2 t2 h4 c4 h3 k3 o3 w3 v3 p3 e3 f3 q3 g5 H) (hS : va_S A s.heap H locs) (hl : lv_has ls 8 [(0, .ref b), (1, .ref h0), (2, .ref h3), (3, .ref g5), (4, .int (nI i))]) : W p l e room_1 s m #[Value.ref b] below meth c H locs cells slots Q (F0 m 180 ls []) := by
  obtain ⟨hx, hb, hml, hown, hts, hNw, hK, hX0, hA1, hl9, hscr, hbl, hLn⟩ := C9
  have hA : ∀ q : Nat, s.heap.size ≤ q → A q := fun q h => (hA1 q).mpr h
  have hbA : ¬ A b := fun z => absurd ((hA1 b).mp z) (by omega)
  obtain ⟨n, r, x, L, fc, M, q1, q2, q4, ab, en, lf, bl, tr, mt, ab2, en2, lf2, bl2, tr2, mt2, bo, cd, ey, ex, q, rc, eg, so, wi, ew, lo, men, le, pi, ou, hn, hL, hI1, hI2, hI4, hfc, hM, hz, hz0, hq, hP, hD⟩ := hJ
  subst hfc
  subst hM
  have hP : va_P (dC, dI) vwCl (la_ws cJ cI h0 h1 n1 a1 e1 l1 b1 t1 h2 n2 a2 e2 l2 b2 t2 h4 c4 h3 k3 o3 w3 v3 p3 e3 f3 q3 g5 (nI n) (nI (sp_lc n L)) L ab en lf bl tr (nI n) (nI r) mt (bs_i q1) (gf_T n L) ab2 en2 lf2 bl2 tr2 (nI n) (nI x) mt2 (bs_i q2) bo (bs_i q4) cd (nI n) ey ex (bs_i q) rc eg L so wi ew lo men le pi ou) H := hP
  have hD : va_D A (la_ws cJ cI h0 h1 n1 a1 e1 l1 b1 t1 h2 n2 a2 e2 l2 b2 t2 h4 c4 h3 k3 o3 w3 v3 p3 e3 f3 q3 g5 (nI n) (nI (sp_lc n L)) L ab en lf bl tr (nI n) (nI r) mt (bs_i q1) (gf_T n L) ab2 en2 lf2 bl2 tr2 (nI n) (nI x) mt2 (bs_i q2) bo (bs_i q4) cd (nI n) ey ex (bs_i q) rc eg L so wi ew lo men le pi ou) := hD
  refine lv_aload_n hx hb d_L_law_180 rfl (lv_at hl 1 rfl) ?_
  refine lv_aload_n hx hb d_L_law_181 rfl (lv_at hl 0 rfl) ?_
  refine lv_iload hx hb d_L_law_182 (lv_at hl 4 rfl) ?_
  refine lv_iconst (v := nI 1) hx hb d_L_law_184 (by decide) ?_
  refine wl_iaddn hx hb d_L_law_185 ?_
  refine wl_sld hx hb hscr hbl hbA hS (i := (i + 1)) (by omega) hLn d_L_law_186 ?_
  refine lv_aload_n hx hb d_L_law_187 rfl (lv_at hl 0 rfl) ?_
  refine lv_iload hx hb d_L_law_188 (lv_at hl 4 rfl) ?_
  refine lv_iconst (v := nI 2) hx hb d_L_law_190 (by decide) ?_
  refine wl_iaddn hx hb d_L_law_191 ?_
  refine wl_sld hx hb hscr hbl hbA hS (i := (i + 2)) (by omega) hLn d_L_law_192 ?_
  refine lv_aload_n hx hb d_L_law_193 rfl (lv_at hl 3 rfl) ?_
  obtain ⟨hPc, hDc, hFc⟩ := la_L hP hD hS hA
  have hX := tx_kept hX0 hS.1 (fun q hq9 => hS.2.1 q hq9 (fun z => absurd ((hA1 q).mp z) (by omega)))
  refine va_calli (vx_runSW (As := [.ref h0, .int (xs (i + 1)), .int (xs (i + 2)), .ref g5]) (rest := []) ⟨hx, hb, hml, hown, hts⟩ (c_L_link l hl9 dC dI cJ cI h0 h1 n1 a1 e1 l1 b1 t1 h2 n2 a2 e2 l2 b2 t2 h4 c4 g5 H.size sa sb ab en lf bl tr mt ab2 en2 lf2 bl2 tr2 mt2 bo ou n r x L q1 q2 q4 (xs (i + 1)) (xs (i + 2)) hn hL hI1 hI2 hI4) (vx_cwSW 4 hts (nm_gS nm_273 nm_274 nm_0 nm_c_L_link) rfl rfl rfl (by decide +kernel) ⟨Nat.le_of_ble_eq_true rfl, Nat.le_of_ble_eq_true rfl⟩) ⟨cw_blindT, cw_preT hPc hDc hK hNw hX⟩ rfl rfl hl.1 rfl (lv_room (Nat.le_of_ble_eq_true rfl)) d_L_law_194 ⟨rm_c (by omega), rm_s (by omega)⟩) hS (fun q _ h => hFc q h) hFc (fun r1 u9 t H1 locs ht hvm hw hB hz1 hk1 hS => ?_)
  obtain ⟨yL91, yM92, yc93, yp94, ys95, yw96, you97⟩ := u9
  obtain ⟨hP1, hD1⟩ := hB
  rw [ht] at hP1
  obtain ⟨hP, hD⟩ := la_jL hP hD hk1 hFc hP1 hD1
  clear hPc hDc hFc hX hP1 hD1 hk1 hz1 ht
  generalize H1 = H at hP hS ⊢
  rcases hw with ⟨hr1, k, j, hk_k, hk_j, hk_v, hk_w, f1, f2, f3, f4, f5, f6, hou⟩ | ⟨hr1, hval, f1, f2, f3, f4, f5, f6⟩
  · replace hr1 := hr1.symm
    subst hr1
    replace f2 := f2.symm
    subst f2
    replace f3 := f3.symm
    subst f3
    replace f4 := f4.symm
    subst f4
    replace f5 := f5.symm
    subst f5
    replace f6 := f6.symm
    subst f6
    have hval : (∃ k, k < n ∧ xs (i + 1) = nI k) ∧ ∃ j, j < n ∧ xs (i + 2) = nI j := ⟨⟨k, hk_k, hk_v⟩, j, hk_j, hk_w⟩
    have hz9 := hz (by omega)
    have hP : va_P (dC, dI) vwCl (la_ws cJ cI h0 h1 n1 a1 e1 l1 b1 t1 h2 n2 a2 e2 l2 b2 t2 h4 c4 h3 k3 o3 w3 v3 p3 e3 f3 q3 g5 (nI n) (nI (sp_lc n yL91)) yL91 ab en lf bl tr (nI n) (nI r) mt (bs_i true) (gf_T n yL91) ab2 en2 lf2 bl2 tr2 (nI n) (nI x) mt2 (bs_i true) bo (bs_i true) cd (nI n) ey ex (bs_i q) rc eg L so wi ew lo men le pi you97) H := hP
    have hD : va_D A (la_ws cJ cI h0 h1 n1 a1 e1 l1 b1 t1 h2 n2 a2 e2 l2 b2 t2 h4 c4 h3 k3 o3 w3 v3 p3 e3 f3 q3 g5 (nI n) (nI (sp_lc n yL91)) yL91 ab en lf bl tr (nI n) (nI r) mt (bs_i true) (gf_T n yL91) ab2 en2 lf2 bl2 tr2 (nI n) (nI x) mt2 (bs_i true) bo (bs_i true) cd (nI n) ey ex (bs_i q) rc eg L so wi ew lo men le pi you97) := hD
    refine lv_istore (lv' := [(5, .int (nI 0)), (0, .ref b), (1, .ref h0), (2, .ref h3), (3, .ref g5), (4, .int (nI i))]) hx hb d_L_law_197 hl (by decide) rfl (fun ls hl => ?_)
    refine lv_aload_n hx hb d_L_law_199 rfl (lv_at hl 3 rfl) ?_
    refine lv_aload_n hx hb d_L_law_200 rfl (lv_at hl 1 rfl) ?_
    refine lv_iload hx hb d_L_law_201 (lv_at hl 5 rfl) ?_
    refine lv_iconst (v := nI 1) hx hb d_L_law_203 (by decide) ?_
    refine wl_iaddn hx hb d_L_law_204 ?_
    refine wl_sld hx hb hscr hbl hbA hS (i := (i + 1)) (by omega) hLn d_L_law_205 ?_
    refine lv_aload_n hx hb d_L_law_206 rfl (lv_at hl 1 rfl) ?_
    refine lv_iload hx hb d_L_law_207 (lv_at hl 5 rfl) ?_
    refine lv_iconst (v := nI 2) hx hb d_L_law_209 (by decide) ?_
    refine wl_iaddn hx hb d_L_law_210 ?_
    refine wl_sld hx hb hscr hbl hbA hS (i := (i + 2)) (by omega) hLn d_L_law_211 ?_
    obtain ⟨hPc, hDc, hFc⟩ := la_M hP hD hS hA
    refine va_calli (va_runV (C := "FlowNestModel") (b := h3) (As := [.int (xs (i + 1)), .int (xs (i + 2))]) (rest := []) ⟨hx, hb, hml, hown, hts⟩ (c_M_link l dC dI cJ cI h3 k3 o3 w3 v3 p3 e3 f3 q3 H.size cd ey ex rc eg L so wi ew lo men le pi n q (xs (i + 1)) (xs (i + 2)) hn) (cwV 2 hts (nm_gV nm_468 nm_469 nm_470 nm_4 nm_c_M_link) rfl rfl rfl (by decide +kernel) ⟨Nat.le_of_ble_eq_true rfl, Nat.le_of_ble_eq_true rfl⟩) ⟨cw_blindM, va_recv hK hPc (ci := 3) rfl (q0 := 0) rfl, cw_preM hPc hDc hK hNw⟩ rfl rfl hl.1 rfl (lv_room (Nat.le_of_ble_eq_true rfl)) d_L_law_212 ⟨rm_c (by omega), rm_s (by omega)⟩) hS (fun q _ h => hFc q h) hFc (fun r8 u9 t H1 locs ht hvm hw9 hB hz1 hk1 hS => ?_)
    obtain ⟨zb10, zk11, zli12⟩ := u9
    obtain ⟨hP1, hD1⟩ := hB
    rw [ht] at hP1
    obtain ⟨hP, hD⟩ := la_jM hP hD hk1 hFc hP1 hD1
    clear hPc hDc hFc hP1 hD1 hk1 hz1 ht
    generalize H1 = H at hP hS ⊢
    obtain ⟨hv2, hn2, ha2⟩ := hw9
    have hzb : zb10 = true := hv2.mpr hval
    replace hzb := hzb.symm
    subst hzb
    obtain ⟨k2, j2, m1, m2, m3, m4, m5, m6, m7⟩ := ha2 rfl
    have ek := nI_i (by omega) (by omega) (hk_v.symm.trans m3)
    have ej := nI_i (by omega) (by omega) (hk_w.symm.trans m4)
    subst ek
    subst ej
    replace m6 := f1.trans m6.symm
    subst m6
    replace m5 := m5.symm
    subst m5
    replace m7 := m7.symm
    subst m7
    have hP : va_P (dC, dI) vwCl (la_ws cJ cI h0 h1 n1 a1 e1 l1 b1 t1 h2 n2 a2 e2 l2 b2 t2 h4 c4 h3 k3 o3 w3 v3 p3 e3 f3 q3 g5 (nI n) (nI (sp_lc n yL91)) yL91 ab en lf bl tr (nI n) (nI r) mt (bs_i true) (gf_T n yL91) ab2 en2 lf2 bl2 tr2 (nI n) (nI x) mt2 (bs_i true) bo (bs_i true) (nI 0) (nI n) ey ex (bs_i false) rc eg yL91 so wi ew lo men le pi you97) H := hP
    have hD : va_D A (la_ws cJ cI h0 h1 n1 a1 e1 l1 b1 t1 h2 n2 a2 e2 l2 b2 t2 h4 c4 h3 k3 o3 w3 v3 p3 e3 f3 q3 g5 (nI n) (nI (sp_lc n yL91)) yL91 ab en lf bl tr (nI n) (nI r) mt (bs_i true) (gf_T n yL91) ab2 en2 lf2 bl2 tr2 (nI n) (nI x) mt2 (bs_i true) bo (bs_i true) (nI 0) (nI n) ey ex (bs_i false) rc eg yL91 so wi ew lo men le pi you97) := hD
    refine lv_istore (lv' := [(6, .int (bs_i (!bs_t (L k) j))), (5, .int (nI 0)), (0, .ref b), (1, .ref h0), (2, .ref h3), (3, .ref g5), (4, .int (nI i))]) hx hb d_L_law_215 hl (by decide) rfl (fun ls hl => ?_)
    refine lv_aload_n hx hb d_L_law_217 rfl (lv_at hl 4 rfl) ?_
    have hPc := (la_M hP hD hS hA).1
    refine vp_callSi (va_Run.run (va_runV (C := "FlowNestModel") (b := h3) (As := []) (rest := []) ⟨hx, hb, hml, hown, hts⟩ (c_M_thrown l dC dI cJ cI h3 k3 o3 w3 v3 p3 e3 f3 q3 (nI 0) (nI n) ey ex (bs_i false) rc eg yL91 so wi ew lo men le pi) (cwV 0 hts (nm_gV nm_460 nm_461 nm_462 nm_4 nm_c_M_thrown) rfl rfl rfl (by decide +kernel) ⟨Nat.le_of_ble_eq_true rfl, Nat.le_of_ble_eq_true rfl⟩) ⟨cw_blind, va_recv hK hPc (ci := 3) rfl (q0 := 0) rfl, cw_pre hPc hK hNw⟩ rfl rfl hl.1 rfl (lv_room (Nat.le_of_ble_eq_true rfl)) d_L_law_218 ⟨rm_c (by omega), rm_s (by omega)⟩)) (fun r13 hr14 => ?_)
    clear hPc
    subst hr14
    refine lv_iload hx hb d_L_law_221 (lv_at hl 1 rfl) ?_
    refine wl_ieq (tgt := 228) hx hb (by omega) (by omega) d_L_law_223 (by decide) (fun hc223 => ?_) (fun hc223 => ?_)
    · refine lv_iload hx hb d_L_law_228 (lv_at hl 1 rfl) ?_
      refine wl_ifnen (tgt := 245) hx hb (by omega) d_L_law_230 (by decide) (fun hc230 => ?_) (fun hc230 => ?_)
      · exact absurd hc230 (by decide)
      · refine lv_aload_n hx hb d_L_law_233 rfl (lv_at hl 5 rfl) ?_
        refine lv_iconst (v := nI 0) hx hb d_L_law_234 (by decide) ?_
        refine wl_lald (i := 0) hx hb hK hP 26 0 rfl rfl (by omega) (by decide) d_L_law_235 ?_
        refine lv_iload hx hb d_L_law_236 (lv_at hl 0 rfl) ?_
        refine lv_i2l (v := (bs_i (!bs_t (L k) j)).toInt64) hx hb d_L_law_238 rfl ?_
        refine wl_lcmpeq (tgt := 245) hx hb d_L_law_239 d_L_law_240 (by decide) (fun hc239 => ?_) (fun hc239 => ?_)
        · refine lv_goto (tgt := 1239) hx hb d_L_law_245 (by decide) ?_
          refine W.widen (k := cells + 2) (n := slots + 12) (by omega) (by omega) ?_
          exact back _ _ _ ⟨n, r, x, yL91, nI (sp_lc n yL91), gf_T n yL91, true, true, true, ab, en, lf, bl, tr, mt, ab2, en2, lf2, bl2, tr2, mt2, bo, nI 0, ey, ex, false, rc, eg, so, wi, ew, lo, men, le, pi, you97, hn, (by rw [f1]; exact gf_L_tog hL hk_j (by omega)), (fv_S_t hz9.2.2.1), (fv_S_t hz9.2.2.2), (fv_N_t (by omega)), rfl, rfl, hz, hz0, (fun z => absurd z (by decide)), hP, hD⟩ hS (lv_sub hl [2, 3, 4, 5, 6] rfl)
        · exact absurd (hou) hc239
    · exact absurd rfl hc223
  · replace hr1 := hr1.symm
    subst hr1
    replace f1 := f1.symm
    subst f1
    replace f2 := f2.symm
    subst f2
    replace f3 := f3.symm
    subst f3
    replace f4 := f4.symm
    subst f4
    replace f5 := f5.symm
    subst f5
    replace f6 := f6.symm
    subst f6
    have hP : va_P (dC, dI) vwCl (la_ws cJ cI h0 h1 n1 a1 e1 l1 b1 t1 h2 n2 a2 e2 l2 b2 t2 h4 c4 h3 k3 o3 w3 v3 p3 e3 f3 q3 g5 (nI n) (nI (sp_lc n L)) L ab en lf bl tr (nI n) (nI r) mt (bs_i q1) (gf_T n L) ab2 en2 lf2 bl2 tr2 (nI n) (nI x) mt2 (bs_i q2) bo (bs_i q4) cd (nI n) ey ex (bs_i q) rc eg L so wi ew lo men le pi you97) H := hP
    have hD : va_D A (la_ws cJ cI h0 h1 n1 a1 e1 l1 b1 t1 h2 n2 a2 e2 l2 b2 t2 h4 c4 h3 k3 o3 w3 v3 p3 e3 f3 q3 g5 (nI n) (nI (sp_lc n L)) L ab en lf bl tr (nI n) (nI r) mt (bs_i q1) (gf_T n L) ab2 en2 lf2 bl2 tr2 (nI n) (nI x) mt2 (bs_i q2) bo (bs_i q4) cd (nI n) ey ex (bs_i q) rc eg L so wi ew lo men le pi you97) := hD
    refine lv_istore (lv' := [(5, .int (nI 1)), (0, .ref b), (1, .ref h0), (2, .ref h3), (3, .ref g5), (4, .int (nI i))]) hx hb d_L_law_197 hl (by decide) rfl (fun ls hl => ?_)
    refine lv_aload_n hx hb d_L_law_199 rfl (lv_at hl 3 rfl) ?_
    refine lv_aload_n hx hb d_L_law_200 rfl (lv_at hl 1 rfl) ?_
    refine lv_iload hx hb d_L_law_201 (lv_at hl 5 rfl) ?_
    refine lv_iconst (v := nI 1) hx hb d_L_law_203 (by decide) ?_
    refine wl_iaddn hx hb d_L_law_204 ?_
    refine wl_sld hx hb hscr hbl hbA hS (i := (i + 1)) (by omega) hLn d_L_law_205 ?_
    refine lv_aload_n hx hb d_L_law_206 rfl (lv_at hl 1 rfl) ?_
    refine lv_iload hx hb d_L_law_207 (lv_at hl 5 rfl) ?_
    refine lv_iconst (v := nI 2) hx hb d_L_law_209 (by decide) ?_
    refine wl_iaddn hx hb d_L_law_210 ?_
    refine wl_sld hx hb hscr hbl hbA hS (i := (i + 2)) (by omega) hLn d_L_law_211 ?_
    obtain ⟨hPc, hDc, hFc⟩ := la_M hP hD hS hA
    refine va_calli (va_runV (C := "FlowNestModel") (b := h3) (As := [.int (xs (i + 1)), .int (xs (i + 2))]) (rest := []) ⟨hx, hb, hml, hown, hts⟩ (c_M_link l dC dI cJ cI h3 k3 o3 w3 v3 p3 e3 f3 q3 H.size cd ey ex rc eg L so wi ew lo men le pi n q (xs (i + 1)) (xs (i + 2)) hn) (cwV 2 hts (nm_gV nm_468 nm_469 nm_470 nm_4 nm_c_M_link) rfl rfl rfl (by decide +kernel) ⟨Nat.le_of_ble_eq_true rfl, Nat.le_of_ble_eq_true rfl⟩) ⟨cw_blindM, va_recv hK hPc (ci := 3) rfl (q0 := 0) rfl, cw_preM hPc hDc hK hNw⟩ rfl rfl hl.1 rfl (lv_room (Nat.le_of_ble_eq_true rfl)) d_L_law_212 ⟨rm_c (by omega), rm_s (by omega)⟩) hS (fun q _ h => hFc q h) hFc (fun r15 u9 t H1 locs ht hvm hw16 hB hz1 hk1 hS => ?_)
    obtain ⟨zb17, zk18, zli19⟩ := u9
    obtain ⟨hP1, hD1⟩ := hB
    rw [ht] at hP1
    obtain ⟨hP, hD⟩ := la_jM hP hD hk1 hFc hP1 hD1
    clear hPc hDc hFc hP1 hD1 hk1 hz1 ht
    generalize H1 = H at hP hS ⊢
    obtain ⟨hv2, hn2, ha2⟩ := hw16
    have hzb : zb17 = false := Bool.eq_false_iff.mpr (fun z => hval (hv2.mp z))
    replace hzb := hzb.symm
    subst hzb
    obtain ⟨m5, m6⟩ := hn2 rfl
    replace m5 := m5.symm
    subst m5
    replace m6 := m6.symm
    subst m6
    have hP : va_P (dC, dI) vwCl (la_ws cJ cI h0 h1 n1 a1 e1 l1 b1 t1 h2 n2 a2 e2 l2 b2 t2 h4 c4 h3 k3 o3 w3 v3 p3 e3 f3 q3 g5 (nI n) (nI (sp_lc n L)) L ab en lf bl tr (nI n) (nI r) mt (bs_i q1) (gf_T n L) ab2 en2 lf2 bl2 tr2 (nI n) (nI x) mt2 (bs_i q2) bo (bs_i q4) (nI 1) (nI n) ey ex (bs_i q) rc eg L so wi ew lo men le pi you97) H := hP
    have hD : va_D A (la_ws cJ cI h0 h1 n1 a1 e1 l1 b1 t1 h2 n2 a2 e2 l2 b2 t2 h4 c4 h3 k3 o3 w3 v3 p3 e3 f3 q3 g5 (nI n) (nI (sp_lc n L)) L ab en lf bl tr (nI n) (nI r) mt (bs_i q1) (gf_T n L) ab2 en2 lf2 bl2 tr2 (nI n) (nI x) mt2 (bs_i q2) bo (bs_i q4) (nI 1) (nI n) ey ex (bs_i q) rc eg L so wi ew lo men le pi you97) := hD
    refine lv_istore (lv' := [(6, .int r15), (5, .int (nI 1)), (0, .ref b), (1, .ref h0), (2, .ref h3), (3, .ref g5), (4, .int (nI i))]) hx hb d_L_law_215 hl (by decide) rfl (fun ls hl => ?_)
    refine lv_aload_n hx hb d_L_law_217 rfl (lv_at hl 4 rfl) ?_
    have hPc := (la_M hP hD hS hA).1
    refine vp_callSi (va_Run.run (va_runV (C := "FlowNestModel") (b := h3) (As := []) (rest := []) ⟨hx, hb, hml, hown, hts⟩ (c_M_thrown l dC dI cJ cI h3 k3 o3 w3 v3 p3 e3 f3 q3 (nI 1) (nI n) ey ex (bs_i q) rc eg L so wi ew lo men le pi) (cwV 0 hts (nm_gV nm_460 nm_461 nm_462 nm_4 nm_c_M_thrown) rfl rfl rfl (by decide +kernel) ⟨Nat.le_of_ble_eq_true rfl, Nat.le_of_ble_eq_true rfl⟩) ⟨cw_blind, va_recv hK hPc (ci := 3) rfl (q0 := 0) rfl, cw_pre hPc hK hNw⟩ rfl rfl hl.1 rfl (lv_room (Nat.le_of_ble_eq_true rfl)) d_L_law_218 ⟨rm_c (by omega), rm_s (by omega)⟩)) (fun r20 hr21 => ?_)
    clear hPc
    subst hr21
    refine lv_iload hx hb d_L_law_221 (lv_at hl 1 rfl) ?_
    refine wl_ieq (tgt := 228) hx hb (by omega) (by omega) d_L_law_223 (by decide) (fun hc223 => ?_) (fun hc223 => ?_)
    · refine lv_iload hx hb d_L_law_228 (lv_at hl 1 rfl) ?_
      refine wl_ifnen (tgt := 245) hx hb (by omega) d_L_law_230 (by decide) (fun hc230 => ?_) (fun hc230 => ?_)
      · refine lv_goto (tgt := 1239) hx hb d_L_law_245 (by decide) ?_
        refine W.widen (k := cells + 2) (n := slots + 12) (by omega) (by omega) ?_
        exact back _ _ _ ⟨n, r, x, L, nI (sp_lc n L), gf_T n L, q1, q2, q4, ab, en, lf, bl, tr, mt, ab2, en2, lf2, bl2, tr2, mt2, bo, nI 1, ey, ex, q, rc, eg, so, wi, ew, lo, men, le, pi, you97, hn, hL, hI1, hI2, hI4, rfl, rfl, hz, hz0, hq, hP, hD⟩ hS (lv_sub hl [2, 3, 4, 5, 6] rfl)
      · exact absurd hc230 (by decide)
    · exact absurd rfl hc223
set_option maxHeartbeats 4000000 in
set_option maxRecDepth 100000 in
theorem law_2 {p : Program} {l : Launch} {e : Env} {s : State} {m : MethodId} {below : List Frame} {meth : Method} {c : Code} {b Ln : Nat} {xs : Nat → Int32} {A : Nat → Prop} {Q : State → Prop} {dC : Nat → ClassId} {dI : Nat → Nat → Nat} {cJ cI : ClassId} {h0 h1 n1 a1 e1 l1 b1 t1 h2 n2 a2 e2 l2 b2 t2 h4 c4 h3 k3 o3 w3 v3 p3 e3 f3 q3 g5 sa sb : Nat} (C9 : lw_C p l s m c b Ln xs A dC dI cJ cI sa sb) {cells slots i : Nat} (hi : i + 4 ≤ Ln) (hc9 : cells + 2 ≤ 1053) (hs9 : slots + 12 ≤ 9256) (back : ∀ (H : Heap) (locs : List Loc) (ls : Array Slot), lw_J A dC dI cJ cI h0 h1 n1 a1 e1 l1 b1 t1 h2 n2 a2 e2 l2 b2 t2 h4 c4 h3 k3 o3 w3 v3 p3 e3 f3 q3 g5 H → va_S A s.heap H locs → lv_has ls 8 [(0, .ref b), (1, .ref h0), (2, .ref h3), (3, .ref g5), (4, .int (nI i))] → W p l e room_1 s m #[Value.ref b] below meth c H locs (cells + 2) (slots + 12) Q (F0 m 1239 ls [])) {H : Heap} {locs : List Loc} {ls : Array Slot} (hJ : lw_J A dC dI cJ cI h0 h1 n1 a1 e1 l1 b1 t1 h2 n2 a2 e2 l2 b2 t2 h4 c4 h3 k3 o3 w3 v3 p3 e3 f3 q3 g5 H) (hS : va_S A s.heap H locs) (hl : lv_has ls 8 [(0, .ref b), (1, .ref h0), (2, .ref h3), (3, .ref g5), (4, .int (nI i))]) : W p l e room_1 s m #[Value.ref b] below meth c H locs cells slots Q (F0 m 248 ls []) := by
  obtain ⟨hx, hb, hml, hown, hts, hNw, hK, hX0, hA1, hl9, hscr, hbl, hLn⟩ := C9
  have hA : ∀ q : Nat, s.heap.size ≤ q → A q := fun q h => (hA1 q).mpr h
  have hbA : ¬ A b := fun z => absurd ((hA1 b).mp z) (by omega)
  obtain ⟨n, r, x, L, fc, M, q1, q2, q4, ab, en, lf, bl, tr, mt, ab2, en2, lf2, bl2, tr2, mt2, bo, cd, ey, ex, q, rc, eg, so, wi, ew, lo, men, le, pi, ou, hn, hL, hI1, hI2, hI4, hfc, hM, hz, hz0, hq, hP, hD⟩ := hJ
  subst hfc
  subst hM
  have hP : va_P (dC, dI) vwCl (la_ws cJ cI h0 h1 n1 a1 e1 l1 b1 t1 h2 n2 a2 e2 l2 b2 t2 h4 c4 h3 k3 o3 w3 v3 p3 e3 f3 q3 g5 (nI n) (nI (sp_lc n L)) L ab en lf bl tr (nI n) (nI r) mt (bs_i q1) (gf_T n L) ab2 en2 lf2 bl2 tr2 (nI n) (nI x) mt2 (bs_i q2) bo (bs_i q4) cd (nI n) ey ex (bs_i q) rc eg L so wi ew lo men le pi ou) H := hP
  have hD : va_D A (la_ws cJ cI h0 h1 n1 a1 e1 l1 b1 t1 h2 n2 a2 e2 l2 b2 t2 h4 c4 h3 k3 o3 w3 v3 p3 e3 f3 q3 g5 (nI n) (nI (sp_lc n L)) L ab en lf bl tr (nI n) (nI r) mt (bs_i q1) (gf_T n L) ab2 en2 lf2 bl2 tr2 (nI n) (nI x) mt2 (bs_i q2) bo (bs_i q4) cd (nI n) ey ex (bs_i q) rc eg L so wi ew lo men le pi ou) := hD
  refine lv_aload_n hx hb d_L_law_248 rfl (lv_at hl 1 rfl) ?_
  refine lv_aload_n hx hb d_L_law_249 rfl (lv_at hl 0 rfl) ?_
  refine lv_iload hx hb d_L_law_250 (lv_at hl 4 rfl) ?_
  refine lv_iconst (v := nI 1) hx hb d_L_law_252 (by decide) ?_
  refine wl_iaddn hx hb d_L_law_253 ?_
  refine wl_sld hx hb hscr hbl hbA hS (i := (i + 1)) (by omega) hLn d_L_law_254 ?_
  refine lv_aload_n hx hb d_L_law_255 rfl (lv_at hl 0 rfl) ?_
  refine lv_iload hx hb d_L_law_256 (lv_at hl 4 rfl) ?_
  refine lv_iconst (v := nI 2) hx hb d_L_law_258 (by decide) ?_
  refine wl_iaddn hx hb d_L_law_259 ?_
  refine wl_sld hx hb hscr hbl hbA hS (i := (i + 2)) (by omega) hLn d_L_law_260 ?_
  refine lv_if_eq (tgt := 268) hx hb d_L_law_261 (by decide) (fun hc261 => ?_) (fun hc261 => ?_)
  · refine lv_iconst (v := nI 0) hx hb d_L_law_268 (by decide) ?_
    refine lv_aload_n hx hb d_L_law_269 rfl (lv_at hl 3 rfl) ?_
    refine W.eq (g2 := F0 m 270 ls [.ref g5, .int (bs_i false), .int (xs (i + 1)), .ref h0]) rfl ?_
    obtain ⟨hPc, hDc, hFc⟩ := la_L hP hD hS hA
    have hX := tx_kept hX0 hS.1 (fun q hq9 => hS.2.1 q hq9 (fun z => absurd ((hA1 q).mp z) (by omega)))
    refine va_calli (vx_runSW (As := [.ref h0, .int (xs (i + 1)), .int (bs_i false), .ref g5]) (rest := []) ⟨hx, hb, hml, hown, hts⟩ (c_L_place l hl9 dC dI cJ cI h0 h1 n1 a1 e1 l1 b1 t1 h2 n2 a2 e2 l2 b2 t2 h4 c4 g5 H.size sa sb ab en lf bl tr mt ab2 en2 lf2 bl2 tr2 mt2 bo ou n r x L q1 q2 q4 (xs (i + 1)) false hn hL hI1 hI2 hI4) (vx_cwSW 4 hts (nm_gS nm_306 nm_307 nm_0 nm_c_L_place) rfl rfl rfl (by decide +kernel) ⟨Nat.le_of_ble_eq_true rfl, Nat.le_of_ble_eq_true rfl⟩) ⟨cw_blindT, cw_preT hPc hDc hK hNw hX⟩ rfl rfl hl.1 rfl (lv_room (Nat.le_of_ble_eq_true rfl)) d_L_law_270 ⟨rm_c (by omega), rm_s (by omega)⟩) hS (fun q _ h => hFc q h) hFc (fun r1 u9 t H1 locs ht hvm hw hB hz1 hk1 hS => ?_)
    obtain ⟨yy91, yx92, yp93, ys94, yw95, you96⟩ := u9
    obtain ⟨hP1, hD1⟩ := hB
    rw [ht] at hP1
    obtain ⟨hP, hD⟩ := la_jL hP hD hk1 hFc hP1 hD1
    clear hPc hDc hFc hX hP1 hD1 hk1 hz1 ht
    generalize H1 = H at hP hS ⊢
    rcases hw with ⟨hr1, k, hk_k, hk_v, f1, f2, f3, f4, f5, hou⟩ | ⟨hr1, hval, f1, f2, f3, f4, f5⟩
    · replace hr1 := hr1.symm
      subst hr1
      replace f1 : yy91 = nI k := f1
      replace f2 : yx92 = nI x := f2
      replace f3 : yp93 = true := f3
      replace f4 : ys94 = q2 := f4
      replace hou : you96 0 = (nI r).toInt64 := hou
      replace f1 := f1.symm
      subst f1
      replace f2 := f2.symm
      subst f2
      replace f3 := f3.symm
      subst f3
      replace f4 := f4.symm
      subst f4
      replace f5 := f5.symm
      subst f5
      have hval : ∃ k, k < n ∧ xs (i + 1) = nI k := ⟨k, hk_k, hk_v⟩
      have hz9 := hz (by omega)
      have hP : va_P (dC, dI) vwCl (la_ws cJ cI h0 h1 n1 a1 e1 l1 b1 t1 h2 n2 a2 e2 l2 b2 t2 h4 c4 h3 k3 o3 w3 v3 p3 e3 f3 q3 g5 (nI n) (nI (sp_lc n L)) L ab en lf bl tr (nI n) (nI k) mt (bs_i true) (gf_T n L) ab2 en2 lf2 bl2 tr2 (nI n) (nI x) mt2 (bs_i q2) bo (bs_i true) cd (nI n) ey ex (bs_i q) rc eg L so wi ew lo men le pi you96) H := hP
      have hD : va_D A (la_ws cJ cI h0 h1 n1 a1 e1 l1 b1 t1 h2 n2 a2 e2 l2 b2 t2 h4 c4 h3 k3 o3 w3 v3 p3 e3 f3 q3 g5 (nI n) (nI (sp_lc n L)) L ab en lf bl tr (nI n) (nI k) mt (bs_i true) (gf_T n L) ab2 en2 lf2 bl2 tr2 (nI n) (nI x) mt2 (bs_i q2) bo (bs_i true) cd (nI n) ey ex (bs_i q) rc eg L so wi ew lo men le pi you96) := hD
      refine lv_istore (lv' := [(5, .int (nI 0)), (0, .ref b), (1, .ref h0), (2, .ref h3), (3, .ref g5), (4, .int (nI i))]) hx hb d_L_law_273 hl (by decide) rfl (fun ls hl => ?_)
      refine lv_aload_n hx hb d_L_law_275 rfl (lv_at hl 3 rfl) ?_
      refine lv_aload_n hx hb d_L_law_276 rfl (lv_at hl 1 rfl) ?_
      refine lv_iload hx hb d_L_law_277 (lv_at hl 5 rfl) ?_
      refine lv_iconst (v := nI 1) hx hb d_L_law_279 (by decide) ?_
      refine wl_iaddn hx hb d_L_law_280 ?_
      refine wl_sld hx hb hscr hbl hbA hS (i := (i + 1)) (by omega) hLn d_L_law_281 ?_
      refine lv_aload_n hx hb d_L_law_282 rfl (lv_at hl 1 rfl) ?_
      refine lv_iload hx hb d_L_law_283 (lv_at hl 5 rfl) ?_
      refine lv_iconst (v := nI 2) hx hb d_L_law_285 (by decide) ?_
      refine wl_iaddn hx hb d_L_law_286 ?_
      refine wl_sld hx hb hscr hbl hbA hS (i := (i + 2)) (by omega) hLn d_L_law_287 ?_
      refine lv_if_eq (tgt := 295) hx hb d_L_law_288 (by decide) (fun hc288 => ?_) (fun hc288 => ?_)
      · refine lv_iconst (v := nI 0) hx hb d_L_law_295 (by decide) ?_
        refine W.eq (g2 := F0 m 296 ls [.int (bs_i false), .int (xs (i + 1)), .ref h3]) rfl ?_
        obtain ⟨hPc, hDc, hFc⟩ := la_M hP hD hS hA
        refine va_calli (va_runV (C := "FlowNestModel") (b := h3) (As := [.int (xs (i + 1)), .int (bs_i false)]) (rest := []) ⟨hx, hb, hml, hown, hts⟩ (c_M_place l dC dI cJ cI h3 k3 o3 w3 v3 p3 e3 f3 q3 H.size cd ey ex rc eg L so wi ew lo men le pi n q (xs (i + 1)) false hn) (cwV 2 hts (nm_gV nm_480 nm_481 nm_482 nm_4 nm_c_M_place) rfl rfl rfl (by decide +kernel) ⟨Nat.le_of_ble_eq_true rfl, Nat.le_of_ble_eq_true rfl⟩) ⟨cw_blindM, va_recv hK hPc (ci := 3) rfl (q0 := 0) rfl, cw_preM hPc hDc hK hNw⟩ rfl rfl hl.1 rfl (lv_room (Nat.le_of_ble_eq_true rfl)) d_L_law_296 ⟨rm_c (by omega), rm_s (by omega)⟩) hS (fun q _ h => hFc q h) hFc (fun r7 u9 t H1 locs ht hvm hw8 hB hz1 hk1 hS => ?_)
        obtain ⟨zb9, zk10, zey11, zex12⟩ := u9
        obtain ⟨hP1, hD1⟩ := hB
        rw [ht] at hP1
        obtain ⟨hP, hD⟩ := la_jM hP hD hk1 hFc hP1 hD1
        clear hPc hDc hFc hP1 hD1 hk1 hz1 ht
        generalize H1 = H at hP hS ⊢
        obtain ⟨hv2, hn2, ha2⟩ := hw8
        have hzb : zb9 = true := hv2.mpr hval
        replace hzb := hzb.symm
        subst hzb
        obtain ⟨k2, m1, m2, m3, m4, m5, m6⟩ := ha2 rfl
        have ek := nI_i (by omega) (by omega) (hk_v.symm.trans m2)
        subst ek
        replace m4 : zey11 = nI k := m4
        replace m5 : zex12 = ex := m5
        replace m6 : r7 = ey := m6
        replace m3 := m3.symm
        subst m3
        replace m4 := m4.symm
        subst m4
        replace m5 := m5.symm
        subst m5
        replace m6 := m6.symm
        subst m6
        have hP : va_P (dC, dI) vwCl (la_ws cJ cI h0 h1 n1 a1 e1 l1 b1 t1 h2 n2 a2 e2 l2 b2 t2 h4 c4 h3 k3 o3 w3 v3 p3 e3 f3 q3 g5 (nI n) (nI (sp_lc n L)) L ab en lf bl tr (nI n) (nI k) mt (bs_i true) (gf_T n L) ab2 en2 lf2 bl2 tr2 (nI n) (nI x) mt2 (bs_i q2) bo (bs_i true) (nI 0) (nI n) (nI k) ex (bs_i false) rc eg L so wi ew lo men le pi you96) H := hP
        have hD : va_D A (la_ws cJ cI h0 h1 n1 a1 e1 l1 b1 t1 h2 n2 a2 e2 l2 b2 t2 h4 c4 h3 k3 o3 w3 v3 p3 e3 f3 q3 g5 (nI n) (nI (sp_lc n L)) L ab en lf bl tr (nI n) (nI k) mt (bs_i true) (gf_T n L) ab2 en2 lf2 bl2 tr2 (nI n) (nI x) mt2 (bs_i q2) bo (bs_i true) (nI 0) (nI n) (nI k) ex (bs_i false) rc eg L so wi ew lo men le pi you96) := hD
        refine lv_istore (lv' := [(6, .int ey), (5, .int (nI 0)), (0, .ref b), (1, .ref h0), (2, .ref h3), (3, .ref g5), (4, .int (nI i))]) hx hb d_L_law_299 hl (by decide) rfl (fun ls hl => ?_)
        refine lv_aload_n hx hb d_L_law_301 rfl (lv_at hl 4 rfl) ?_
        have hPc := (la_M hP hD hS hA).1
        refine vp_callSi (va_Run.run (va_runV (C := "FlowNestModel") (b := h3) (As := []) (rest := []) ⟨hx, hb, hml, hown, hts⟩ (c_M_thrown l dC dI cJ cI h3 k3 o3 w3 v3 p3 e3 f3 q3 (nI 0) (nI n) (nI k) ex (bs_i false) rc eg L so wi ew lo men le pi) (cwV 0 hts (nm_gV nm_460 nm_461 nm_462 nm_4 nm_c_M_thrown) rfl rfl rfl (by decide +kernel) ⟨Nat.le_of_ble_eq_true rfl, Nat.le_of_ble_eq_true rfl⟩) ⟨cw_blind, va_recv hK hPc (ci := 3) rfl (q0 := 0) rfl, cw_pre hPc hK hNw⟩ rfl rfl hl.1 rfl (lv_room (Nat.le_of_ble_eq_true rfl)) d_L_law_302 ⟨rm_c (by omega), rm_s (by omega)⟩)) (fun r13 hr14 => ?_)
        clear hPc
        subst hr14
        refine lv_iload hx hb d_L_law_305 (lv_at hl 1 rfl) ?_
        refine wl_ieq (tgt := 312) hx hb (by omega) (by omega) d_L_law_307 (by decide) (fun hc307 => ?_) (fun hc307 => ?_)
        · refine lv_iload hx hb d_L_law_312 (lv_at hl 1 rfl) ?_
          refine wl_ifnen (tgt := 329) hx hb (by omega) d_L_law_314 (by decide) (fun hc314 => ?_) (fun hc314 => ?_)
          · exact absurd hc314 (by decide)
          · refine lv_aload_n hx hb d_L_law_317 rfl (lv_at hl 5 rfl) ?_
            refine lv_iconst (v := nI 0) hx hb d_L_law_318 (by decide) ?_
            refine wl_lald (i := 0) hx hb hK hP 26 0 rfl rfl (by omega) (by decide) d_L_law_319 ?_
            refine lv_iload hx hb d_L_law_320 (lv_at hl 0 rfl) ?_
            refine lv_i2l (v := ey.toInt64) hx hb d_L_law_322 rfl ?_
            refine wl_lcmpeq (tgt := 329) hx hb d_L_law_323 d_L_law_324 (by decide) (fun hc323 => ?_) (fun hc323 => ?_)
            · refine lv_goto (tgt := 1239) hx hb d_L_law_329 (by decide) ?_
              refine W.widen (k := cells + 2) (n := slots + 12) (by omega) (by omega) ?_
              exact back _ _ _ ⟨n, k, x, L, nI (sp_lc n L), gf_T n L, true, q2, true, ab, en, lf, bl, tr, mt, ab2, en2, lf2, bl2, tr2, mt2, bo, nI 0, nI k, ex, false, rc, eg, so, wi, ew, lo, men, le, pi, you96, hn, hL, (fv_S_t hk_k), hI2, (fv_N_t (by omega)), rfl, rfl, (fun _ => ⟨rfl, hz9.2.1, hk_k, hz9.2.2.2⟩), (fun z => absurd z (by omega)), (fun z => absurd z (by decide)), hP, hD⟩ hS (lv_sub hl [2, 3, 4, 5, 6] rfl)
            · exact absurd (by rw [hz9.1]; exact hou) hc323
        · exact absurd rfl hc307
      · exact absurd hc261 hc288
    · replace hr1 := hr1.symm
      subst hr1
      replace f1 := f1.symm
      subst f1
      replace f2 := f2.symm
      subst f2
      replace f3 := f3.symm
      subst f3
      replace f4 := f4.symm
      subst f4
      replace f5 := f5.symm
      subst f5
      have hP : va_P (dC, dI) vwCl (la_ws cJ cI h0 h1 n1 a1 e1 l1 b1 t1 h2 n2 a2 e2 l2 b2 t2 h4 c4 h3 k3 o3 w3 v3 p3 e3 f3 q3 g5 (nI n) (nI (sp_lc n L)) L ab en lf bl tr (nI n) (nI r) mt (bs_i q1) (gf_T n L) ab2 en2 lf2 bl2 tr2 (nI n) (nI x) mt2 (bs_i q2) bo (bs_i q4) cd (nI n) ey ex (bs_i q) rc eg L so wi ew lo men le pi you96) H := hP
      have hD : va_D A (la_ws cJ cI h0 h1 n1 a1 e1 l1 b1 t1 h2 n2 a2 e2 l2 b2 t2 h4 c4 h3 k3 o3 w3 v3 p3 e3 f3 q3 g5 (nI n) (nI (sp_lc n L)) L ab en lf bl tr (nI n) (nI r) mt (bs_i q1) (gf_T n L) ab2 en2 lf2 bl2 tr2 (nI n) (nI x) mt2 (bs_i q2) bo (bs_i q4) cd (nI n) ey ex (bs_i q) rc eg L so wi ew lo men le pi you96) := hD
      refine lv_istore (lv' := [(5, .int (nI 1)), (0, .ref b), (1, .ref h0), (2, .ref h3), (3, .ref g5), (4, .int (nI i))]) hx hb d_L_law_273 hl (by decide) rfl (fun ls hl => ?_)
      refine lv_aload_n hx hb d_L_law_275 rfl (lv_at hl 3 rfl) ?_
      refine lv_aload_n hx hb d_L_law_276 rfl (lv_at hl 1 rfl) ?_
      refine lv_iload hx hb d_L_law_277 (lv_at hl 5 rfl) ?_
      refine lv_iconst (v := nI 1) hx hb d_L_law_279 (by decide) ?_
      refine wl_iaddn hx hb d_L_law_280 ?_
      refine wl_sld hx hb hscr hbl hbA hS (i := (i + 1)) (by omega) hLn d_L_law_281 ?_
      refine lv_aload_n hx hb d_L_law_282 rfl (lv_at hl 1 rfl) ?_
      refine lv_iload hx hb d_L_law_283 (lv_at hl 5 rfl) ?_
      refine lv_iconst (v := nI 2) hx hb d_L_law_285 (by decide) ?_
      refine wl_iaddn hx hb d_L_law_286 ?_
      refine wl_sld hx hb hscr hbl hbA hS (i := (i + 2)) (by omega) hLn d_L_law_287 ?_
      refine lv_if_eq (tgt := 295) hx hb d_L_law_288 (by decide) (fun hc288 => ?_) (fun hc288 => ?_)
      · refine lv_iconst (v := nI 0) hx hb d_L_law_295 (by decide) ?_
        refine W.eq (g2 := F0 m 296 ls [.int (bs_i false), .int (xs (i + 1)), .ref h3]) rfl ?_
        obtain ⟨hPc, hDc, hFc⟩ := la_M hP hD hS hA
        refine va_calli (va_runV (C := "FlowNestModel") (b := h3) (As := [.int (xs (i + 1)), .int (bs_i false)]) (rest := []) ⟨hx, hb, hml, hown, hts⟩ (c_M_place l dC dI cJ cI h3 k3 o3 w3 v3 p3 e3 f3 q3 H.size cd ey ex rc eg L so wi ew lo men le pi n q (xs (i + 1)) false hn) (cwV 2 hts (nm_gV nm_480 nm_481 nm_482 nm_4 nm_c_M_place) rfl rfl rfl (by decide +kernel) ⟨Nat.le_of_ble_eq_true rfl, Nat.le_of_ble_eq_true rfl⟩) ⟨cw_blindM, va_recv hK hPc (ci := 3) rfl (q0 := 0) rfl, cw_preM hPc hDc hK hNw⟩ rfl rfl hl.1 rfl (lv_room (Nat.le_of_ble_eq_true rfl)) d_L_law_296 ⟨rm_c (by omega), rm_s (by omega)⟩) hS (fun q _ h => hFc q h) hFc (fun r15 u9 t H1 locs ht hvm hw16 hB hz1 hk1 hS => ?_)
        obtain ⟨zb17, zk18, zey19, zex20⟩ := u9
        obtain ⟨hP1, hD1⟩ := hB
        rw [ht] at hP1
        obtain ⟨hP, hD⟩ := la_jM hP hD hk1 hFc hP1 hD1
        clear hPc hDc hFc hP1 hD1 hk1 hz1 ht
        generalize H1 = H at hP hS ⊢
        obtain ⟨hv2, hn2, ha2⟩ := hw16
        have hzb : zb17 = false := Bool.eq_false_iff.mpr (fun z => hval (hv2.mp z))
        replace hzb := hzb.symm
        subst hzb
        obtain ⟨m3, m4, m5⟩ := hn2 rfl
        replace m3 := m3.symm
        subst m3
        replace m4 := m4.symm
        subst m4
        replace m5 := m5.symm
        subst m5
        have hP : va_P (dC, dI) vwCl (la_ws cJ cI h0 h1 n1 a1 e1 l1 b1 t1 h2 n2 a2 e2 l2 b2 t2 h4 c4 h3 k3 o3 w3 v3 p3 e3 f3 q3 g5 (nI n) (nI (sp_lc n L)) L ab en lf bl tr (nI n) (nI r) mt (bs_i q1) (gf_T n L) ab2 en2 lf2 bl2 tr2 (nI n) (nI x) mt2 (bs_i q2) bo (bs_i q4) (nI 1) (nI n) ey ex (bs_i q) rc eg L so wi ew lo men le pi you96) H := hP
        have hD : va_D A (la_ws cJ cI h0 h1 n1 a1 e1 l1 b1 t1 h2 n2 a2 e2 l2 b2 t2 h4 c4 h3 k3 o3 w3 v3 p3 e3 f3 q3 g5 (nI n) (nI (sp_lc n L)) L ab en lf bl tr (nI n) (nI r) mt (bs_i q1) (gf_T n L) ab2 en2 lf2 bl2 tr2 (nI n) (nI x) mt2 (bs_i q2) bo (bs_i q4) (nI 1) (nI n) ey ex (bs_i q) rc eg L so wi ew lo men le pi you96) := hD
        refine lv_istore (lv' := [(6, .int r15), (5, .int (nI 1)), (0, .ref b), (1, .ref h0), (2, .ref h3), (3, .ref g5), (4, .int (nI i))]) hx hb d_L_law_299 hl (by decide) rfl (fun ls hl => ?_)
        refine lv_aload_n hx hb d_L_law_301 rfl (lv_at hl 4 rfl) ?_
        have hPc := (la_M hP hD hS hA).1
        refine vp_callSi (va_Run.run (va_runV (C := "FlowNestModel") (b := h3) (As := []) (rest := []) ⟨hx, hb, hml, hown, hts⟩ (c_M_thrown l dC dI cJ cI h3 k3 o3 w3 v3 p3 e3 f3 q3 (nI 1) (nI n) ey ex (bs_i q) rc eg L so wi ew lo men le pi) (cwV 0 hts (nm_gV nm_460 nm_461 nm_462 nm_4 nm_c_M_thrown) rfl rfl rfl (by decide +kernel) ⟨Nat.le_of_ble_eq_true rfl, Nat.le_of_ble_eq_true rfl⟩) ⟨cw_blind, va_recv hK hPc (ci := 3) rfl (q0 := 0) rfl, cw_pre hPc hK hNw⟩ rfl rfl hl.1 rfl (lv_room (Nat.le_of_ble_eq_true rfl)) d_L_law_302 ⟨rm_c (by omega), rm_s (by omega)⟩)) (fun r21 hr22 => ?_)
        clear hPc
        subst hr22
        refine lv_iload hx hb d_L_law_305 (lv_at hl 1 rfl) ?_
        refine wl_ieq (tgt := 312) hx hb (by omega) (by omega) d_L_law_307 (by decide) (fun hc307 => ?_) (fun hc307 => ?_)
        · refine lv_iload hx hb d_L_law_312 (lv_at hl 1 rfl) ?_
          refine wl_ifnen (tgt := 329) hx hb (by omega) d_L_law_314 (by decide) (fun hc314 => ?_) (fun hc314 => ?_)
          · refine lv_goto (tgt := 1239) hx hb d_L_law_329 (by decide) ?_
            refine W.widen (k := cells + 2) (n := slots + 12) (by omega) (by omega) ?_
            exact back _ _ _ ⟨n, r, x, L, nI (sp_lc n L), gf_T n L, q1, q2, q4, ab, en, lf, bl, tr, mt, ab2, en2, lf2, bl2, tr2, mt2, bo, nI 1, ey, ex, q, rc, eg, so, wi, ew, lo, men, le, pi, you96, hn, hL, hI1, hI2, hI4, rfl, rfl, hz, hz0, hq, hP, hD⟩ hS (lv_sub hl [2, 3, 4, 5, 6] rfl)
          · exact absurd hc314 (by decide)
        · exact absurd rfl hc307
      · exact absurd hc261 hc288
  · refine lv_iconst (v := nI 1) hx hb d_L_law_264 (by decide) ?_
    refine lv_goto (tgt := 269) hx hb d_L_law_265 (by decide) ?_
    refine lv_aload_n hx hb d_L_law_269 rfl (lv_at hl 3 rfl) ?_
    refine W.eq (g2 := F0 m 270 ls [.ref g5, .int (bs_i true), .int (xs (i + 1)), .ref h0]) rfl ?_
    obtain ⟨hPc, hDc, hFc⟩ := la_L hP hD hS hA
    have hX := tx_kept hX0 hS.1 (fun q hq9 => hS.2.1 q hq9 (fun z => absurd ((hA1 q).mp z) (by omega)))
    refine va_calli (vx_runSW (As := [.ref h0, .int (xs (i + 1)), .int (bs_i true), .ref g5]) (rest := []) ⟨hx, hb, hml, hown, hts⟩ (c_L_place l hl9 dC dI cJ cI h0 h1 n1 a1 e1 l1 b1 t1 h2 n2 a2 e2 l2 b2 t2 h4 c4 g5 H.size sa sb ab en lf bl tr mt ab2 en2 lf2 bl2 tr2 mt2 bo ou n r x L q1 q2 q4 (xs (i + 1)) true hn hL hI1 hI2 hI4) (vx_cwSW 4 hts (nm_gS nm_306 nm_307 nm_0 nm_c_L_place) rfl rfl rfl (by decide +kernel) ⟨Nat.le_of_ble_eq_true rfl, Nat.le_of_ble_eq_true rfl⟩) ⟨cw_blindT, cw_preT hPc hDc hK hNw hX⟩ rfl rfl hl.1 rfl (lv_room (Nat.le_of_ble_eq_true rfl)) d_L_law_270 ⟨rm_c (by omega), rm_s (by omega)⟩) hS (fun q _ h => hFc q h) hFc (fun r1 u9 t H1 locs ht hvm hw hB hz1 hk1 hS => ?_)
    obtain ⟨yy923, yx924, yp925, ys926, yw927, you928⟩ := u9
    obtain ⟨hP1, hD1⟩ := hB
    rw [ht] at hP1
    obtain ⟨hP, hD⟩ := la_jL hP hD hk1 hFc hP1 hD1
    clear hPc hDc hFc hX hP1 hD1 hk1 hz1 ht
    generalize H1 = H at hP hS ⊢
    rcases hw with ⟨hr1, k, hk_k, hk_v, f1, f2, f3, f4, f5, hou⟩ | ⟨hr1, hval, f1, f2, f3, f4, f5⟩
    · replace hr1 := hr1.symm
      subst hr1
      replace f1 : yy923 = nI r := f1
      replace f2 : yx924 = nI k := f2
      replace f3 : yp925 = q1 := f3
      replace f4 : ys926 = true := f4
      replace hou : you928 0 = (nI x).toInt64 := hou
      replace f1 := f1.symm
      subst f1
      replace f2 := f2.symm
      subst f2
      replace f3 := f3.symm
      subst f3
      replace f4 := f4.symm
      subst f4
      replace f5 := f5.symm
      subst f5
      have hval : ∃ k, k < n ∧ xs (i + 1) = nI k := ⟨k, hk_k, hk_v⟩
      have hz9 := hz (by omega)
      have hP : va_P (dC, dI) vwCl (la_ws cJ cI h0 h1 n1 a1 e1 l1 b1 t1 h2 n2 a2 e2 l2 b2 t2 h4 c4 h3 k3 o3 w3 v3 p3 e3 f3 q3 g5 (nI n) (nI (sp_lc n L)) L ab en lf bl tr (nI n) (nI r) mt (bs_i q1) (gf_T n L) ab2 en2 lf2 bl2 tr2 (nI n) (nI k) mt2 (bs_i true) bo (bs_i true) cd (nI n) ey ex (bs_i q) rc eg L so wi ew lo men le pi you928) H := hP
      have hD : va_D A (la_ws cJ cI h0 h1 n1 a1 e1 l1 b1 t1 h2 n2 a2 e2 l2 b2 t2 h4 c4 h3 k3 o3 w3 v3 p3 e3 f3 q3 g5 (nI n) (nI (sp_lc n L)) L ab en lf bl tr (nI n) (nI r) mt (bs_i q1) (gf_T n L) ab2 en2 lf2 bl2 tr2 (nI n) (nI k) mt2 (bs_i true) bo (bs_i true) cd (nI n) ey ex (bs_i q) rc eg L so wi ew lo men le pi you928) := hD
      refine lv_istore (lv' := [(5, .int (nI 0)), (0, .ref b), (1, .ref h0), (2, .ref h3), (3, .ref g5), (4, .int (nI i))]) hx hb d_L_law_273 hl (by decide) rfl (fun ls hl => ?_)
      refine lv_aload_n hx hb d_L_law_275 rfl (lv_at hl 3 rfl) ?_
      refine lv_aload_n hx hb d_L_law_276 rfl (lv_at hl 1 rfl) ?_
      refine lv_iload hx hb d_L_law_277 (lv_at hl 5 rfl) ?_
      refine lv_iconst (v := nI 1) hx hb d_L_law_279 (by decide) ?_
      refine wl_iaddn hx hb d_L_law_280 ?_
      refine wl_sld hx hb hscr hbl hbA hS (i := (i + 1)) (by omega) hLn d_L_law_281 ?_
      refine lv_aload_n hx hb d_L_law_282 rfl (lv_at hl 1 rfl) ?_
      refine lv_iload hx hb d_L_law_283 (lv_at hl 5 rfl) ?_
      refine lv_iconst (v := nI 2) hx hb d_L_law_285 (by decide) ?_
      refine wl_iaddn hx hb d_L_law_286 ?_
      refine wl_sld hx hb hscr hbl hbA hS (i := (i + 2)) (by omega) hLn d_L_law_287 ?_
      refine lv_if_eq (tgt := 295) hx hb d_L_law_288 (by decide) (fun hc288 => ?_) (fun hc288 => ?_)
      · exact absurd hc288 hc261
      · refine lv_iconst (v := nI 1) hx hb d_L_law_291 (by decide) ?_
        refine lv_goto (tgt := 296) hx hb d_L_law_292 (by decide) ?_
        refine W.eq (g2 := F0 m 296 ls [.int (bs_i true), .int (xs (i + 1)), .ref h3]) rfl ?_
        obtain ⟨hPc, hDc, hFc⟩ := la_M hP hD hS hA
        refine va_calli (va_runV (C := "FlowNestModel") (b := h3) (As := [.int (xs (i + 1)), .int (bs_i true)]) (rest := []) ⟨hx, hb, hml, hown, hts⟩ (c_M_place l dC dI cJ cI h3 k3 o3 w3 v3 p3 e3 f3 q3 H.size cd ey ex rc eg L so wi ew lo men le pi n q (xs (i + 1)) true hn) (cwV 2 hts (nm_gV nm_480 nm_481 nm_482 nm_4 nm_c_M_place) rfl rfl rfl (by decide +kernel) ⟨Nat.le_of_ble_eq_true rfl, Nat.le_of_ble_eq_true rfl⟩) ⟨cw_blindM, va_recv hK hPc (ci := 3) rfl (q0 := 0) rfl, cw_preM hPc hDc hK hNw⟩ rfl rfl hl.1 rfl (lv_room (Nat.le_of_ble_eq_true rfl)) d_L_law_296 ⟨rm_c (by omega), rm_s (by omega)⟩) hS (fun q _ h => hFc q h) hFc (fun r29 u9 t H1 locs ht hvm hw30 hB hz1 hk1 hS => ?_)
        obtain ⟨zb31, zk32, zey33, zex34⟩ := u9
        obtain ⟨hP1, hD1⟩ := hB
        rw [ht] at hP1
        obtain ⟨hP, hD⟩ := la_jM hP hD hk1 hFc hP1 hD1
        clear hPc hDc hFc hP1 hD1 hk1 hz1 ht
        generalize H1 = H at hP hS ⊢
        obtain ⟨hv2, hn2, ha2⟩ := hw30
        have hzb : zb31 = true := hv2.mpr hval
        replace hzb := hzb.symm
        subst hzb
        obtain ⟨k2, m1, m2, m3, m4, m5, m6⟩ := ha2 rfl
        have ek := nI_i (by omega) (by omega) (hk_v.symm.trans m2)
        subst ek
        replace m4 : zey33 = ey := m4
        replace m5 : zex34 = nI k := m5
        replace m6 : r29 = ex := m6
        replace m3 := m3.symm
        subst m3
        replace m4 := m4.symm
        subst m4
        replace m5 := m5.symm
        subst m5
        replace m6 := m6.symm
        subst m6
        have hP : va_P (dC, dI) vwCl (la_ws cJ cI h0 h1 n1 a1 e1 l1 b1 t1 h2 n2 a2 e2 l2 b2 t2 h4 c4 h3 k3 o3 w3 v3 p3 e3 f3 q3 g5 (nI n) (nI (sp_lc n L)) L ab en lf bl tr (nI n) (nI r) mt (bs_i q1) (gf_T n L) ab2 en2 lf2 bl2 tr2 (nI n) (nI k) mt2 (bs_i true) bo (bs_i true) (nI 0) (nI n) ey (nI k) (bs_i false) rc eg L so wi ew lo men le pi you928) H := hP
        have hD : va_D A (la_ws cJ cI h0 h1 n1 a1 e1 l1 b1 t1 h2 n2 a2 e2 l2 b2 t2 h4 c4 h3 k3 o3 w3 v3 p3 e3 f3 q3 g5 (nI n) (nI (sp_lc n L)) L ab en lf bl tr (nI n) (nI r) mt (bs_i q1) (gf_T n L) ab2 en2 lf2 bl2 tr2 (nI n) (nI k) mt2 (bs_i true) bo (bs_i true) (nI 0) (nI n) ey (nI k) (bs_i false) rc eg L so wi ew lo men le pi you928) := hD
        refine lv_istore (lv' := [(6, .int ex), (5, .int (nI 0)), (0, .ref b), (1, .ref h0), (2, .ref h3), (3, .ref g5), (4, .int (nI i))]) hx hb d_L_law_299 hl (by decide) rfl (fun ls hl => ?_)
        refine lv_aload_n hx hb d_L_law_301 rfl (lv_at hl 4 rfl) ?_
        have hPc := (la_M hP hD hS hA).1
        refine vp_callSi (va_Run.run (va_runV (C := "FlowNestModel") (b := h3) (As := []) (rest := []) ⟨hx, hb, hml, hown, hts⟩ (c_M_thrown l dC dI cJ cI h3 k3 o3 w3 v3 p3 e3 f3 q3 (nI 0) (nI n) ey (nI k) (bs_i false) rc eg L so wi ew lo men le pi) (cwV 0 hts (nm_gV nm_460 nm_461 nm_462 nm_4 nm_c_M_thrown) rfl rfl rfl (by decide +kernel) ⟨Nat.le_of_ble_eq_true rfl, Nat.le_of_ble_eq_true rfl⟩) ⟨cw_blind, va_recv hK hPc (ci := 3) rfl (q0 := 0) rfl, cw_pre hPc hK hNw⟩ rfl rfl hl.1 rfl (lv_room (Nat.le_of_ble_eq_true rfl)) d_L_law_302 ⟨rm_c (by omega), rm_s (by omega)⟩)) (fun r35 hr36 => ?_)
        clear hPc
        subst hr36
        refine lv_iload hx hb d_L_law_305 (lv_at hl 1 rfl) ?_
        refine wl_ieq (tgt := 312) hx hb (by omega) (by omega) d_L_law_307 (by decide) (fun hc307 => ?_) (fun hc307 => ?_)
        · refine lv_iload hx hb d_L_law_312 (lv_at hl 1 rfl) ?_
          refine wl_ifnen (tgt := 329) hx hb (by omega) d_L_law_314 (by decide) (fun hc314 => ?_) (fun hc314 => ?_)
          · exact absurd hc314 (by decide)
          · refine lv_aload_n hx hb d_L_law_317 rfl (lv_at hl 5 rfl) ?_
            refine lv_iconst (v := nI 0) hx hb d_L_law_318 (by decide) ?_
            refine wl_lald (i := 0) hx hb hK hP 26 0 rfl rfl (by omega) (by decide) d_L_law_319 ?_
            refine lv_iload hx hb d_L_law_320 (lv_at hl 0 rfl) ?_
            refine lv_i2l (v := ex.toInt64) hx hb d_L_law_322 rfl ?_
            refine wl_lcmpeq (tgt := 329) hx hb d_L_law_323 d_L_law_324 (by decide) (fun hc323 => ?_) (fun hc323 => ?_)
            · refine lv_goto (tgt := 1239) hx hb d_L_law_329 (by decide) ?_
              refine W.widen (k := cells + 2) (n := slots + 12) (by omega) (by omega) ?_
              exact back _ _ _ ⟨n, r, k, L, nI (sp_lc n L), gf_T n L, q1, true, true, ab, en, lf, bl, tr, mt, ab2, en2, lf2, bl2, tr2, mt2, bo, nI 0, ey, nI k, false, rc, eg, so, wi, ew, lo, men, le, pi, you928, hn, hL, hI1, (fv_S_t hk_k), (fv_N_t (by omega)), rfl, rfl, (fun _ => ⟨hz9.1, rfl, hz9.2.2.1, hk_k⟩), (fun z => absurd z (by omega)), (fun z => absurd z (by decide)), hP, hD⟩ hS (lv_sub hl [2, 3, 4, 5, 6] rfl)
            · exact absurd (by rw [hz9.2.1]; exact hou) hc323
        · exact absurd rfl hc307
    · replace hr1 := hr1.symm
      subst hr1
      replace f1 := f1.symm
      subst f1
      replace f2 := f2.symm
      subst f2
      replace f3 := f3.symm
      subst f3
      replace f4 := f4.symm
      subst f4
      replace f5 := f5.symm
      subst f5
      have hP : va_P (dC, dI) vwCl (la_ws cJ cI h0 h1 n1 a1 e1 l1 b1 t1 h2 n2 a2 e2 l2 b2 t2 h4 c4 h3 k3 o3 w3 v3 p3 e3 f3 q3 g5 (nI n) (nI (sp_lc n L)) L ab en lf bl tr (nI n) (nI r) mt (bs_i q1) (gf_T n L) ab2 en2 lf2 bl2 tr2 (nI n) (nI x) mt2 (bs_i q2) bo (bs_i q4) cd (nI n) ey ex (bs_i q) rc eg L so wi ew lo men le pi you928) H := hP
      have hD : va_D A (la_ws cJ cI h0 h1 n1 a1 e1 l1 b1 t1 h2 n2 a2 e2 l2 b2 t2 h4 c4 h3 k3 o3 w3 v3 p3 e3 f3 q3 g5 (nI n) (nI (sp_lc n L)) L ab en lf bl tr (nI n) (nI r) mt (bs_i q1) (gf_T n L) ab2 en2 lf2 bl2 tr2 (nI n) (nI x) mt2 (bs_i q2) bo (bs_i q4) cd (nI n) ey ex (bs_i q) rc eg L so wi ew lo men le pi you928) := hD
      refine lv_istore (lv' := [(5, .int (nI 1)), (0, .ref b), (1, .ref h0), (2, .ref h3), (3, .ref g5), (4, .int (nI i))]) hx hb d_L_law_273 hl (by decide) rfl (fun ls hl => ?_)
      refine lv_aload_n hx hb d_L_law_275 rfl (lv_at hl 3 rfl) ?_
      refine lv_aload_n hx hb d_L_law_276 rfl (lv_at hl 1 rfl) ?_
      refine lv_iload hx hb d_L_law_277 (lv_at hl 5 rfl) ?_
      refine lv_iconst (v := nI 1) hx hb d_L_law_279 (by decide) ?_
      refine wl_iaddn hx hb d_L_law_280 ?_
      refine wl_sld hx hb hscr hbl hbA hS (i := (i + 1)) (by omega) hLn d_L_law_281 ?_
      refine lv_aload_n hx hb d_L_law_282 rfl (lv_at hl 1 rfl) ?_
      refine lv_iload hx hb d_L_law_283 (lv_at hl 5 rfl) ?_
      refine lv_iconst (v := nI 2) hx hb d_L_law_285 (by decide) ?_
      refine wl_iaddn hx hb d_L_law_286 ?_
      refine wl_sld hx hb hscr hbl hbA hS (i := (i + 2)) (by omega) hLn d_L_law_287 ?_
      refine lv_if_eq (tgt := 295) hx hb d_L_law_288 (by decide) (fun hc288 => ?_) (fun hc288 => ?_)
      · exact absurd hc288 hc261
      · refine lv_iconst (v := nI 1) hx hb d_L_law_291 (by decide) ?_
        refine lv_goto (tgt := 296) hx hb d_L_law_292 (by decide) ?_
        refine W.eq (g2 := F0 m 296 ls [.int (bs_i true), .int (xs (i + 1)), .ref h3]) rfl ?_
        obtain ⟨hPc, hDc, hFc⟩ := la_M hP hD hS hA
        refine va_calli (va_runV (C := "FlowNestModel") (b := h3) (As := [.int (xs (i + 1)), .int (bs_i true)]) (rest := []) ⟨hx, hb, hml, hown, hts⟩ (c_M_place l dC dI cJ cI h3 k3 o3 w3 v3 p3 e3 f3 q3 H.size cd ey ex rc eg L so wi ew lo men le pi n q (xs (i + 1)) true hn) (cwV 2 hts (nm_gV nm_480 nm_481 nm_482 nm_4 nm_c_M_place) rfl rfl rfl (by decide +kernel) ⟨Nat.le_of_ble_eq_true rfl, Nat.le_of_ble_eq_true rfl⟩) ⟨cw_blindM, va_recv hK hPc (ci := 3) rfl (q0 := 0) rfl, cw_preM hPc hDc hK hNw⟩ rfl rfl hl.1 rfl (lv_room (Nat.le_of_ble_eq_true rfl)) d_L_law_296 ⟨rm_c (by omega), rm_s (by omega)⟩) hS (fun q _ h => hFc q h) hFc (fun r37 u9 t H1 locs ht hvm hw38 hB hz1 hk1 hS => ?_)
        obtain ⟨zb39, zk40, zey41, zex42⟩ := u9
        obtain ⟨hP1, hD1⟩ := hB
        rw [ht] at hP1
        obtain ⟨hP, hD⟩ := la_jM hP hD hk1 hFc hP1 hD1
        clear hPc hDc hFc hP1 hD1 hk1 hz1 ht
        generalize H1 = H at hP hS ⊢
        obtain ⟨hv2, hn2, ha2⟩ := hw38
        have hzb : zb39 = false := Bool.eq_false_iff.mpr (fun z => hval (hv2.mp z))
        replace hzb := hzb.symm
        subst hzb
        obtain ⟨m3, m4, m5⟩ := hn2 rfl
        replace m3 := m3.symm
        subst m3
        replace m4 := m4.symm
        subst m4
        replace m5 := m5.symm
        subst m5
        have hP : va_P (dC, dI) vwCl (la_ws cJ cI h0 h1 n1 a1 e1 l1 b1 t1 h2 n2 a2 e2 l2 b2 t2 h4 c4 h3 k3 o3 w3 v3 p3 e3 f3 q3 g5 (nI n) (nI (sp_lc n L)) L ab en lf bl tr (nI n) (nI r) mt (bs_i q1) (gf_T n L) ab2 en2 lf2 bl2 tr2 (nI n) (nI x) mt2 (bs_i q2) bo (bs_i q4) (nI 1) (nI n) ey ex (bs_i q) rc eg L so wi ew lo men le pi you928) H := hP
        have hD : va_D A (la_ws cJ cI h0 h1 n1 a1 e1 l1 b1 t1 h2 n2 a2 e2 l2 b2 t2 h4 c4 h3 k3 o3 w3 v3 p3 e3 f3 q3 g5 (nI n) (nI (sp_lc n L)) L ab en lf bl tr (nI n) (nI r) mt (bs_i q1) (gf_T n L) ab2 en2 lf2 bl2 tr2 (nI n) (nI x) mt2 (bs_i q2) bo (bs_i q4) (nI 1) (nI n) ey ex (bs_i q) rc eg L so wi ew lo men le pi you928) := hD
        refine lv_istore (lv' := [(6, .int r37), (5, .int (nI 1)), (0, .ref b), (1, .ref h0), (2, .ref h3), (3, .ref g5), (4, .int (nI i))]) hx hb d_L_law_299 hl (by decide) rfl (fun ls hl => ?_)
        refine lv_aload_n hx hb d_L_law_301 rfl (lv_at hl 4 rfl) ?_
        have hPc := (la_M hP hD hS hA).1
        refine vp_callSi (va_Run.run (va_runV (C := "FlowNestModel") (b := h3) (As := []) (rest := []) ⟨hx, hb, hml, hown, hts⟩ (c_M_thrown l dC dI cJ cI h3 k3 o3 w3 v3 p3 e3 f3 q3 (nI 1) (nI n) ey ex (bs_i q) rc eg L so wi ew lo men le pi) (cwV 0 hts (nm_gV nm_460 nm_461 nm_462 nm_4 nm_c_M_thrown) rfl rfl rfl (by decide +kernel) ⟨Nat.le_of_ble_eq_true rfl, Nat.le_of_ble_eq_true rfl⟩) ⟨cw_blind, va_recv hK hPc (ci := 3) rfl (q0 := 0) rfl, cw_pre hPc hK hNw⟩ rfl rfl hl.1 rfl (lv_room (Nat.le_of_ble_eq_true rfl)) d_L_law_302 ⟨rm_c (by omega), rm_s (by omega)⟩)) (fun r43 hr44 => ?_)
        clear hPc
        subst hr44
        refine lv_iload hx hb d_L_law_305 (lv_at hl 1 rfl) ?_
        refine wl_ieq (tgt := 312) hx hb (by omega) (by omega) d_L_law_307 (by decide) (fun hc307 => ?_) (fun hc307 => ?_)
        · refine lv_iload hx hb d_L_law_312 (lv_at hl 1 rfl) ?_
          refine wl_ifnen (tgt := 329) hx hb (by omega) d_L_law_314 (by decide) (fun hc314 => ?_) (fun hc314 => ?_)
          · refine lv_goto (tgt := 1239) hx hb d_L_law_329 (by decide) ?_
            refine W.widen (k := cells + 2) (n := slots + 12) (by omega) (by omega) ?_
            exact back _ _ _ ⟨n, r, x, L, nI (sp_lc n L), gf_T n L, q1, q2, q4, ab, en, lf, bl, tr, mt, ab2, en2, lf2, bl2, tr2, mt2, bo, nI 1, ey, ex, q, rc, eg, so, wi, ew, lo, men, le, pi, you928, hn, hL, hI1, hI2, hI4, rfl, rfl, hz, hz0, hq, hP, hD⟩ hS (lv_sub hl [2, 3, 4, 5, 6] rfl)
          · exact absurd hc314 (by decide)
        · exact absurd rfl hc307
