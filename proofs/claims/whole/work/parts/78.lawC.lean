/-! the law's cases (laid by wip/gen/law.py) -/
set_option maxHeartbeats 4000000 in
set_option maxRecDepth 100000 in
theorem law_11 {p : Program} {l : Launch} {e : Env} {s : State} {m : MethodId} {below : List Frame} {meth : Method} {c : Code} {b Ln : Nat} {xs : Nat → Int32} {A : Nat → Prop} {Q : State → Prop} {dC : Nat → ClassId} {dI : Nat → Nat → Nat} {cJ cI : ClassId} {h0 h1 n1 a1 e1 l1 b1 t1 h2 n2 a2 e2 l2 b2 t2 h4 c4 h3 k3 o3 w3 v3 p3 e3 f3 q3 g5 sa sb : Nat} (C9 : lw_C p l s m c b Ln xs A dC dI cJ cI sa sb) {cells slots i : Nat} (hi : i + 4 ≤ Ln) (hc9 : cells + 2 ≤ 1053) (hs9 : slots + 12 ≤ 9256) (back : ∀ (H : Heap) (locs : List Loc) (ls : Array Slot), lw_J A dC dI cJ cI h0 h1 n1 a1 e1 l1 b1 t1 h2 n2 a2 e2 l2 b2 t2 h4 c4 h3 k3 o3 w3 v3 p3 e3 f3 q3 g5 H → va_S A s.heap H locs → lv_has ls 8 [(0, .ref b), (1, .ref h0), (2, .ref h3), (3, .ref g5), (4, .int (nI i))] → W p l e room_1 s m #[Value.ref b] below meth c H locs (cells + 2) (slots + 12) Q (F0 m 1239 ls [])) {H : Heap} {locs : List Loc} {ls : Array Slot} (hJ : lw_J A dC dI cJ cI h0 h1 n1 a1 e1 l1 b1 t1 h2 n2 a2 e2 l2 b2 t2 h4 c4 h3 k3 o3 w3 v3 p3 e3 f3 q3 g5 H) (hS : va_S A s.heap H locs) (hl : lv_has ls 8 [(0, .ref b), (1, .ref h0), (2, .ref h3), (3, .ref g5), (4, .int (nI i))]) : W p l e room_1 s m #[Value.ref b] below meth c H locs cells slots Q (F0 m 909 ls []) := by
  obtain ⟨hx, hb, hml, hown, hts, hNw, hK, hX0, hA1, hl9, hscr, hbl, hLn⟩ := C9
  have hA : ∀ q : Nat, s.heap.size ≤ q → A q := fun q h => (hA1 q).mpr h
  have hbA : ¬ A b := fun z => absurd ((hA1 b).mp z) (by omega)
  obtain ⟨n, r, x, L, fc, M, q1, q2, q4, ab, en, lf, bl, tr, mt, ab2, en2, lf2, bl2, tr2, mt2, bo, cd, ey, ex, q, rc, eg, so, wi, ew, lo, men, le, pi, ou, hn, hL, hI1, hI2, hI4, hfc, hM, hz, hz0, hq, hP, hD⟩ := hJ
  subst hfc
  subst hM
  have hP : va_P (dC, dI) vwCl (la_ws cJ cI h0 h1 n1 a1 e1 l1 b1 t1 h2 n2 a2 e2 l2 b2 t2 h4 c4 h3 k3 o3 w3 v3 p3 e3 f3 q3 g5 (nI n) (nI (sp_lc n L)) L ab en lf bl tr (nI n) (nI r) mt (bs_i q1) (gf_T n L) ab2 en2 lf2 bl2 tr2 (nI n) (nI x) mt2 (bs_i q2) bo (bs_i q4) cd (nI n) ey ex (bs_i q) rc eg L so wi ew lo men le pi ou) H := hP
  have hD : va_D A (la_ws cJ cI h0 h1 n1 a1 e1 l1 b1 t1 h2 n2 a2 e2 l2 b2 t2 h4 c4 h3 k3 o3 w3 v3 p3 e3 f3 q3 g5 (nI n) (nI (sp_lc n L)) L ab en lf bl tr (nI n) (nI r) mt (bs_i q1) (gf_T n L) ab2 en2 lf2 bl2 tr2 (nI n) (nI x) mt2 (bs_i q2) bo (bs_i q4) cd (nI n) ey ex (bs_i q) rc eg L so wi ew lo men le pi ou) := hD
  refine lv_aload_n hx hb d_L_law_909 rfl (lv_at hl 1 rfl) ?_
  refine lv_aload_n hx hb d_L_law_910 rfl (lv_at hl 0 rfl) ?_
  refine lv_iload hx hb d_L_law_911 (lv_at hl 4 rfl) ?_
  refine lv_iconst (v := nI 1) hx hb d_L_law_913 (by decide) ?_
  refine wl_iaddn hx hb d_L_law_914 ?_
  refine wl_sld hx hb hscr hbl hbA hS (i := (i + 1)) (by omega) hLn d_L_law_915 ?_
  refine lv_aload_n hx hb d_L_law_916 rfl (lv_at hl 3 rfl) ?_
  obtain ⟨hPc, hDc, hFc⟩ := la_L hP hD hS hA
  have hX := tx_kept hX0 hS.1 (fun q hq9 => hS.2.1 q hq9 (fun z => absurd ((hA1 q).mp z) (by omega)))
  refine va_calli (vx_runSW (As := [.ref h0, .int (xs (i + 1)), .ref g5]) (rest := []) ⟨hx, hb, hml, hown, hts⟩ (c_L_loop l hl9 dC dI cJ cI h0 h1 n1 a1 e1 l1 b1 t1 h2 n2 a2 e2 l2 b2 t2 h4 c4 g5 H.size sa sb ab en lf bl tr mt ab2 en2 lf2 bl2 tr2 mt2 bo ou n r x L q1 q2 q4 (xs (i + 1)) hn hL hI1 hI2 hI4) (vx_cwSW 3 hts (nm_gS nm_371 nm_372 nm_0 nm_c_L_loop) rfl rfl rfl (by decide +kernel) ⟨Nat.le_of_ble_eq_true rfl, Nat.le_of_ble_eq_true rfl⟩) ⟨cw_blindT, cw_preT hPc hDc hK hNw hX⟩ rfl rfl hl.1 rfl (lv_room (Nat.le_of_ble_eq_true rfl)) d_L_law_917 ⟨rm_c (by omega), rm_s (by omega)⟩) hS (fun q _ h => hFc q h) hFc (fun r1 u9 t H1 locs ht hvm hw hB hz1 hk1 hS => ?_)
  obtain ⟨yp91, yab92, yen93, ylf94, ybl95, ytr96, ymt97, ys98, yyb99, yyn910, yyf911, yyl912, yyr913, yym914, yw915, ybo916, you917⟩ := u9
  obtain ⟨hP1, hD1⟩ := hB
  rw [ht] at hP1
  obtain ⟨hP, hD⟩ := la_jL hP hD hk1 hFc hP1 hD1
  clear hPc hDc hFc hX hP1 hD1 hk1 hz1 ht
  generalize H1 = H at hP hS ⊢
  obtain ⟨⟨hJ1, hJ2, hJ4⟩, hw⟩ := hw
  rcases hw with ⟨hr1, k, hk_k, hk_v, hou⟩ | ⟨hr1, hval⟩
  · replace hr1 := hr1.symm
    subst hr1
    have hval : ∃ k, k < n ∧ xs (i + 1) = nI k := ⟨k, hk_k, hk_v⟩
    refine lv_istore (lv' := [(5, .int (nI 0)), (0, .ref b), (1, .ref h0), (2, .ref h3), (3, .ref g5), (4, .int (nI i))]) hx hb d_L_law_920 hl (by decide) rfl (fun ls hl => ?_)
    refine lv_aload_n hx hb d_L_law_922 rfl (lv_at hl 3 rfl) ?_
    refine lv_aload_n hx hb d_L_law_923 rfl (lv_at hl 1 rfl) ?_
    refine lv_iload hx hb d_L_law_924 (lv_at hl 5 rfl) ?_
    refine lv_iconst (v := nI 1) hx hb d_L_law_926 (by decide) ?_
    refine wl_iaddn hx hb d_L_law_927 ?_
    refine wl_sld hx hb hscr hbl hbA hS (i := (i + 1)) (by omega) hLn d_L_law_928 ?_
    obtain ⟨hPc, hDc, hFc⟩ := la_M hP hD hS hA
    refine va_calll (va_runV (C := "FlowNestModel") (b := h3) (As := [.int (xs (i + 1))]) (rest := []) ⟨hx, hb, hml, hown, hts⟩ (c_M_loop l dC dI cJ cI h3 k3 o3 w3 v3 p3 e3 f3 q3 H.size cd ey ex rc eg L so wi ew lo men le pi n r x q (xs (i + 1)) hn hz hL hq) (cwV 1 hts (nm_gV nm_552 nm_553 nm_554 nm_4 nm_c_M_loop) rfl rfl rfl (by decide +kernel) ⟨Nat.le_of_ble_eq_true rfl, Nat.le_of_ble_eq_true rfl⟩) ⟨cw_blindM, va_recv hK hPc (ci := 3) rfl (q0 := 0) rfl, cw_preM hPc hDc hK hNw⟩ rfl rfl hl.1 rfl (lv_room (Nat.le_of_ble_eq_true rfl)) d_L_law_929 ⟨rm_c (by omega), rm_s (by omega)⟩) hS (fun q _ h => hFc q h) hFc (fun r18 u9 t H1 locs ht hvm hw19 hB hz1 hk1 hS => ?_)
    obtain ⟨zrc20, zeg21, zso22, zwi23, zew24, zlo25, zen26, zle27, zpi28, zb29, zk30⟩ := u9
    obtain ⟨hP1, hD1⟩ := hB
    rw [ht] at hP1
    obtain ⟨hP, hD⟩ := la_jM hP hD hk1 hFc hP1 hD1
    clear hPc hDc hFc hP1 hD1 hk1 hz1 ht
    generalize H1 = H at hP hS ⊢
    obtain ⟨hv2, hq2, ha2⟩ := hw19
    have hzb : zb29 = true := hv2.mpr hval
    replace hzb := hzb.symm
    subst hzb
    have hP : va_P (dC, dI) vwCl (la_ws cJ cI h0 h1 n1 a1 e1 l1 b1 t1 h2 n2 a2 e2 l2 b2 t2 h4 c4 h3 k3 o3 w3 v3 p3 e3 f3 q3 g5 (nI n) (nI (sp_lc n L)) L yab92 yen93 ylf94 ybl95 ytr96 (nI n) (nI r) ymt97 (bs_i yp91) (gf_T n L) yyb99 yyn910 yyf911 yyl912 yyr913 (nI n) (nI x) yym914 (bs_i ys98) ybo916 (bs_i yw915) (nI 0) (nI n) ey ex (bs_i zk30) zrc20 zeg21 L zso22 zwi23 zew24 zlo25 zen26 zle27 zpi28 you917) H := hP
    have hD : va_D A (la_ws cJ cI h0 h1 n1 a1 e1 l1 b1 t1 h2 n2 a2 e2 l2 b2 t2 h4 c4 h3 k3 o3 w3 v3 p3 e3 f3 q3 g5 (nI n) (nI (sp_lc n L)) L yab92 yen93 ylf94 ybl95 ytr96 (nI n) (nI r) ymt97 (bs_i yp91) (gf_T n L) yyb99 yyn910 yyf911 yyl912 yyr913 (nI n) (nI x) yym914 (bs_i ys98) ybo916 (bs_i yw915) (nI 0) (nI n) ey ex (bs_i zk30) zrc20 zeg21 L zso22 zwi23 zew24 zlo25 zen26 zle27 zpi28 you917) := hD
    obtain ⟨k2, hk2, hv3, ha3⟩ := ha2 rfl
    have ek := nI_i (by omega) (by omega) (hk_v.symm.trans hv3)
    subst ek
    refine lv_lstore (lv' := [(6, .long r18), (5, .int (nI 0)), (0, .ref b), (1, .ref h0), (2, .ref h3), (3, .ref g5), (4, .int (nI i))]) hx hb d_L_law_932 hl (by decide) rfl (fun ls hl => ?_)
    refine lv_aload_n hx hb d_L_law_934 rfl (lv_at hl 4 rfl) ?_
    have hPc := (la_M hP hD hS hA).1
    refine vp_callSi (va_Run.run (va_runV (C := "FlowNestModel") (b := h3) (As := []) (rest := []) ⟨hx, hb, hml, hown, hts⟩ (c_M_thrown l dC dI cJ cI h3 k3 o3 w3 v3 p3 e3 f3 q3 (nI 0) (nI n) ey ex (bs_i zk30) zrc20 zeg21 L zso22 zwi23 zew24 zlo25 zen26 zle27 zpi28) (cwV 0 hts (nm_gV nm_460 nm_461 nm_462 nm_4 nm_c_M_thrown) rfl rfl rfl (by decide +kernel) ⟨Nat.le_of_ble_eq_true rfl, Nat.le_of_ble_eq_true rfl⟩) ⟨cw_blind, va_recv hK hPc (ci := 3) rfl (q0 := 0) rfl, cw_pre hPc hK hNw⟩ rfl rfl hl.1 rfl (lv_room (Nat.le_of_ble_eq_true rfl)) d_L_law_935 ⟨rm_c (by omega), rm_s (by omega)⟩)) (fun r31 hr32 => ?_)
    clear hPc
    subst hr32
    refine lv_iload hx hb d_L_law_938 (lv_at hl 1 rfl) ?_
    refine wl_ieq (tgt := 945) hx hb (by omega) (by omega) d_L_law_940 (by decide) (fun hc940 => ?_) (fun hc940 => ?_)
    · refine lv_iload hx hb d_L_law_945 (lv_at hl 1 rfl) ?_
      refine wl_ifnen (tgt := 961) hx hb (by omega) d_L_law_947 (by decide) (fun hc947 => ?_) (fun hc947 => ?_)
      · exact absurd hc947 (by decide)
      · refine lv_aload_n hx hb d_L_law_950 rfl (lv_at hl 5 rfl) ?_
        refine lv_iconst (v := nI 0) hx hb d_L_law_951 (by decide) ?_
        refine wl_lald (i := 0) hx hb hK hP 26 0 rfl rfl (by omega) (by decide) d_L_law_952 ?_
        refine lv_lload hx hb d_L_law_953 (lv_at hl 0 rfl) ?_
        refine wl_lcmpeq (tgt := 961) hx hb d_L_law_955 d_L_law_956 (by decide) (fun hc955 => ?_) (fun hc955 => ?_)
        · refine lv_goto (tgt := 1239) hx hb d_L_law_961 (by decide) ?_
          refine W.widen (k := cells + 2) (n := slots + 12) (by omega) (by omega) ?_
          exact back _ _ _ ⟨n, r, x, L, nI (sp_lc n L), gf_T n L, yp91, ys98, yw915, yab92, yen93, ylf94, ybl95, ytr96, ymt97, yyb99, yyn910, yyf911, yyl912, yyr913, yym914, ybo916, nI 0, ey, ex, zk30, zrc20, zeg21, zso22, zwi23, zew24, zlo25, zen26, zle27, zpi28, you917, hn, hL, hJ1, hJ2, hJ4, rfl, rfl, hz, hz0, hq2, hP, hD⟩ hS (lv_sub hl [2, 3, 4, 5, 6] rfl)
        · exact absurd (hou.trans ha3.symm) hc955
    · exact absurd rfl hc940
  · replace hr1 := hr1.symm
    subst hr1
    refine lv_istore (lv' := [(5, .int (nI 1)), (0, .ref b), (1, .ref h0), (2, .ref h3), (3, .ref g5), (4, .int (nI i))]) hx hb d_L_law_920 hl (by decide) rfl (fun ls hl => ?_)
    refine lv_aload_n hx hb d_L_law_922 rfl (lv_at hl 3 rfl) ?_
    refine lv_aload_n hx hb d_L_law_923 rfl (lv_at hl 1 rfl) ?_
    refine lv_iload hx hb d_L_law_924 (lv_at hl 5 rfl) ?_
    refine lv_iconst (v := nI 1) hx hb d_L_law_926 (by decide) ?_
    refine wl_iaddn hx hb d_L_law_927 ?_
    refine wl_sld hx hb hscr hbl hbA hS (i := (i + 1)) (by omega) hLn d_L_law_928 ?_
    obtain ⟨hPc, hDc, hFc⟩ := la_M hP hD hS hA
    refine va_calll (va_runV (C := "FlowNestModel") (b := h3) (As := [.int (xs (i + 1))]) (rest := []) ⟨hx, hb, hml, hown, hts⟩ (c_M_loop l dC dI cJ cI h3 k3 o3 w3 v3 p3 e3 f3 q3 H.size cd ey ex rc eg L so wi ew lo men le pi n r x q (xs (i + 1)) hn hz hL hq) (cwV 1 hts (nm_gV nm_552 nm_553 nm_554 nm_4 nm_c_M_loop) rfl rfl rfl (by decide +kernel) ⟨Nat.le_of_ble_eq_true rfl, Nat.le_of_ble_eq_true rfl⟩) ⟨cw_blindM, va_recv hK hPc (ci := 3) rfl (q0 := 0) rfl, cw_preM hPc hDc hK hNw⟩ rfl rfl hl.1 rfl (lv_room (Nat.le_of_ble_eq_true rfl)) d_L_law_929 ⟨rm_c (by omega), rm_s (by omega)⟩) hS (fun q _ h => hFc q h) hFc (fun r33 u9 t H1 locs ht hvm hw34 hB hz1 hk1 hS => ?_)
    obtain ⟨zrc35, zeg36, zso37, zwi38, zew39, zlo40, zen41, zle42, zpi43, zb44, zk45⟩ := u9
    obtain ⟨hP1, hD1⟩ := hB
    rw [ht] at hP1
    obtain ⟨hP, hD⟩ := la_jM hP hD hk1 hFc hP1 hD1
    clear hPc hDc hFc hP1 hD1 hk1 hz1 ht
    generalize H1 = H at hP hS ⊢
    obtain ⟨hv2, hq2, ha2⟩ := hw34
    have hzb : zb44 = false := Bool.eq_false_iff.mpr (fun z => hval (hv2.mp z))
    replace hzb := hzb.symm
    subst hzb
    have hP : va_P (dC, dI) vwCl (la_ws cJ cI h0 h1 n1 a1 e1 l1 b1 t1 h2 n2 a2 e2 l2 b2 t2 h4 c4 h3 k3 o3 w3 v3 p3 e3 f3 q3 g5 (nI n) (nI (sp_lc n L)) L yab92 yen93 ylf94 ybl95 ytr96 (nI n) (nI r) ymt97 (bs_i yp91) (gf_T n L) yyb99 yyn910 yyf911 yyl912 yyr913 (nI n) (nI x) yym914 (bs_i ys98) ybo916 (bs_i yw915) (nI 1) (nI n) ey ex (bs_i zk45) zrc35 zeg36 L zso37 zwi38 zew39 zlo40 zen41 zle42 zpi43 you917) H := hP
    have hD : va_D A (la_ws cJ cI h0 h1 n1 a1 e1 l1 b1 t1 h2 n2 a2 e2 l2 b2 t2 h4 c4 h3 k3 o3 w3 v3 p3 e3 f3 q3 g5 (nI n) (nI (sp_lc n L)) L yab92 yen93 ylf94 ybl95 ytr96 (nI n) (nI r) ymt97 (bs_i yp91) (gf_T n L) yyb99 yyn910 yyf911 yyl912 yyr913 (nI n) (nI x) yym914 (bs_i ys98) ybo916 (bs_i yw915) (nI 1) (nI n) ey ex (bs_i zk45) zrc35 zeg36 L zso37 zwi38 zew39 zlo40 zen41 zle42 zpi43 you917) := hD
    refine lv_lstore (lv' := [(6, .long r33), (5, .int (nI 1)), (0, .ref b), (1, .ref h0), (2, .ref h3), (3, .ref g5), (4, .int (nI i))]) hx hb d_L_law_932 hl (by decide) rfl (fun ls hl => ?_)
    refine lv_aload_n hx hb d_L_law_934 rfl (lv_at hl 4 rfl) ?_
    have hPc := (la_M hP hD hS hA).1
    refine vp_callSi (va_Run.run (va_runV (C := "FlowNestModel") (b := h3) (As := []) (rest := []) ⟨hx, hb, hml, hown, hts⟩ (c_M_thrown l dC dI cJ cI h3 k3 o3 w3 v3 p3 e3 f3 q3 (nI 1) (nI n) ey ex (bs_i zk45) zrc35 zeg36 L zso37 zwi38 zew39 zlo40 zen41 zle42 zpi43) (cwV 0 hts (nm_gV nm_460 nm_461 nm_462 nm_4 nm_c_M_thrown) rfl rfl rfl (by decide +kernel) ⟨Nat.le_of_ble_eq_true rfl, Nat.le_of_ble_eq_true rfl⟩) ⟨cw_blind, va_recv hK hPc (ci := 3) rfl (q0 := 0) rfl, cw_pre hPc hK hNw⟩ rfl rfl hl.1 rfl (lv_room (Nat.le_of_ble_eq_true rfl)) d_L_law_935 ⟨rm_c (by omega), rm_s (by omega)⟩)) (fun r46 hr47 => ?_)
    clear hPc
    subst hr47
    refine lv_iload hx hb d_L_law_938 (lv_at hl 1 rfl) ?_
    refine wl_ieq (tgt := 945) hx hb (by omega) (by omega) d_L_law_940 (by decide) (fun hc940 => ?_) (fun hc940 => ?_)
    · refine lv_iload hx hb d_L_law_945 (lv_at hl 1 rfl) ?_
      refine wl_ifnen (tgt := 961) hx hb (by omega) d_L_law_947 (by decide) (fun hc947 => ?_) (fun hc947 => ?_)
      · refine lv_goto (tgt := 1239) hx hb d_L_law_961 (by decide) ?_
        refine W.widen (k := cells + 2) (n := slots + 12) (by omega) (by omega) ?_
        exact back _ _ _ ⟨n, r, x, L, nI (sp_lc n L), gf_T n L, yp91, ys98, yw915, yab92, yen93, ylf94, ybl95, ytr96, ymt97, yyb99, yyn910, yyf911, yyl912, yyr913, yym914, ybo916, nI 1, ey, ex, zk45, zrc35, zeg36, zso37, zwi38, zew39, zlo40, zen41, zle42, zpi43, you917, hn, hL, hJ1, hJ2, hJ4, rfl, rfl, hz, hz0, hq2, hP, hD⟩ hS (lv_sub hl [2, 3, 4, 5, 6] rfl)
      · exact absurd hc947 (by decide)
    · exact absurd rfl hc940
set_option maxHeartbeats 4000000 in
set_option maxRecDepth 100000 in
theorem law_13 {p : Program} {l : Launch} {e : Env} {s : State} {m : MethodId} {below : List Frame} {meth : Method} {c : Code} {b Ln : Nat} {xs : Nat → Int32} {A : Nat → Prop} {Q : State → Prop} {dC : Nat → ClassId} {dI : Nat → Nat → Nat} {cJ cI : ClassId} {h0 h1 n1 a1 e1 l1 b1 t1 h2 n2 a2 e2 l2 b2 t2 h4 c4 h3 k3 o3 w3 v3 p3 e3 f3 q3 g5 sa sb : Nat} (C9 : lw_C p l s m c b Ln xs A dC dI cJ cI sa sb) {cells slots i : Nat} (hi : i + 4 ≤ Ln) (hc9 : cells + 2 ≤ 1053) (hs9 : slots + 12 ≤ 9256) (back : ∀ (H : Heap) (locs : List Loc) (ls : Array Slot), lw_J A dC dI cJ cI h0 h1 n1 a1 e1 l1 b1 t1 h2 n2 a2 e2 l2 b2 t2 h4 c4 h3 k3 o3 w3 v3 p3 e3 f3 q3 g5 H → va_S A s.heap H locs → lv_has ls 8 [(0, .ref b), (1, .ref h0), (2, .ref h3), (3, .ref g5), (4, .int (nI i))] → W p l e room_1 s m #[Value.ref b] below meth c H locs (cells + 2) (slots + 12) Q (F0 m 1239 ls [])) {H : Heap} {locs : List Loc} {ls : Array Slot} (hJ : lw_J A dC dI cJ cI h0 h1 n1 a1 e1 l1 b1 t1 h2 n2 a2 e2 l2 b2 t2 h4 c4 h3 k3 o3 w3 v3 p3 e3 f3 q3 g5 H) (hS : va_S A s.heap H locs) (hl : lv_has ls 8 [(0, .ref b), (1, .ref h0), (2, .ref h3), (3, .ref g5), (4, .int (nI i))]) : W p l e room_1 s m #[Value.ref b] below meth c H locs cells slots Q (F0 m 977 ls []) := by
  obtain ⟨hx, hb, hml, hown, hts, hNw, hK, hX0, hA1, hl9, hscr, hbl, hLn⟩ := C9
  have hA : ∀ q : Nat, s.heap.size ≤ q → A q := fun q h => (hA1 q).mpr h
  have hbA : ¬ A b := fun z => absurd ((hA1 b).mp z) (by omega)
  obtain ⟨n, r, x, L, fc, M, q1, q2, q4, ab, en, lf, bl, tr, mt, ab2, en2, lf2, bl2, tr2, mt2, bo, cd, ey, ex, q, rc, eg, so, wi, ew, lo, men, le, pi, ou, hn, hL, hI1, hI2, hI4, hfc, hM, hz, hz0, hq, hP, hD⟩ := hJ
  subst hfc
  subst hM
  have hP : va_P (dC, dI) vwCl (la_ws cJ cI h0 h1 n1 a1 e1 l1 b1 t1 h2 n2 a2 e2 l2 b2 t2 h4 c4 h3 k3 o3 w3 v3 p3 e3 f3 q3 g5 (nI n) (nI (sp_lc n L)) L ab en lf bl tr (nI n) (nI r) mt (bs_i q1) (gf_T n L) ab2 en2 lf2 bl2 tr2 (nI n) (nI x) mt2 (bs_i q2) bo (bs_i q4) cd (nI n) ey ex (bs_i q) rc eg L so wi ew lo men le pi ou) H := hP
  have hD : va_D A (la_ws cJ cI h0 h1 n1 a1 e1 l1 b1 t1 h2 n2 a2 e2 l2 b2 t2 h4 c4 h3 k3 o3 w3 v3 p3 e3 f3 q3 g5 (nI n) (nI (sp_lc n L)) L ab en lf bl tr (nI n) (nI r) mt (bs_i q1) (gf_T n L) ab2 en2 lf2 bl2 tr2 (nI n) (nI x) mt2 (bs_i q2) bo (bs_i q4) cd (nI n) ey ex (bs_i q) rc eg L so wi ew lo men le pi ou) := hD
  refine lv_aload_n hx hb d_L_law_977 rfl (lv_at hl 1 rfl) ?_
  refine lv_aload_n hx hb d_L_law_978 rfl (lv_at hl 0 rfl) ?_
  refine lv_iload hx hb d_L_law_979 (lv_at hl 4 rfl) ?_
  refine lv_iconst (v := nI 1) hx hb d_L_law_981 (by decide) ?_
  refine wl_iaddn hx hb d_L_law_982 ?_
  refine wl_sld hx hb hscr hbl hbA hS (i := (i + 1)) (by omega) hLn d_L_law_983 ?_
  refine lv_aload_n hx hb d_L_law_984 rfl (lv_at hl 3 rfl) ?_
  obtain ⟨hPc, hDc, hFc⟩ := la_L hP hD hS hA
  have hX := tx_kept hX0 hS.1 (fun q hq9 => hS.2.1 q hq9 (fun z => absurd ((hA1 q).mp z) (by omega)))
  refine va_calli (vx_runSW (As := [.ref h0, .int (xs (i + 1)), .ref g5]) (rest := []) ⟨hx, hb, hml, hown, hts⟩ (c_L_depth l hl9 dC dI cJ cI h0 h1 n1 a1 e1 l1 b1 t1 h2 n2 a2 e2 l2 b2 t2 h4 c4 g5 H.size sa sb ab en lf bl tr mt ab2 en2 lf2 bl2 tr2 mt2 bo ou n r x L q1 q2 q4 (xs (i + 1)) hn hL hI1 hI2 hI4) (vx_cwSW 3 hts (nm_gS nm_378 nm_379 nm_0 nm_c_L_depth) rfl rfl rfl (by decide +kernel) ⟨Nat.le_of_ble_eq_true rfl, Nat.le_of_ble_eq_true rfl⟩) ⟨cw_blindT, cw_preT hPc hDc hK hNw hX⟩ rfl rfl hl.1 rfl (lv_room (Nat.le_of_ble_eq_true rfl)) d_L_law_985 ⟨rm_c (by omega), rm_s (by omega)⟩) hS (fun q _ h => hFc q h) hFc (fun r1 u9 t H1 locs ht hvm hw hB hz1 hk1 hS => ?_)
  obtain ⟨yp91, yab92, yen93, ylf94, ybl95, ytr96, ymt97, ys98, yyb99, yyn910, yyf911, yyl912, yyr913, yym914, yw915, ybo916, you917⟩ := u9
  obtain ⟨hP1, hD1⟩ := hB
  rw [ht] at hP1
  obtain ⟨hP, hD⟩ := la_jL hP hD hk1 hFc hP1 hD1
  clear hPc hDc hFc hX hP1 hD1 hk1 hz1 ht
  generalize H1 = H at hP hS ⊢
  obtain ⟨⟨hJ1, hJ2, hJ4⟩, hw⟩ := hw
  rcases hw with ⟨hr1, k, hk_k, hk_v, hou⟩ | ⟨hr1, hval⟩
  · replace hr1 := hr1.symm
    subst hr1
    have hval : ∃ k, k < n ∧ xs (i + 1) = nI k := ⟨k, hk_k, hk_v⟩
    refine lv_istore (lv' := [(5, .int (nI 0)), (0, .ref b), (1, .ref h0), (2, .ref h3), (3, .ref g5), (4, .int (nI i))]) hx hb d_L_law_988 hl (by decide) rfl (fun ls hl => ?_)
    refine lv_aload_n hx hb d_L_law_990 rfl (lv_at hl 3 rfl) ?_
    refine lv_aload_n hx hb d_L_law_991 rfl (lv_at hl 1 rfl) ?_
    refine lv_iload hx hb d_L_law_992 (lv_at hl 5 rfl) ?_
    refine lv_iconst (v := nI 1) hx hb d_L_law_994 (by decide) ?_
    refine wl_iaddn hx hb d_L_law_995 ?_
    refine wl_sld hx hb hscr hbl hbA hS (i := (i + 1)) (by omega) hLn d_L_law_996 ?_
    obtain ⟨hPc, hDc, hFc⟩ := la_M hP hD hS hA
    refine va_calli (va_runV (C := "FlowNestModel") (b := h3) (As := [.int (xs (i + 1))]) (rest := []) ⟨hx, hb, hml, hown, hts⟩ (c_M_depth l dC dI cJ cI h3 k3 o3 w3 v3 p3 e3 f3 q3 H.size cd ey ex rc eg L so wi ew lo men le pi n r x q (xs (i + 1)) hn hz hL hq) (cwV 1 hts (nm_gV nm_560 nm_561 nm_562 nm_4 nm_c_M_depth) rfl rfl rfl (by decide +kernel) ⟨Nat.le_of_ble_eq_true rfl, Nat.le_of_ble_eq_true rfl⟩) ⟨cw_blindM, va_recv hK hPc (ci := 3) rfl (q0 := 0) rfl, cw_preM hPc hDc hK hNw⟩ rfl rfl hl.1 rfl (lv_room (Nat.le_of_ble_eq_true rfl)) d_L_law_997 ⟨rm_c (by omega), rm_s (by omega)⟩) hS (fun q _ h => hFc q h) hFc (fun r18 u9 t H1 locs ht hvm hw19 hB hz1 hk1 hS => ?_)
    obtain ⟨zrc20, zeg21, zso22, zwi23, zew24, zlo25, zen26, zle27, zpi28, zb29, zk30⟩ := u9
    obtain ⟨hP1, hD1⟩ := hB
    rw [ht] at hP1
    obtain ⟨hP, hD⟩ := la_jM hP hD hk1 hFc hP1 hD1
    clear hPc hDc hFc hP1 hD1 hk1 hz1 ht
    generalize H1 = H at hP hS ⊢
    obtain ⟨hv2, hq2, ha2⟩ := hw19
    have hzb : zb29 = true := hv2.mpr hval
    replace hzb := hzb.symm
    subst hzb
    have hP : va_P (dC, dI) vwCl (la_ws cJ cI h0 h1 n1 a1 e1 l1 b1 t1 h2 n2 a2 e2 l2 b2 t2 h4 c4 h3 k3 o3 w3 v3 p3 e3 f3 q3 g5 (nI n) (nI (sp_lc n L)) L yab92 yen93 ylf94 ybl95 ytr96 (nI n) (nI r) ymt97 (bs_i yp91) (gf_T n L) yyb99 yyn910 yyf911 yyl912 yyr913 (nI n) (nI x) yym914 (bs_i ys98) ybo916 (bs_i yw915) (nI 0) (nI n) ey ex (bs_i zk30) zrc20 zeg21 L zso22 zwi23 zew24 zlo25 zen26 zle27 zpi28 you917) H := hP
    have hD : va_D A (la_ws cJ cI h0 h1 n1 a1 e1 l1 b1 t1 h2 n2 a2 e2 l2 b2 t2 h4 c4 h3 k3 o3 w3 v3 p3 e3 f3 q3 g5 (nI n) (nI (sp_lc n L)) L yab92 yen93 ylf94 ybl95 ytr96 (nI n) (nI r) ymt97 (bs_i yp91) (gf_T n L) yyb99 yyn910 yyf911 yyl912 yyr913 (nI n) (nI x) yym914 (bs_i ys98) ybo916 (bs_i yw915) (nI 0) (nI n) ey ex (bs_i zk30) zrc20 zeg21 L zso22 zwi23 zew24 zlo25 zen26 zle27 zpi28 you917) := hD
    obtain ⟨k2, hk2, hv3, ha3⟩ := ha2 rfl
    have ek := nI_i (by omega) (by omega) (hk_v.symm.trans hv3)
    subst ek
    refine lv_istore (lv' := [(6, .int r18), (5, .int (nI 0)), (0, .ref b), (1, .ref h0), (2, .ref h3), (3, .ref g5), (4, .int (nI i))]) hx hb d_L_law_1000 hl (by decide) rfl (fun ls hl => ?_)
    refine lv_aload_n hx hb d_L_law_1002 rfl (lv_at hl 4 rfl) ?_
    have hPc := (la_M hP hD hS hA).1
    refine vp_callSi (va_Run.run (va_runV (C := "FlowNestModel") (b := h3) (As := []) (rest := []) ⟨hx, hb, hml, hown, hts⟩ (c_M_thrown l dC dI cJ cI h3 k3 o3 w3 v3 p3 e3 f3 q3 (nI 0) (nI n) ey ex (bs_i zk30) zrc20 zeg21 L zso22 zwi23 zew24 zlo25 zen26 zle27 zpi28) (cwV 0 hts (nm_gV nm_460 nm_461 nm_462 nm_4 nm_c_M_thrown) rfl rfl rfl (by decide +kernel) ⟨Nat.le_of_ble_eq_true rfl, Nat.le_of_ble_eq_true rfl⟩) ⟨cw_blind, va_recv hK hPc (ci := 3) rfl (q0 := 0) rfl, cw_pre hPc hK hNw⟩ rfl rfl hl.1 rfl (lv_room (Nat.le_of_ble_eq_true rfl)) d_L_law_1003 ⟨rm_c (by omega), rm_s (by omega)⟩)) (fun r31 hr32 => ?_)
    clear hPc
    subst hr32
    refine lv_iload hx hb d_L_law_1006 (lv_at hl 1 rfl) ?_
    refine wl_ieq (tgt := 1013) hx hb (by omega) (by omega) d_L_law_1008 (by decide) (fun hc1008 => ?_) (fun hc1008 => ?_)
    · refine lv_iload hx hb d_L_law_1013 (lv_at hl 1 rfl) ?_
      refine wl_ifnen (tgt := 1030) hx hb (by omega) d_L_law_1015 (by decide) (fun hc1015 => ?_) (fun hc1015 => ?_)
      · exact absurd hc1015 (by decide)
      · refine lv_aload_n hx hb d_L_law_1018 rfl (lv_at hl 5 rfl) ?_
        refine lv_iconst (v := nI 0) hx hb d_L_law_1019 (by decide) ?_
        refine wl_lald (i := 0) hx hb hK hP 26 0 rfl rfl (by omega) (by decide) d_L_law_1020 ?_
        refine lv_iload hx hb d_L_law_1021 (lv_at hl 0 rfl) ?_
        refine lv_i2l (v := r18.toInt64) hx hb d_L_law_1023 rfl ?_
        refine wl_lcmpeq (tgt := 1030) hx hb d_L_law_1024 d_L_law_1025 (by decide) (fun hc1024 => ?_) (fun hc1024 => ?_)
        · refine lv_goto (tgt := 1239) hx hb d_L_law_1030 (by decide) ?_
          refine W.widen (k := cells + 2) (n := slots + 12) (by omega) (by omega) ?_
          exact back _ _ _ ⟨n, r, x, L, nI (sp_lc n L), gf_T n L, yp91, ys98, yw915, yab92, yen93, ylf94, ybl95, ytr96, ymt97, yyb99, yyn910, yyf911, yyl912, yyr913, yym914, ybo916, nI 0, ey, ex, zk30, zrc20, zeg21, zso22, zwi23, zew24, zlo25, zen26, zle27, zpi28, you917, hn, hL, hJ1, hJ2, hJ4, rfl, rfl, hz, hz0, hq2, hP, hD⟩ hS (lv_sub hl [2, 3, 4, 5, 6] rfl)
        · exact absurd (by obtain ⟨z9, hz8, hz9⟩ := hou; rw [hz8, hz9, ha3]) hc1024
    · exact absurd rfl hc1008
  · replace hr1 := hr1.symm
    subst hr1
    refine lv_istore (lv' := [(5, .int (nI 1)), (0, .ref b), (1, .ref h0), (2, .ref h3), (3, .ref g5), (4, .int (nI i))]) hx hb d_L_law_988 hl (by decide) rfl (fun ls hl => ?_)
    refine lv_aload_n hx hb d_L_law_990 rfl (lv_at hl 3 rfl) ?_
    refine lv_aload_n hx hb d_L_law_991 rfl (lv_at hl 1 rfl) ?_
    refine lv_iload hx hb d_L_law_992 (lv_at hl 5 rfl) ?_
    refine lv_iconst (v := nI 1) hx hb d_L_law_994 (by decide) ?_
    refine wl_iaddn hx hb d_L_law_995 ?_
    refine wl_sld hx hb hscr hbl hbA hS (i := (i + 1)) (by omega) hLn d_L_law_996 ?_
    obtain ⟨hPc, hDc, hFc⟩ := la_M hP hD hS hA
    refine va_calli (va_runV (C := "FlowNestModel") (b := h3) (As := [.int (xs (i + 1))]) (rest := []) ⟨hx, hb, hml, hown, hts⟩ (c_M_depth l dC dI cJ cI h3 k3 o3 w3 v3 p3 e3 f3 q3 H.size cd ey ex rc eg L so wi ew lo men le pi n r x q (xs (i + 1)) hn hz hL hq) (cwV 1 hts (nm_gV nm_560 nm_561 nm_562 nm_4 nm_c_M_depth) rfl rfl rfl (by decide +kernel) ⟨Nat.le_of_ble_eq_true rfl, Nat.le_of_ble_eq_true rfl⟩) ⟨cw_blindM, va_recv hK hPc (ci := 3) rfl (q0 := 0) rfl, cw_preM hPc hDc hK hNw⟩ rfl rfl hl.1 rfl (lv_room (Nat.le_of_ble_eq_true rfl)) d_L_law_997 ⟨rm_c (by omega), rm_s (by omega)⟩) hS (fun q _ h => hFc q h) hFc (fun r33 u9 t H1 locs ht hvm hw34 hB hz1 hk1 hS => ?_)
    obtain ⟨zrc35, zeg36, zso37, zwi38, zew39, zlo40, zen41, zle42, zpi43, zb44, zk45⟩ := u9
    obtain ⟨hP1, hD1⟩ := hB
    rw [ht] at hP1
    obtain ⟨hP, hD⟩ := la_jM hP hD hk1 hFc hP1 hD1
    clear hPc hDc hFc hP1 hD1 hk1 hz1 ht
    generalize H1 = H at hP hS ⊢
    obtain ⟨hv2, hq2, ha2⟩ := hw34
    have hzb : zb44 = false := Bool.eq_false_iff.mpr (fun z => hval (hv2.mp z))
    replace hzb := hzb.symm
    subst hzb
    have hP : va_P (dC, dI) vwCl (la_ws cJ cI h0 h1 n1 a1 e1 l1 b1 t1 h2 n2 a2 e2 l2 b2 t2 h4 c4 h3 k3 o3 w3 v3 p3 e3 f3 q3 g5 (nI n) (nI (sp_lc n L)) L yab92 yen93 ylf94 ybl95 ytr96 (nI n) (nI r) ymt97 (bs_i yp91) (gf_T n L) yyb99 yyn910 yyf911 yyl912 yyr913 (nI n) (nI x) yym914 (bs_i ys98) ybo916 (bs_i yw915) (nI 1) (nI n) ey ex (bs_i zk45) zrc35 zeg36 L zso37 zwi38 zew39 zlo40 zen41 zle42 zpi43 you917) H := hP
    have hD : va_D A (la_ws cJ cI h0 h1 n1 a1 e1 l1 b1 t1 h2 n2 a2 e2 l2 b2 t2 h4 c4 h3 k3 o3 w3 v3 p3 e3 f3 q3 g5 (nI n) (nI (sp_lc n L)) L yab92 yen93 ylf94 ybl95 ytr96 (nI n) (nI r) ymt97 (bs_i yp91) (gf_T n L) yyb99 yyn910 yyf911 yyl912 yyr913 (nI n) (nI x) yym914 (bs_i ys98) ybo916 (bs_i yw915) (nI 1) (nI n) ey ex (bs_i zk45) zrc35 zeg36 L zso37 zwi38 zew39 zlo40 zen41 zle42 zpi43 you917) := hD
    refine lv_istore (lv' := [(6, .int r33), (5, .int (nI 1)), (0, .ref b), (1, .ref h0), (2, .ref h3), (3, .ref g5), (4, .int (nI i))]) hx hb d_L_law_1000 hl (by decide) rfl (fun ls hl => ?_)
    refine lv_aload_n hx hb d_L_law_1002 rfl (lv_at hl 4 rfl) ?_
    have hPc := (la_M hP hD hS hA).1
    refine vp_callSi (va_Run.run (va_runV (C := "FlowNestModel") (b := h3) (As := []) (rest := []) ⟨hx, hb, hml, hown, hts⟩ (c_M_thrown l dC dI cJ cI h3 k3 o3 w3 v3 p3 e3 f3 q3 (nI 1) (nI n) ey ex (bs_i zk45) zrc35 zeg36 L zso37 zwi38 zew39 zlo40 zen41 zle42 zpi43) (cwV 0 hts (nm_gV nm_460 nm_461 nm_462 nm_4 nm_c_M_thrown) rfl rfl rfl (by decide +kernel) ⟨Nat.le_of_ble_eq_true rfl, Nat.le_of_ble_eq_true rfl⟩) ⟨cw_blind, va_recv hK hPc (ci := 3) rfl (q0 := 0) rfl, cw_pre hPc hK hNw⟩ rfl rfl hl.1 rfl (lv_room (Nat.le_of_ble_eq_true rfl)) d_L_law_1003 ⟨rm_c (by omega), rm_s (by omega)⟩)) (fun r46 hr47 => ?_)
    clear hPc
    subst hr47
    refine lv_iload hx hb d_L_law_1006 (lv_at hl 1 rfl) ?_
    refine wl_ieq (tgt := 1013) hx hb (by omega) (by omega) d_L_law_1008 (by decide) (fun hc1008 => ?_) (fun hc1008 => ?_)
    · refine lv_iload hx hb d_L_law_1013 (lv_at hl 1 rfl) ?_
      refine wl_ifnen (tgt := 1030) hx hb (by omega) d_L_law_1015 (by decide) (fun hc1015 => ?_) (fun hc1015 => ?_)
      · refine lv_goto (tgt := 1239) hx hb d_L_law_1030 (by decide) ?_
        refine W.widen (k := cells + 2) (n := slots + 12) (by omega) (by omega) ?_
        exact back _ _ _ ⟨n, r, x, L, nI (sp_lc n L), gf_T n L, yp91, ys98, yw915, yab92, yen93, ylf94, ybl95, ytr96, ymt97, yyb99, yyn910, yyf911, yyl912, yyr913, yym914, ybo916, nI 1, ey, ex, zk45, zrc35, zeg36, zso37, zwi38, zew39, zlo40, zen41, zle42, zpi43, you917, hn, hL, hJ1, hJ2, hJ4, rfl, rfl, hz, hz0, hq2, hP, hD⟩ hS (lv_sub hl [2, 3, 4, 5, 6] rfl)
      · exact absurd hc1015 (by decide)
    · exact absurd rfl hc1008
set_option maxHeartbeats 4000000 in
set_option maxRecDepth 100000 in
theorem law_14 {p : Program} {l : Launch} {e : Env} {s : State} {m : MethodId} {below : List Frame} {meth : Method} {c : Code} {b Ln : Nat} {xs : Nat → Int32} {A : Nat → Prop} {Q : State → Prop} {dC : Nat → ClassId} {dI : Nat → Nat → Nat} {cJ cI : ClassId} {h0 h1 n1 a1 e1 l1 b1 t1 h2 n2 a2 e2 l2 b2 t2 h4 c4 h3 k3 o3 w3 v3 p3 e3 f3 q3 g5 sa sb : Nat} (C9 : lw_C p l s m c b Ln xs A dC dI cJ cI sa sb) {cells slots i : Nat} (hi : i + 4 ≤ Ln) (hc9 : cells + 2 ≤ 1053) (hs9 : slots + 12 ≤ 9256) (back : ∀ (H : Heap) (locs : List Loc) (ls : Array Slot), lw_J A dC dI cJ cI h0 h1 n1 a1 e1 l1 b1 t1 h2 n2 a2 e2 l2 b2 t2 h4 c4 h3 k3 o3 w3 v3 p3 e3 f3 q3 g5 H → va_S A s.heap H locs → lv_has ls 8 [(0, .ref b), (1, .ref h0), (2, .ref h3), (3, .ref g5), (4, .int (nI i))] → W p l e room_1 s m #[Value.ref b] below meth c H locs (cells + 2) (slots + 12) Q (F0 m 1239 ls [])) {H : Heap} {locs : List Loc} {ls : Array Slot} (hJ : lw_J A dC dI cJ cI h0 h1 n1 a1 e1 l1 b1 t1 h2 n2 a2 e2 l2 b2 t2 h4 c4 h3 k3 o3 w3 v3 p3 e3 f3 q3 g5 H) (hS : va_S A s.heap H locs) (hl : lv_has ls 8 [(0, .ref b), (1, .ref h0), (2, .ref h3), (3, .ref g5), (4, .int (nI i))]) : W p l e room_1 s m #[Value.ref b] below meth c H locs cells slots Q (F0 m 1033 ls []) := by
  obtain ⟨hx, hb, hml, hown, hts, hNw, hK, hX0, hA1, hl9, hscr, hbl, hLn⟩ := C9
  have hA : ∀ q : Nat, s.heap.size ≤ q → A q := fun q h => (hA1 q).mpr h
  have hbA : ¬ A b := fun z => absurd ((hA1 b).mp z) (by omega)
  obtain ⟨n, r, x, L, fc, M, q1, q2, q4, ab, en, lf, bl, tr, mt, ab2, en2, lf2, bl2, tr2, mt2, bo, cd, ey, ex, q, rc, eg, so, wi, ew, lo, men, le, pi, ou, hn, hL, hI1, hI2, hI4, hfc, hM, hz, hz0, hq, hP, hD⟩ := hJ
  subst hfc
  subst hM
  have hP : va_P (dC, dI) vwCl (la_ws cJ cI h0 h1 n1 a1 e1 l1 b1 t1 h2 n2 a2 e2 l2 b2 t2 h4 c4 h3 k3 o3 w3 v3 p3 e3 f3 q3 g5 (nI n) (nI (sp_lc n L)) L ab en lf bl tr (nI n) (nI r) mt (bs_i q1) (gf_T n L) ab2 en2 lf2 bl2 tr2 (nI n) (nI x) mt2 (bs_i q2) bo (bs_i q4) cd (nI n) ey ex (bs_i q) rc eg L so wi ew lo men le pi ou) H := hP
  have hD : va_D A (la_ws cJ cI h0 h1 n1 a1 e1 l1 b1 t1 h2 n2 a2 e2 l2 b2 t2 h4 c4 h3 k3 o3 w3 v3 p3 e3 f3 q3 g5 (nI n) (nI (sp_lc n L)) L ab en lf bl tr (nI n) (nI r) mt (bs_i q1) (gf_T n L) ab2 en2 lf2 bl2 tr2 (nI n) (nI x) mt2 (bs_i q2) bo (bs_i q4) cd (nI n) ey ex (bs_i q) rc eg L so wi ew lo men le pi ou) := hD
  refine lv_aload_n hx hb d_L_law_1033 rfl (lv_at hl 1 rfl) ?_
  refine lv_aload_n hx hb d_L_law_1034 rfl (lv_at hl 0 rfl) ?_
  refine lv_iload hx hb d_L_law_1035 (lv_at hl 4 rfl) ?_
  refine lv_iconst (v := nI 1) hx hb d_L_law_1037 (by decide) ?_
  refine wl_iaddn hx hb d_L_law_1038 ?_
  refine wl_sld hx hb hscr hbl hbA hS (i := (i + 1)) (by omega) hLn d_L_law_1039 ?_
  refine lv_aload_n hx hb d_L_law_1040 rfl (lv_at hl 0 rfl) ?_
  refine lv_iload hx hb d_L_law_1041 (lv_at hl 4 rfl) ?_
  refine lv_iconst (v := nI 2) hx hb d_L_law_1043 (by decide) ?_
  refine wl_iaddn hx hb d_L_law_1044 ?_
  refine wl_sld hx hb hscr hbl hbA hS (i := (i + 2)) (by omega) hLn d_L_law_1045 ?_
  refine lv_if_eq (tgt := 1053) hx hb d_L_law_1046 (by decide) (fun hc1046 => ?_) (fun hc1046 => ?_)
  · refine lv_iconst (v := nI 0) hx hb d_L_law_1053 (by decide) ?_
    refine lv_aload_n hx hb d_L_law_1054 rfl (lv_at hl 3 rfl) ?_
    refine W.eq (g2 := F0 m 1055 ls [.ref g5, .int (bs_i false), .int (xs (i + 1)), .ref h0]) rfl ?_
    obtain ⟨hPc, hDc, hFc⟩ := la_L hP hD hS hA
    have hX := tx_kept hX0 hS.1 (fun q hq9 => hS.2.1 q hq9 (fun z => absurd ((hA1 q).mp z) (by omega)))
    refine va_calli (vx_runSW (As := [.ref h0, .int (xs (i + 1)), .int (bs_i false), .ref g5]) (rest := []) ⟨hx, hb, hml, hown, hts⟩ (c_L_header l hl9 dC dI cJ cI h0 h1 n1 a1 e1 l1 b1 t1 h2 n2 a2 e2 l2 b2 t2 h4 c4 g5 H.size sa sb ab en lf bl tr mt ab2 en2 lf2 bl2 tr2 mt2 bo ou n r x L q1 q2 q4 (xs (i + 1)) false hn hL hI1 hI2 hI4) (vx_cwSW 4 hts (nm_gS nm_389 nm_390 nm_0 nm_c_L_header) rfl rfl rfl (by decide +kernel) ⟨Nat.le_of_ble_eq_true rfl, Nat.le_of_ble_eq_true rfl⟩) ⟨cw_blindT, cw_preT hPc hDc hK hNw hX⟩ rfl rfl hl.1 rfl (lv_room (Nat.le_of_ble_eq_true rfl)) d_L_law_1055 ⟨rm_c (by omega), rm_s (by omega)⟩) hS (fun q _ h => hFc q h) hFc (fun r1 u9 t H1 locs ht hvm hw hB hz1 hk1 hS => ?_)
    obtain ⟨yp91, yab92, yen93, ylf94, ybl95, ytr96, ymt97, ys98, yyb99, yyn910, yyf911, yyl912, yyr913, yym914, yw915, ybo916, you917⟩ := u9
    obtain ⟨hP1, hD1⟩ := hB
    rw [ht] at hP1
    obtain ⟨hP, hD⟩ := la_jL hP hD hk1 hFc hP1 hD1
    clear hPc hDc hFc hX hP1 hD1 hk1 hz1 ht
    generalize H1 = H at hP hS ⊢
    obtain ⟨⟨hJ1, hJ2, hJ4⟩, hw⟩ := hw
    rcases hw with ⟨hr1, k, hk_k, hk_v, hou⟩ | ⟨hr1, hval⟩
    · replace hr1 := hr1.symm
      subst hr1
      have hval : ∃ k, k < n ∧ xs (i + 1) = nI k := ⟨k, hk_k, hk_v⟩
      refine lv_istore (lv' := [(5, .int (nI 0)), (0, .ref b), (1, .ref h0), (2, .ref h3), (3, .ref g5), (4, .int (nI i))]) hx hb d_L_law_1058 hl (by decide) rfl (fun ls hl => ?_)
      refine lv_aload_n hx hb d_L_law_1060 rfl (lv_at hl 3 rfl) ?_
      refine lv_aload_n hx hb d_L_law_1061 rfl (lv_at hl 1 rfl) ?_
      refine lv_iload hx hb d_L_law_1062 (lv_at hl 5 rfl) ?_
      refine lv_iconst (v := nI 1) hx hb d_L_law_1064 (by decide) ?_
      refine wl_iaddn hx hb d_L_law_1065 ?_
      refine wl_sld hx hb hscr hbl hbA hS (i := (i + 1)) (by omega) hLn d_L_law_1066 ?_
      refine lv_aload_n hx hb d_L_law_1067 rfl (lv_at hl 1 rfl) ?_
      refine lv_iload hx hb d_L_law_1068 (lv_at hl 5 rfl) ?_
      refine lv_iconst (v := nI 2) hx hb d_L_law_1070 (by decide) ?_
      refine wl_iaddn hx hb d_L_law_1071 ?_
      refine wl_sld hx hb hscr hbl hbA hS (i := (i + 2)) (by omega) hLn d_L_law_1072 ?_
      refine lv_if_eq (tgt := 1080) hx hb d_L_law_1073 (by decide) (fun hc1073 => ?_) (fun hc1073 => ?_)
      · refine lv_iconst (v := nI 0) hx hb d_L_law_1080 (by decide) ?_
        refine W.eq (g2 := F0 m 1081 ls [.int (bs_i false), .int (xs (i + 1)), .ref h3]) rfl ?_
        obtain ⟨hPc, hDc, hFc⟩ := la_M hP hD hS hA
        refine va_calli (va_runV (C := "FlowNestModel") (b := h3) (As := [.int (xs (i + 1)), .int (bs_i false)]) (rest := []) ⟨hx, hb, hml, hown, hts⟩ (c_M_header l dC dI cJ cI h3 k3 o3 w3 v3 p3 e3 f3 q3 H.size cd ey ex rc eg L so wi ew lo men le pi n r x q (xs (i + 1)) false hn hz hL hq) (cwV 2 hts (nm_gV nm_564 nm_565 nm_566 nm_4 nm_c_M_header) rfl rfl rfl (by decide +kernel) ⟨Nat.le_of_ble_eq_true rfl, Nat.le_of_ble_eq_true rfl⟩) ⟨cw_blindM, va_recv hK hPc (ci := 3) rfl (q0 := 0) rfl, cw_preM hPc hDc hK hNw⟩ rfl rfl hl.1 rfl (lv_room (Nat.le_of_ble_eq_true rfl)) d_L_law_1081 ⟨rm_c (by omega), rm_s (by omega)⟩) hS (fun q _ h => hFc q h) hFc (fun r18 u9 t H1 locs ht hvm hw19 hB hz1 hk1 hS => ?_)
        obtain ⟨zrc20, zeg21, zso22, zwi23, zew24, zlo25, zen26, zle27, zpi28, zb29, zk30⟩ := u9
        obtain ⟨hP1, hD1⟩ := hB
        rw [ht] at hP1
        obtain ⟨hP, hD⟩ := la_jM hP hD hk1 hFc hP1 hD1
        clear hPc hDc hFc hP1 hD1 hk1 hz1 ht
        generalize H1 = H at hP hS ⊢
        obtain ⟨hv2, hq2, ha2⟩ := hw19
        have hzb : zb29 = true := hv2.mpr hval
        replace hzb := hzb.symm
        subst hzb
        have hP : va_P (dC, dI) vwCl (la_ws cJ cI h0 h1 n1 a1 e1 l1 b1 t1 h2 n2 a2 e2 l2 b2 t2 h4 c4 h3 k3 o3 w3 v3 p3 e3 f3 q3 g5 (nI n) (nI (sp_lc n L)) L yab92 yen93 ylf94 ybl95 ytr96 (nI n) (nI r) ymt97 (bs_i yp91) (gf_T n L) yyb99 yyn910 yyf911 yyl912 yyr913 (nI n) (nI x) yym914 (bs_i ys98) ybo916 (bs_i yw915) (nI 0) (nI n) ey ex (bs_i zk30) zrc20 zeg21 L zso22 zwi23 zew24 zlo25 zen26 zle27 zpi28 you917) H := hP
        have hD : va_D A (la_ws cJ cI h0 h1 n1 a1 e1 l1 b1 t1 h2 n2 a2 e2 l2 b2 t2 h4 c4 h3 k3 o3 w3 v3 p3 e3 f3 q3 g5 (nI n) (nI (sp_lc n L)) L yab92 yen93 ylf94 ybl95 ytr96 (nI n) (nI r) ymt97 (bs_i yp91) (gf_T n L) yyb99 yyn910 yyf911 yyl912 yyr913 (nI n) (nI x) yym914 (bs_i ys98) ybo916 (bs_i yw915) (nI 0) (nI n) ey ex (bs_i zk30) zrc20 zeg21 L zso22 zwi23 zew24 zlo25 zen26 zle27 zpi28 you917) := hD
        obtain ⟨k2, hk2, hv3, ha3⟩ := ha2 rfl
        have ek := nI_i (by omega) (by omega) (hk_v.symm.trans hv3)
        subst ek
        refine lv_istore (lv' := [(6, .int r18), (5, .int (nI 0)), (0, .ref b), (1, .ref h0), (2, .ref h3), (3, .ref g5), (4, .int (nI i))]) hx hb d_L_law_1084 hl (by decide) rfl (fun ls hl => ?_)
        refine lv_aload_n hx hb d_L_law_1086 rfl (lv_at hl 4 rfl) ?_
        have hPc := (la_M hP hD hS hA).1
        refine vp_callSi (va_Run.run (va_runV (C := "FlowNestModel") (b := h3) (As := []) (rest := []) ⟨hx, hb, hml, hown, hts⟩ (c_M_thrown l dC dI cJ cI h3 k3 o3 w3 v3 p3 e3 f3 q3 (nI 0) (nI n) ey ex (bs_i zk30) zrc20 zeg21 L zso22 zwi23 zew24 zlo25 zen26 zle27 zpi28) (cwV 0 hts (nm_gV nm_460 nm_461 nm_462 nm_4 nm_c_M_thrown) rfl rfl rfl (by decide +kernel) ⟨Nat.le_of_ble_eq_true rfl, Nat.le_of_ble_eq_true rfl⟩) ⟨cw_blind, va_recv hK hPc (ci := 3) rfl (q0 := 0) rfl, cw_pre hPc hK hNw⟩ rfl rfl hl.1 rfl (lv_room (Nat.le_of_ble_eq_true rfl)) d_L_law_1087 ⟨rm_c (by omega), rm_s (by omega)⟩)) (fun r31 hr32 => ?_)
        clear hPc
        subst hr32
        refine lv_iload hx hb d_L_law_1090 (lv_at hl 1 rfl) ?_
        refine wl_ieq (tgt := 1097) hx hb (by omega) (by omega) d_L_law_1092 (by decide) (fun hc1092 => ?_) (fun hc1092 => ?_)
        · refine lv_iload hx hb d_L_law_1097 (lv_at hl 1 rfl) ?_
          refine wl_ifnen (tgt := 1114) hx hb (by omega) d_L_law_1099 (by decide) (fun hc1099 => ?_) (fun hc1099 => ?_)
          · exact absurd hc1099 (by decide)
          · refine lv_aload_n hx hb d_L_law_1102 rfl (lv_at hl 5 rfl) ?_
            refine lv_iconst (v := nI 0) hx hb d_L_law_1103 (by decide) ?_
            refine wl_lald (i := 0) hx hb hK hP 26 0 rfl rfl (by omega) (by decide) d_L_law_1104 ?_
            refine lv_iload hx hb d_L_law_1105 (lv_at hl 0 rfl) ?_
            refine lv_i2l (v := r18.toInt64) hx hb d_L_law_1107 rfl ?_
            refine wl_lcmpeq (tgt := 1114) hx hb d_L_law_1108 d_L_law_1109 (by decide) (fun hc1108 => ?_) (fun hc1108 => ?_)
            · refine lv_goto (tgt := 1239) hx hb d_L_law_1114 (by decide) ?_
              refine W.widen (k := cells + 2) (n := slots + 12) (by omega) (by omega) ?_
              exact back _ _ _ ⟨n, r, x, L, nI (sp_lc n L), gf_T n L, yp91, ys98, yw915, yab92, yen93, ylf94, ybl95, ytr96, ymt97, yyb99, yyn910, yyf911, yyl912, yyr913, yym914, ybo916, nI 0, ey, ex, zk30, zrc20, zeg21, zso22, zwi23, zew24, zlo25, zen26, zle27, zpi28, you917, hn, hL, hJ1, hJ2, hJ4, rfl, rfl, hz, hz0, hq2, hP, hD⟩ hS (lv_sub hl [2, 3, 4, 5, 6] rfl)
            · exact absurd (by obtain ⟨z9, hz8, hz9⟩ := hou; rw [hz8, hz9, ha3]) hc1108
        · exact absurd rfl hc1092
      · exact absurd hc1046 hc1073
    · replace hr1 := hr1.symm
      subst hr1
      refine lv_istore (lv' := [(5, .int (nI 1)), (0, .ref b), (1, .ref h0), (2, .ref h3), (3, .ref g5), (4, .int (nI i))]) hx hb d_L_law_1058 hl (by decide) rfl (fun ls hl => ?_)
      refine lv_aload_n hx hb d_L_law_1060 rfl (lv_at hl 3 rfl) ?_
      refine lv_aload_n hx hb d_L_law_1061 rfl (lv_at hl 1 rfl) ?_
      refine lv_iload hx hb d_L_law_1062 (lv_at hl 5 rfl) ?_
      refine lv_iconst (v := nI 1) hx hb d_L_law_1064 (by decide) ?_
      refine wl_iaddn hx hb d_L_law_1065 ?_
      refine wl_sld hx hb hscr hbl hbA hS (i := (i + 1)) (by omega) hLn d_L_law_1066 ?_
      refine lv_aload_n hx hb d_L_law_1067 rfl (lv_at hl 1 rfl) ?_
      refine lv_iload hx hb d_L_law_1068 (lv_at hl 5 rfl) ?_
      refine lv_iconst (v := nI 2) hx hb d_L_law_1070 (by decide) ?_
      refine wl_iaddn hx hb d_L_law_1071 ?_
      refine wl_sld hx hb hscr hbl hbA hS (i := (i + 2)) (by omega) hLn d_L_law_1072 ?_
      refine lv_if_eq (tgt := 1080) hx hb d_L_law_1073 (by decide) (fun hc1073 => ?_) (fun hc1073 => ?_)
      · refine lv_iconst (v := nI 0) hx hb d_L_law_1080 (by decide) ?_
        refine W.eq (g2 := F0 m 1081 ls [.int (bs_i false), .int (xs (i + 1)), .ref h3]) rfl ?_
        obtain ⟨hPc, hDc, hFc⟩ := la_M hP hD hS hA
        refine va_calli (va_runV (C := "FlowNestModel") (b := h3) (As := [.int (xs (i + 1)), .int (bs_i false)]) (rest := []) ⟨hx, hb, hml, hown, hts⟩ (c_M_header l dC dI cJ cI h3 k3 o3 w3 v3 p3 e3 f3 q3 H.size cd ey ex rc eg L so wi ew lo men le pi n r x q (xs (i + 1)) false hn hz hL hq) (cwV 2 hts (nm_gV nm_564 nm_565 nm_566 nm_4 nm_c_M_header) rfl rfl rfl (by decide +kernel) ⟨Nat.le_of_ble_eq_true rfl, Nat.le_of_ble_eq_true rfl⟩) ⟨cw_blindM, va_recv hK hPc (ci := 3) rfl (q0 := 0) rfl, cw_preM hPc hDc hK hNw⟩ rfl rfl hl.1 rfl (lv_room (Nat.le_of_ble_eq_true rfl)) d_L_law_1081 ⟨rm_c (by omega), rm_s (by omega)⟩) hS (fun q _ h => hFc q h) hFc (fun r33 u9 t H1 locs ht hvm hw34 hB hz1 hk1 hS => ?_)
        obtain ⟨zrc35, zeg36, zso37, zwi38, zew39, zlo40, zen41, zle42, zpi43, zb44, zk45⟩ := u9
        obtain ⟨hP1, hD1⟩ := hB
        rw [ht] at hP1
        obtain ⟨hP, hD⟩ := la_jM hP hD hk1 hFc hP1 hD1
        clear hPc hDc hFc hP1 hD1 hk1 hz1 ht
        generalize H1 = H at hP hS ⊢
        obtain ⟨hv2, hq2, ha2⟩ := hw34
        have hzb : zb44 = false := Bool.eq_false_iff.mpr (fun z => hval (hv2.mp z))
        replace hzb := hzb.symm
        subst hzb
        have hP : va_P (dC, dI) vwCl (la_ws cJ cI h0 h1 n1 a1 e1 l1 b1 t1 h2 n2 a2 e2 l2 b2 t2 h4 c4 h3 k3 o3 w3 v3 p3 e3 f3 q3 g5 (nI n) (nI (sp_lc n L)) L yab92 yen93 ylf94 ybl95 ytr96 (nI n) (nI r) ymt97 (bs_i yp91) (gf_T n L) yyb99 yyn910 yyf911 yyl912 yyr913 (nI n) (nI x) yym914 (bs_i ys98) ybo916 (bs_i yw915) (nI 1) (nI n) ey ex (bs_i zk45) zrc35 zeg36 L zso37 zwi38 zew39 zlo40 zen41 zle42 zpi43 you917) H := hP
        have hD : va_D A (la_ws cJ cI h0 h1 n1 a1 e1 l1 b1 t1 h2 n2 a2 e2 l2 b2 t2 h4 c4 h3 k3 o3 w3 v3 p3 e3 f3 q3 g5 (nI n) (nI (sp_lc n L)) L yab92 yen93 ylf94 ybl95 ytr96 (nI n) (nI r) ymt97 (bs_i yp91) (gf_T n L) yyb99 yyn910 yyf911 yyl912 yyr913 (nI n) (nI x) yym914 (bs_i ys98) ybo916 (bs_i yw915) (nI 1) (nI n) ey ex (bs_i zk45) zrc35 zeg36 L zso37 zwi38 zew39 zlo40 zen41 zle42 zpi43 you917) := hD
        refine lv_istore (lv' := [(6, .int r33), (5, .int (nI 1)), (0, .ref b), (1, .ref h0), (2, .ref h3), (3, .ref g5), (4, .int (nI i))]) hx hb d_L_law_1084 hl (by decide) rfl (fun ls hl => ?_)
        refine lv_aload_n hx hb d_L_law_1086 rfl (lv_at hl 4 rfl) ?_
        have hPc := (la_M hP hD hS hA).1
        refine vp_callSi (va_Run.run (va_runV (C := "FlowNestModel") (b := h3) (As := []) (rest := []) ⟨hx, hb, hml, hown, hts⟩ (c_M_thrown l dC dI cJ cI h3 k3 o3 w3 v3 p3 e3 f3 q3 (nI 1) (nI n) ey ex (bs_i zk45) zrc35 zeg36 L zso37 zwi38 zew39 zlo40 zen41 zle42 zpi43) (cwV 0 hts (nm_gV nm_460 nm_461 nm_462 nm_4 nm_c_M_thrown) rfl rfl rfl (by decide +kernel) ⟨Nat.le_of_ble_eq_true rfl, Nat.le_of_ble_eq_true rfl⟩) ⟨cw_blind, va_recv hK hPc (ci := 3) rfl (q0 := 0) rfl, cw_pre hPc hK hNw⟩ rfl rfl hl.1 rfl (lv_room (Nat.le_of_ble_eq_true rfl)) d_L_law_1087 ⟨rm_c (by omega), rm_s (by omega)⟩)) (fun r46 hr47 => ?_)
        clear hPc
        subst hr47
        refine lv_iload hx hb d_L_law_1090 (lv_at hl 1 rfl) ?_
        refine wl_ieq (tgt := 1097) hx hb (by omega) (by omega) d_L_law_1092 (by decide) (fun hc1092 => ?_) (fun hc1092 => ?_)
        · refine lv_iload hx hb d_L_law_1097 (lv_at hl 1 rfl) ?_
          refine wl_ifnen (tgt := 1114) hx hb (by omega) d_L_law_1099 (by decide) (fun hc1099 => ?_) (fun hc1099 => ?_)
          · refine lv_goto (tgt := 1239) hx hb d_L_law_1114 (by decide) ?_
            refine W.widen (k := cells + 2) (n := slots + 12) (by omega) (by omega) ?_
            exact back _ _ _ ⟨n, r, x, L, nI (sp_lc n L), gf_T n L, yp91, ys98, yw915, yab92, yen93, ylf94, ybl95, ytr96, ymt97, yyb99, yyn910, yyf911, yyl912, yyr913, yym914, ybo916, nI 1, ey, ex, zk45, zrc35, zeg36, zso37, zwi38, zew39, zlo40, zen41, zle42, zpi43, you917, hn, hL, hJ1, hJ2, hJ4, rfl, rfl, hz, hz0, hq2, hP, hD⟩ hS (lv_sub hl [2, 3, 4, 5, 6] rfl)
          · exact absurd hc1099 (by decide)
        · exact absurd rfl hc1092
      · exact absurd hc1046 hc1073
  · refine lv_iconst (v := nI 1) hx hb d_L_law_1049 (by decide) ?_
    refine lv_goto (tgt := 1054) hx hb d_L_law_1050 (by decide) ?_
    refine lv_aload_n hx hb d_L_law_1054 rfl (lv_at hl 3 rfl) ?_
    refine W.eq (g2 := F0 m 1055 ls [.ref g5, .int (bs_i true), .int (xs (i + 1)), .ref h0]) rfl ?_
    obtain ⟨hPc, hDc, hFc⟩ := la_L hP hD hS hA
    have hX := tx_kept hX0 hS.1 (fun q hq9 => hS.2.1 q hq9 (fun z => absurd ((hA1 q).mp z) (by omega)))
    refine va_calli (vx_runSW (As := [.ref h0, .int (xs (i + 1)), .int (bs_i true), .ref g5]) (rest := []) ⟨hx, hb, hml, hown, hts⟩ (c_L_header l hl9 dC dI cJ cI h0 h1 n1 a1 e1 l1 b1 t1 h2 n2 a2 e2 l2 b2 t2 h4 c4 g5 H.size sa sb ab en lf bl tr mt ab2 en2 lf2 bl2 tr2 mt2 bo ou n r x L q1 q2 q4 (xs (i + 1)) true hn hL hI1 hI2 hI4) (vx_cwSW 4 hts (nm_gS nm_389 nm_390 nm_0 nm_c_L_header) rfl rfl rfl (by decide +kernel) ⟨Nat.le_of_ble_eq_true rfl, Nat.le_of_ble_eq_true rfl⟩) ⟨cw_blindT, cw_preT hPc hDc hK hNw hX⟩ rfl rfl hl.1 rfl (lv_room (Nat.le_of_ble_eq_true rfl)) d_L_law_1055 ⟨rm_c (by omega), rm_s (by omega)⟩) hS (fun q _ h => hFc q h) hFc (fun r1 u9 t H1 locs ht hvm hw hB hz1 hk1 hS => ?_)
    obtain ⟨yp948, yab949, yen950, ylf951, ybl952, ytr953, ymt954, ys955, yyb956, yyn957, yyf958, yyl959, yyr960, yym961, yw962, ybo963, you964⟩ := u9
    obtain ⟨hP1, hD1⟩ := hB
    rw [ht] at hP1
    obtain ⟨hP, hD⟩ := la_jL hP hD hk1 hFc hP1 hD1
    clear hPc hDc hFc hX hP1 hD1 hk1 hz1 ht
    generalize H1 = H at hP hS ⊢
    obtain ⟨⟨hJ1, hJ2, hJ4⟩, hw⟩ := hw
    rcases hw with ⟨hr1, k, hk_k, hk_v, hou⟩ | ⟨hr1, hval⟩
    · replace hr1 := hr1.symm
      subst hr1
      have hval : ∃ k, k < n ∧ xs (i + 1) = nI k := ⟨k, hk_k, hk_v⟩
      refine lv_istore (lv' := [(5, .int (nI 0)), (0, .ref b), (1, .ref h0), (2, .ref h3), (3, .ref g5), (4, .int (nI i))]) hx hb d_L_law_1058 hl (by decide) rfl (fun ls hl => ?_)
      refine lv_aload_n hx hb d_L_law_1060 rfl (lv_at hl 3 rfl) ?_
      refine lv_aload_n hx hb d_L_law_1061 rfl (lv_at hl 1 rfl) ?_
      refine lv_iload hx hb d_L_law_1062 (lv_at hl 5 rfl) ?_
      refine lv_iconst (v := nI 1) hx hb d_L_law_1064 (by decide) ?_
      refine wl_iaddn hx hb d_L_law_1065 ?_
      refine wl_sld hx hb hscr hbl hbA hS (i := (i + 1)) (by omega) hLn d_L_law_1066 ?_
      refine lv_aload_n hx hb d_L_law_1067 rfl (lv_at hl 1 rfl) ?_
      refine lv_iload hx hb d_L_law_1068 (lv_at hl 5 rfl) ?_
      refine lv_iconst (v := nI 2) hx hb d_L_law_1070 (by decide) ?_
      refine wl_iaddn hx hb d_L_law_1071 ?_
      refine wl_sld hx hb hscr hbl hbA hS (i := (i + 2)) (by omega) hLn d_L_law_1072 ?_
      refine lv_if_eq (tgt := 1080) hx hb d_L_law_1073 (by decide) (fun hc1073 => ?_) (fun hc1073 => ?_)
      · exact absurd hc1073 hc1046
      · refine lv_iconst (v := nI 1) hx hb d_L_law_1076 (by decide) ?_
        refine lv_goto (tgt := 1081) hx hb d_L_law_1077 (by decide) ?_
        refine W.eq (g2 := F0 m 1081 ls [.int (bs_i true), .int (xs (i + 1)), .ref h3]) rfl ?_
        obtain ⟨hPc, hDc, hFc⟩ := la_M hP hD hS hA
        refine va_calli (va_runV (C := "FlowNestModel") (b := h3) (As := [.int (xs (i + 1)), .int (bs_i true)]) (rest := []) ⟨hx, hb, hml, hown, hts⟩ (c_M_header l dC dI cJ cI h3 k3 o3 w3 v3 p3 e3 f3 q3 H.size cd ey ex rc eg L so wi ew lo men le pi n r x q (xs (i + 1)) true hn hz hL hq) (cwV 2 hts (nm_gV nm_564 nm_565 nm_566 nm_4 nm_c_M_header) rfl rfl rfl (by decide +kernel) ⟨Nat.le_of_ble_eq_true rfl, Nat.le_of_ble_eq_true rfl⟩) ⟨cw_blindM, va_recv hK hPc (ci := 3) rfl (q0 := 0) rfl, cw_preM hPc hDc hK hNw⟩ rfl rfl hl.1 rfl (lv_room (Nat.le_of_ble_eq_true rfl)) d_L_law_1081 ⟨rm_c (by omega), rm_s (by omega)⟩) hS (fun q _ h => hFc q h) hFc (fun r65 u9 t H1 locs ht hvm hw66 hB hz1 hk1 hS => ?_)
        obtain ⟨zrc67, zeg68, zso69, zwi70, zew71, zlo72, zen73, zle74, zpi75, zb76, zk77⟩ := u9
        obtain ⟨hP1, hD1⟩ := hB
        rw [ht] at hP1
        obtain ⟨hP, hD⟩ := la_jM hP hD hk1 hFc hP1 hD1
        clear hPc hDc hFc hP1 hD1 hk1 hz1 ht
        generalize H1 = H at hP hS ⊢
        obtain ⟨hv2, hq2, ha2⟩ := hw66
        have hzb : zb76 = true := hv2.mpr hval
        replace hzb := hzb.symm
        subst hzb
        have hP : va_P (dC, dI) vwCl (la_ws cJ cI h0 h1 n1 a1 e1 l1 b1 t1 h2 n2 a2 e2 l2 b2 t2 h4 c4 h3 k3 o3 w3 v3 p3 e3 f3 q3 g5 (nI n) (nI (sp_lc n L)) L yab949 yen950 ylf951 ybl952 ytr953 (nI n) (nI r) ymt954 (bs_i yp948) (gf_T n L) yyb956 yyn957 yyf958 yyl959 yyr960 (nI n) (nI x) yym961 (bs_i ys955) ybo963 (bs_i yw962) (nI 0) (nI n) ey ex (bs_i zk77) zrc67 zeg68 L zso69 zwi70 zew71 zlo72 zen73 zle74 zpi75 you964) H := hP
        have hD : va_D A (la_ws cJ cI h0 h1 n1 a1 e1 l1 b1 t1 h2 n2 a2 e2 l2 b2 t2 h4 c4 h3 k3 o3 w3 v3 p3 e3 f3 q3 g5 (nI n) (nI (sp_lc n L)) L yab949 yen950 ylf951 ybl952 ytr953 (nI n) (nI r) ymt954 (bs_i yp948) (gf_T n L) yyb956 yyn957 yyf958 yyl959 yyr960 (nI n) (nI x) yym961 (bs_i ys955) ybo963 (bs_i yw962) (nI 0) (nI n) ey ex (bs_i zk77) zrc67 zeg68 L zso69 zwi70 zew71 zlo72 zen73 zle74 zpi75 you964) := hD
        obtain ⟨k2, hk2, hv3, ha3⟩ := ha2 rfl
        have ek := nI_i (by omega) (by omega) (hk_v.symm.trans hv3)
        subst ek
        refine lv_istore (lv' := [(6, .int r65), (5, .int (nI 0)), (0, .ref b), (1, .ref h0), (2, .ref h3), (3, .ref g5), (4, .int (nI i))]) hx hb d_L_law_1084 hl (by decide) rfl (fun ls hl => ?_)
        refine lv_aload_n hx hb d_L_law_1086 rfl (lv_at hl 4 rfl) ?_
        have hPc := (la_M hP hD hS hA).1
        refine vp_callSi (va_Run.run (va_runV (C := "FlowNestModel") (b := h3) (As := []) (rest := []) ⟨hx, hb, hml, hown, hts⟩ (c_M_thrown l dC dI cJ cI h3 k3 o3 w3 v3 p3 e3 f3 q3 (nI 0) (nI n) ey ex (bs_i zk77) zrc67 zeg68 L zso69 zwi70 zew71 zlo72 zen73 zle74 zpi75) (cwV 0 hts (nm_gV nm_460 nm_461 nm_462 nm_4 nm_c_M_thrown) rfl rfl rfl (by decide +kernel) ⟨Nat.le_of_ble_eq_true rfl, Nat.le_of_ble_eq_true rfl⟩) ⟨cw_blind, va_recv hK hPc (ci := 3) rfl (q0 := 0) rfl, cw_pre hPc hK hNw⟩ rfl rfl hl.1 rfl (lv_room (Nat.le_of_ble_eq_true rfl)) d_L_law_1087 ⟨rm_c (by omega), rm_s (by omega)⟩)) (fun r78 hr79 => ?_)
        clear hPc
        subst hr79
        refine lv_iload hx hb d_L_law_1090 (lv_at hl 1 rfl) ?_
        refine wl_ieq (tgt := 1097) hx hb (by omega) (by omega) d_L_law_1092 (by decide) (fun hc1092 => ?_) (fun hc1092 => ?_)
        · refine lv_iload hx hb d_L_law_1097 (lv_at hl 1 rfl) ?_
          refine wl_ifnen (tgt := 1114) hx hb (by omega) d_L_law_1099 (by decide) (fun hc1099 => ?_) (fun hc1099 => ?_)
          · exact absurd hc1099 (by decide)
          · refine lv_aload_n hx hb d_L_law_1102 rfl (lv_at hl 5 rfl) ?_
            refine lv_iconst (v := nI 0) hx hb d_L_law_1103 (by decide) ?_
            refine wl_lald (i := 0) hx hb hK hP 26 0 rfl rfl (by omega) (by decide) d_L_law_1104 ?_
            refine lv_iload hx hb d_L_law_1105 (lv_at hl 0 rfl) ?_
            refine lv_i2l (v := r65.toInt64) hx hb d_L_law_1107 rfl ?_
            refine wl_lcmpeq (tgt := 1114) hx hb d_L_law_1108 d_L_law_1109 (by decide) (fun hc1108 => ?_) (fun hc1108 => ?_)
            · refine lv_goto (tgt := 1239) hx hb d_L_law_1114 (by decide) ?_
              refine W.widen (k := cells + 2) (n := slots + 12) (by omega) (by omega) ?_
              exact back _ _ _ ⟨n, r, x, L, nI (sp_lc n L), gf_T n L, yp948, ys955, yw962, yab949, yen950, ylf951, ybl952, ytr953, ymt954, yyb956, yyn957, yyf958, yyl959, yyr960, yym961, ybo963, nI 0, ey, ex, zk77, zrc67, zeg68, zso69, zwi70, zew71, zlo72, zen73, zle74, zpi75, you964, hn, hL, hJ1, hJ2, hJ4, rfl, rfl, hz, hz0, hq2, hP, hD⟩ hS (lv_sub hl [2, 3, 4, 5, 6] rfl)
            · exact absurd (by obtain ⟨z9, hz8, hz9⟩ := hou; rw [hz8, hz9, ha3]) hc1108
        · exact absurd rfl hc1092
    · replace hr1 := hr1.symm
      subst hr1
      refine lv_istore (lv' := [(5, .int (nI 1)), (0, .ref b), (1, .ref h0), (2, .ref h3), (3, .ref g5), (4, .int (nI i))]) hx hb d_L_law_1058 hl (by decide) rfl (fun ls hl => ?_)
      refine lv_aload_n hx hb d_L_law_1060 rfl (lv_at hl 3 rfl) ?_
      refine lv_aload_n hx hb d_L_law_1061 rfl (lv_at hl 1 rfl) ?_
      refine lv_iload hx hb d_L_law_1062 (lv_at hl 5 rfl) ?_
      refine lv_iconst (v := nI 1) hx hb d_L_law_1064 (by decide) ?_
      refine wl_iaddn hx hb d_L_law_1065 ?_
      refine wl_sld hx hb hscr hbl hbA hS (i := (i + 1)) (by omega) hLn d_L_law_1066 ?_
      refine lv_aload_n hx hb d_L_law_1067 rfl (lv_at hl 1 rfl) ?_
      refine lv_iload hx hb d_L_law_1068 (lv_at hl 5 rfl) ?_
      refine lv_iconst (v := nI 2) hx hb d_L_law_1070 (by decide) ?_
      refine wl_iaddn hx hb d_L_law_1071 ?_
      refine wl_sld hx hb hscr hbl hbA hS (i := (i + 2)) (by omega) hLn d_L_law_1072 ?_
      refine lv_if_eq (tgt := 1080) hx hb d_L_law_1073 (by decide) (fun hc1073 => ?_) (fun hc1073 => ?_)
      · exact absurd hc1073 hc1046
      · refine lv_iconst (v := nI 1) hx hb d_L_law_1076 (by decide) ?_
        refine lv_goto (tgt := 1081) hx hb d_L_law_1077 (by decide) ?_
        refine W.eq (g2 := F0 m 1081 ls [.int (bs_i true), .int (xs (i + 1)), .ref h3]) rfl ?_
        obtain ⟨hPc, hDc, hFc⟩ := la_M hP hD hS hA
        refine va_calli (va_runV (C := "FlowNestModel") (b := h3) (As := [.int (xs (i + 1)), .int (bs_i true)]) (rest := []) ⟨hx, hb, hml, hown, hts⟩ (c_M_header l dC dI cJ cI h3 k3 o3 w3 v3 p3 e3 f3 q3 H.size cd ey ex rc eg L so wi ew lo men le pi n r x q (xs (i + 1)) true hn hz hL hq) (cwV 2 hts (nm_gV nm_564 nm_565 nm_566 nm_4 nm_c_M_header) rfl rfl rfl (by decide +kernel) ⟨Nat.le_of_ble_eq_true rfl, Nat.le_of_ble_eq_true rfl⟩) ⟨cw_blindM, va_recv hK hPc (ci := 3) rfl (q0 := 0) rfl, cw_preM hPc hDc hK hNw⟩ rfl rfl hl.1 rfl (lv_room (Nat.le_of_ble_eq_true rfl)) d_L_law_1081 ⟨rm_c (by omega), rm_s (by omega)⟩) hS (fun q _ h => hFc q h) hFc (fun r80 u9 t H1 locs ht hvm hw81 hB hz1 hk1 hS => ?_)
        obtain ⟨zrc82, zeg83, zso84, zwi85, zew86, zlo87, zen88, zle89, zpi90, zb91, zk92⟩ := u9
        obtain ⟨hP1, hD1⟩ := hB
        rw [ht] at hP1
        obtain ⟨hP, hD⟩ := la_jM hP hD hk1 hFc hP1 hD1
        clear hPc hDc hFc hP1 hD1 hk1 hz1 ht
        generalize H1 = H at hP hS ⊢
        obtain ⟨hv2, hq2, ha2⟩ := hw81
        have hzb : zb91 = false := Bool.eq_false_iff.mpr (fun z => hval (hv2.mp z))
        replace hzb := hzb.symm
        subst hzb
        have hP : va_P (dC, dI) vwCl (la_ws cJ cI h0 h1 n1 a1 e1 l1 b1 t1 h2 n2 a2 e2 l2 b2 t2 h4 c4 h3 k3 o3 w3 v3 p3 e3 f3 q3 g5 (nI n) (nI (sp_lc n L)) L yab949 yen950 ylf951 ybl952 ytr953 (nI n) (nI r) ymt954 (bs_i yp948) (gf_T n L) yyb956 yyn957 yyf958 yyl959 yyr960 (nI n) (nI x) yym961 (bs_i ys955) ybo963 (bs_i yw962) (nI 1) (nI n) ey ex (bs_i zk92) zrc82 zeg83 L zso84 zwi85 zew86 zlo87 zen88 zle89 zpi90 you964) H := hP
        have hD : va_D A (la_ws cJ cI h0 h1 n1 a1 e1 l1 b1 t1 h2 n2 a2 e2 l2 b2 t2 h4 c4 h3 k3 o3 w3 v3 p3 e3 f3 q3 g5 (nI n) (nI (sp_lc n L)) L yab949 yen950 ylf951 ybl952 ytr953 (nI n) (nI r) ymt954 (bs_i yp948) (gf_T n L) yyb956 yyn957 yyf958 yyl959 yyr960 (nI n) (nI x) yym961 (bs_i ys955) ybo963 (bs_i yw962) (nI 1) (nI n) ey ex (bs_i zk92) zrc82 zeg83 L zso84 zwi85 zew86 zlo87 zen88 zle89 zpi90 you964) := hD
        refine lv_istore (lv' := [(6, .int r80), (5, .int (nI 1)), (0, .ref b), (1, .ref h0), (2, .ref h3), (3, .ref g5), (4, .int (nI i))]) hx hb d_L_law_1084 hl (by decide) rfl (fun ls hl => ?_)
        refine lv_aload_n hx hb d_L_law_1086 rfl (lv_at hl 4 rfl) ?_
        have hPc := (la_M hP hD hS hA).1
        refine vp_callSi (va_Run.run (va_runV (C := "FlowNestModel") (b := h3) (As := []) (rest := []) ⟨hx, hb, hml, hown, hts⟩ (c_M_thrown l dC dI cJ cI h3 k3 o3 w3 v3 p3 e3 f3 q3 (nI 1) (nI n) ey ex (bs_i zk92) zrc82 zeg83 L zso84 zwi85 zew86 zlo87 zen88 zle89 zpi90) (cwV 0 hts (nm_gV nm_460 nm_461 nm_462 nm_4 nm_c_M_thrown) rfl rfl rfl (by decide +kernel) ⟨Nat.le_of_ble_eq_true rfl, Nat.le_of_ble_eq_true rfl⟩) ⟨cw_blind, va_recv hK hPc (ci := 3) rfl (q0 := 0) rfl, cw_pre hPc hK hNw⟩ rfl rfl hl.1 rfl (lv_room (Nat.le_of_ble_eq_true rfl)) d_L_law_1087 ⟨rm_c (by omega), rm_s (by omega)⟩)) (fun r93 hr94 => ?_)
        clear hPc
        subst hr94
        refine lv_iload hx hb d_L_law_1090 (lv_at hl 1 rfl) ?_
        refine wl_ieq (tgt := 1097) hx hb (by omega) (by omega) d_L_law_1092 (by decide) (fun hc1092 => ?_) (fun hc1092 => ?_)
        · refine lv_iload hx hb d_L_law_1097 (lv_at hl 1 rfl) ?_
          refine wl_ifnen (tgt := 1114) hx hb (by omega) d_L_law_1099 (by decide) (fun hc1099 => ?_) (fun hc1099 => ?_)
          · refine lv_goto (tgt := 1239) hx hb d_L_law_1114 (by decide) ?_
            refine W.widen (k := cells + 2) (n := slots + 12) (by omega) (by omega) ?_
            exact back _ _ _ ⟨n, r, x, L, nI (sp_lc n L), gf_T n L, yp948, ys955, yw962, yab949, yen950, ylf951, ybl952, ytr953, ymt954, yyb956, yyn957, yyf958, yyl959, yyr960, yym961, ybo963, nI 1, ey, ex, zk92, zrc82, zeg83, zso84, zwi85, zew86, zlo87, zen88, zle89, zpi90, you964, hn, hL, hJ1, hJ2, hJ4, rfl, rfl, hz, hz0, hq2, hP, hD⟩ hS (lv_sub hl [2, 3, 4, 5, 6] rfl)
          · exact absurd hc1099 (by decide)
        · exact absurd rfl hc1092
set_option maxHeartbeats 4000000 in
set_option maxRecDepth 100000 in
theorem law_16 {p : Program} {l : Launch} {e : Env} {s : State} {m : MethodId} {below : List Frame} {meth : Method} {c : Code} {b Ln : Nat} {xs : Nat → Int32} {A : Nat → Prop} {Q : State → Prop} {dC : Nat → ClassId} {dI : Nat → Nat → Nat} {cJ cI : ClassId} {h0 h1 n1 a1 e1 l1 b1 t1 h2 n2 a2 e2 l2 b2 t2 h4 c4 h3 k3 o3 w3 v3 p3 e3 f3 q3 g5 sa sb : Nat} (C9 : lw_C p l s m c b Ln xs A dC dI cJ cI sa sb) {cells slots i : Nat} (hi : i + 4 ≤ Ln) (hc9 : cells + 2 ≤ 1053) (hs9 : slots + 12 ≤ 9256) (back : ∀ (H : Heap) (locs : List Loc) (ls : Array Slot), lw_J A dC dI cJ cI h0 h1 n1 a1 e1 l1 b1 t1 h2 n2 a2 e2 l2 b2 t2 h4 c4 h3 k3 o3 w3 v3 p3 e3 f3 q3 g5 H → va_S A s.heap H locs → lv_has ls 8 [(0, .ref b), (1, .ref h0), (2, .ref h3), (3, .ref g5), (4, .int (nI i))] → W p l e room_1 s m #[Value.ref b] below meth c H locs (cells + 2) (slots + 12) Q (F0 m 1239 ls [])) {H : Heap} {locs : List Loc} {ls : Array Slot} (hJ : lw_J A dC dI cJ cI h0 h1 n1 a1 e1 l1 b1 t1 h2 n2 a2 e2 l2 b2 t2 h4 c4 h3 k3 o3 w3 v3 p3 e3 f3 q3 g5 H) (hS : va_S A s.heap H locs) (hl : lv_has ls 8 [(0, .ref b), (1, .ref h0), (2, .ref h3), (3, .ref g5), (4, .int (nI i))]) : W p l e room_1 s m #[Value.ref b] below meth c H locs cells slots Q (F0 m 1130 ls []) := by
  obtain ⟨hx, hb, hml, hown, hts, hNw, hK, hX0, hA1, hl9, hscr, hbl, hLn⟩ := C9
  have hA : ∀ q : Nat, s.heap.size ≤ q → A q := fun q h => (hA1 q).mpr h
  have hbA : ¬ A b := fun z => absurd ((hA1 b).mp z) (by omega)
  obtain ⟨n, r, x, L, fc, M, q1, q2, q4, ab, en, lf, bl, tr, mt, ab2, en2, lf2, bl2, tr2, mt2, bo, cd, ey, ex, q, rc, eg, so, wi, ew, lo, men, le, pi, ou, hn, hL, hI1, hI2, hI4, hfc, hM, hz, hz0, hq, hP, hD⟩ := hJ
  subst hfc
  subst hM
  have hP : va_P (dC, dI) vwCl (la_ws cJ cI h0 h1 n1 a1 e1 l1 b1 t1 h2 n2 a2 e2 l2 b2 t2 h4 c4 h3 k3 o3 w3 v3 p3 e3 f3 q3 g5 (nI n) (nI (sp_lc n L)) L ab en lf bl tr (nI n) (nI r) mt (bs_i q1) (gf_T n L) ab2 en2 lf2 bl2 tr2 (nI n) (nI x) mt2 (bs_i q2) bo (bs_i q4) cd (nI n) ey ex (bs_i q) rc eg L so wi ew lo men le pi ou) H := hP
  have hD : va_D A (la_ws cJ cI h0 h1 n1 a1 e1 l1 b1 t1 h2 n2 a2 e2 l2 b2 t2 h4 c4 h3 k3 o3 w3 v3 p3 e3 f3 q3 g5 (nI n) (nI (sp_lc n L)) L ab en lf bl tr (nI n) (nI r) mt (bs_i q1) (gf_T n L) ab2 en2 lf2 bl2 tr2 (nI n) (nI x) mt2 (bs_i q2) bo (bs_i q4) cd (nI n) ey ex (bs_i q) rc eg L so wi ew lo men le pi ou) := hD
  refine lv_aload_n hx hb d_L_law_1130 rfl (lv_at hl 1 rfl) ?_
  refine lv_aload_n hx hb d_L_law_1131 rfl (lv_at hl 0 rfl) ?_
  refine lv_iload hx hb d_L_law_1132 (lv_at hl 4 rfl) ?_
  refine lv_iconst (v := nI 1) hx hb d_L_law_1134 (by decide) ?_
  refine wl_iaddn hx hb d_L_law_1135 ?_
  refine wl_sld hx hb hscr hbl hbA hS (i := (i + 1)) (by omega) hLn d_L_law_1136 ?_
  refine lv_aload_n hx hb d_L_law_1137 rfl (lv_at hl 0 rfl) ?_
  refine lv_iload hx hb d_L_law_1138 (lv_at hl 4 rfl) ?_
  refine lv_iconst (v := nI 2) hx hb d_L_law_1140 (by decide) ?_
  refine wl_iaddn hx hb d_L_law_1141 ?_
  refine wl_sld hx hb hscr hbl hbA hS (i := (i + 2)) (by omega) hLn d_L_law_1142 ?_
  refine lv_if_eq (tgt := 1150) hx hb d_L_law_1143 (by decide) (fun hc1143 => ?_) (fun hc1143 => ?_)
  · refine lv_iconst (v := nI 0) hx hb d_L_law_1150 (by decide) ?_
    refine lv_aload_n hx hb d_L_law_1151 rfl (lv_at hl 3 rfl) ?_
    refine W.eq (g2 := F0 m 1152 ls [.ref g5, .int (bs_i false), .int (xs (i + 1)), .ref h0]) rfl ?_
    obtain ⟨hPc, hDc, hFc⟩ := la_L hP hD hS hA
    have hX := tx_kept hX0 hS.1 (fun q hq9 => hS.2.1 q hq9 (fun z => absurd ((hA1 q).mp z) (by omega)))
    refine va_calli (vx_runSW (As := [.ref h0, .int (xs (i + 1)), .int (bs_i false), .ref g5]) (rest := []) ⟨hx, hb, hml, hown, hts⟩ (c_L_order l hl9 dC dI cJ cI h0 h1 n1 a1 e1 l1 b1 t1 h2 n2 a2 e2 l2 b2 t2 h4 c4 g5 H.size sa sb ab en lf bl tr mt ab2 en2 lf2 bl2 tr2 mt2 bo ou n r x L q1 q2 q4 (xs (i + 1)) false hn hL hI1 hI2 hI4) (vx_cwSW 4 hts (nm_gS nm_401 nm_402 nm_0 nm_c_L_order) rfl rfl rfl (by decide +kernel) ⟨Nat.le_of_ble_eq_true rfl, Nat.le_of_ble_eq_true rfl⟩) ⟨cw_blindT, cw_preT hPc hDc hK hNw hX⟩ rfl rfl hl.1 rfl (lv_room (Nat.le_of_ble_eq_true rfl)) d_L_law_1152 ⟨rm_c (by omega), rm_s (by omega)⟩) hS (fun q _ h => hFc q h) hFc (fun r1 u9 t H1 locs ht hvm hw hB hz1 hk1 hS => ?_)
    obtain ⟨yp91, yab92, yen93, ylf94, ybl95, ytr96, ymt97, ys98, yyb99, yyn910, yyf911, yyl912, yyr913, yym914, yw915, ybo916, you917⟩ := u9
    obtain ⟨hP1, hD1⟩ := hB
    rw [ht] at hP1
    obtain ⟨hP, hD⟩ := la_jL hP hD hk1 hFc hP1 hD1
    clear hPc hDc hFc hX hP1 hD1 hk1 hz1 ht
    generalize H1 = H at hP hS ⊢
    obtain ⟨⟨hJ1, hJ2, hJ4⟩, hw⟩ := hw
    rcases hw with ⟨hr1, k, hk_k, hk_v, hou⟩ | ⟨hr1, hval⟩
    · replace hr1 := hr1.symm
      subst hr1
      have hval : ∃ k, k < n ∧ xs (i + 1) = nI k := ⟨k, hk_k, hk_v⟩
      refine lv_istore (lv' := [(5, .int (nI 0)), (0, .ref b), (1, .ref h0), (2, .ref h3), (3, .ref g5), (4, .int (nI i))]) hx hb d_L_law_1155 hl (by decide) rfl (fun ls hl => ?_)
      refine lv_aload_n hx hb d_L_law_1157 rfl (lv_at hl 3 rfl) ?_
      refine lv_aload_n hx hb d_L_law_1158 rfl (lv_at hl 1 rfl) ?_
      refine lv_iload hx hb d_L_law_1159 (lv_at hl 5 rfl) ?_
      refine lv_iconst (v := nI 1) hx hb d_L_law_1161 (by decide) ?_
      refine wl_iaddn hx hb d_L_law_1162 ?_
      refine wl_sld hx hb hscr hbl hbA hS (i := (i + 1)) (by omega) hLn d_L_law_1163 ?_
      refine lv_aload_n hx hb d_L_law_1164 rfl (lv_at hl 1 rfl) ?_
      refine lv_iload hx hb d_L_law_1165 (lv_at hl 5 rfl) ?_
      refine lv_iconst (v := nI 2) hx hb d_L_law_1167 (by decide) ?_
      refine wl_iaddn hx hb d_L_law_1168 ?_
      refine wl_sld hx hb hscr hbl hbA hS (i := (i + 2)) (by omega) hLn d_L_law_1169 ?_
      refine lv_if_eq (tgt := 1177) hx hb d_L_law_1170 (by decide) (fun hc1170 => ?_) (fun hc1170 => ?_)
      · refine lv_iconst (v := nI 0) hx hb d_L_law_1177 (by decide) ?_
        refine W.eq (g2 := F0 m 1178 ls [.int (bs_i false), .int (xs (i + 1)), .ref h3]) rfl ?_
        obtain ⟨hPc, hDc, hFc⟩ := la_M hP hD hS hA
        refine va_calli (va_runV (C := "FlowNestModel") (b := h3) (As := [.int (xs (i + 1)), .int (bs_i false)]) (rest := []) ⟨hx, hb, hml, hown, hts⟩ (c_M_order l dC dI cJ cI h3 k3 o3 w3 v3 p3 e3 f3 q3 H.size cd ey ex rc eg L so wi ew lo men le pi n r x q (xs (i + 1)) false hn hz hL hq) (cwV 2 hts (nm_gV nm_576 nm_577 nm_578 nm_4 nm_c_M_order) rfl rfl rfl (by decide +kernel) ⟨Nat.le_of_ble_eq_true rfl, Nat.le_of_ble_eq_true rfl⟩) ⟨cw_blindM, va_recv hK hPc (ci := 3) rfl (q0 := 0) rfl, cw_preM hPc hDc hK hNw⟩ rfl rfl hl.1 rfl (lv_room (Nat.le_of_ble_eq_true rfl)) d_L_law_1178 ⟨rm_c (by omega), rm_s (by omega)⟩) hS (fun q _ h => hFc q h) hFc (fun r18 u9 t H1 locs ht hvm hw19 hB hz1 hk1 hS => ?_)
        obtain ⟨zrc20, zeg21, zso22, zwi23, zew24, zlo25, zen26, zle27, zpi28, zb29, zk30⟩ := u9
        obtain ⟨hP1, hD1⟩ := hB
        rw [ht] at hP1
        obtain ⟨hP, hD⟩ := la_jM hP hD hk1 hFc hP1 hD1
        clear hPc hDc hFc hP1 hD1 hk1 hz1 ht
        generalize H1 = H at hP hS ⊢
        obtain ⟨hv2, hq2, ha2⟩ := hw19
        have hzb : zb29 = true := hv2.mpr hval
        replace hzb := hzb.symm
        subst hzb
        have hP : va_P (dC, dI) vwCl (la_ws cJ cI h0 h1 n1 a1 e1 l1 b1 t1 h2 n2 a2 e2 l2 b2 t2 h4 c4 h3 k3 o3 w3 v3 p3 e3 f3 q3 g5 (nI n) (nI (sp_lc n L)) L yab92 yen93 ylf94 ybl95 ytr96 (nI n) (nI r) ymt97 (bs_i yp91) (gf_T n L) yyb99 yyn910 yyf911 yyl912 yyr913 (nI n) (nI x) yym914 (bs_i ys98) ybo916 (bs_i yw915) (nI 0) (nI n) ey ex (bs_i zk30) zrc20 zeg21 L zso22 zwi23 zew24 zlo25 zen26 zle27 zpi28 you917) H := hP
        have hD : va_D A (la_ws cJ cI h0 h1 n1 a1 e1 l1 b1 t1 h2 n2 a2 e2 l2 b2 t2 h4 c4 h3 k3 o3 w3 v3 p3 e3 f3 q3 g5 (nI n) (nI (sp_lc n L)) L yab92 yen93 ylf94 ybl95 ytr96 (nI n) (nI r) ymt97 (bs_i yp91) (gf_T n L) yyb99 yyn910 yyf911 yyl912 yyr913 (nI n) (nI x) yym914 (bs_i ys98) ybo916 (bs_i yw915) (nI 0) (nI n) ey ex (bs_i zk30) zrc20 zeg21 L zso22 zwi23 zew24 zlo25 zen26 zle27 zpi28 you917) := hD
        obtain ⟨k2, hk2, hv3, ha3⟩ := ha2 rfl
        have ek := nI_i (by omega) (by omega) (hk_v.symm.trans hv3)
        subst ek
        refine lv_istore (lv' := [(6, .int r18), (5, .int (nI 0)), (0, .ref b), (1, .ref h0), (2, .ref h3), (3, .ref g5), (4, .int (nI i))]) hx hb d_L_law_1181 hl (by decide) rfl (fun ls hl => ?_)
        refine lv_aload_n hx hb d_L_law_1183 rfl (lv_at hl 4 rfl) ?_
        have hPc := (la_M hP hD hS hA).1
        refine vp_callSi (va_Run.run (va_runV (C := "FlowNestModel") (b := h3) (As := []) (rest := []) ⟨hx, hb, hml, hown, hts⟩ (c_M_thrown l dC dI cJ cI h3 k3 o3 w3 v3 p3 e3 f3 q3 (nI 0) (nI n) ey ex (bs_i zk30) zrc20 zeg21 L zso22 zwi23 zew24 zlo25 zen26 zle27 zpi28) (cwV 0 hts (nm_gV nm_460 nm_461 nm_462 nm_4 nm_c_M_thrown) rfl rfl rfl (by decide +kernel) ⟨Nat.le_of_ble_eq_true rfl, Nat.le_of_ble_eq_true rfl⟩) ⟨cw_blind, va_recv hK hPc (ci := 3) rfl (q0 := 0) rfl, cw_pre hPc hK hNw⟩ rfl rfl hl.1 rfl (lv_room (Nat.le_of_ble_eq_true rfl)) d_L_law_1184 ⟨rm_c (by omega), rm_s (by omega)⟩)) (fun r31 hr32 => ?_)
        clear hPc
        subst hr32
        refine lv_iload hx hb d_L_law_1187 (lv_at hl 1 rfl) ?_
        refine wl_ieq (tgt := 1194) hx hb (by omega) (by omega) d_L_law_1189 (by decide) (fun hc1189 => ?_) (fun hc1189 => ?_)
        · refine lv_iload hx hb d_L_law_1194 (lv_at hl 1 rfl) ?_
          refine wl_ifnen (tgt := 1211) hx hb (by omega) d_L_law_1196 (by decide) (fun hc1196 => ?_) (fun hc1196 => ?_)
          · exact absurd hc1196 (by decide)
          · refine lv_aload_n hx hb d_L_law_1199 rfl (lv_at hl 5 rfl) ?_
            refine lv_iconst (v := nI 0) hx hb d_L_law_1200 (by decide) ?_
            refine wl_lald (i := 0) hx hb hK hP 26 0 rfl rfl (by omega) (by decide) d_L_law_1201 ?_
            refine lv_iload hx hb d_L_law_1202 (lv_at hl 0 rfl) ?_
            refine lv_i2l (v := r18.toInt64) hx hb d_L_law_1204 rfl ?_
            refine wl_lcmpeq (tgt := 1211) hx hb d_L_law_1205 d_L_law_1206 (by decide) (fun hc1205 => ?_) (fun hc1205 => ?_)
            · refine lv_goto (tgt := 1239) hx hb d_L_law_1211 (by decide) ?_
              refine W.widen (k := cells + 2) (n := slots + 12) (by omega) (by omega) ?_
              exact back _ _ _ ⟨n, r, x, L, nI (sp_lc n L), gf_T n L, yp91, ys98, yw915, yab92, yen93, ylf94, ybl95, ytr96, ymt97, yyb99, yyn910, yyf911, yyl912, yyr913, yym914, ybo916, nI 0, ey, ex, zk30, zrc20, zeg21, zso22, zwi23, zew24, zlo25, zen26, zle27, zpi28, you917, hn, hL, hJ1, hJ2, hJ4, rfl, rfl, hz, hz0, hq2, hP, hD⟩ hS (lv_sub hl [2, 3, 4, 5, 6] rfl)
            · exact absurd (by obtain ⟨z9, hz8, hz9⟩ := hou; rw [hz8, hz9, ha3]) hc1205
        · exact absurd rfl hc1189
      · exact absurd hc1143 hc1170
    · replace hr1 := hr1.symm
      subst hr1
      refine lv_istore (lv' := [(5, .int (nI 1)), (0, .ref b), (1, .ref h0), (2, .ref h3), (3, .ref g5), (4, .int (nI i))]) hx hb d_L_law_1155 hl (by decide) rfl (fun ls hl => ?_)
      refine lv_aload_n hx hb d_L_law_1157 rfl (lv_at hl 3 rfl) ?_
      refine lv_aload_n hx hb d_L_law_1158 rfl (lv_at hl 1 rfl) ?_
      refine lv_iload hx hb d_L_law_1159 (lv_at hl 5 rfl) ?_
      refine lv_iconst (v := nI 1) hx hb d_L_law_1161 (by decide) ?_
      refine wl_iaddn hx hb d_L_law_1162 ?_
      refine wl_sld hx hb hscr hbl hbA hS (i := (i + 1)) (by omega) hLn d_L_law_1163 ?_
      refine lv_aload_n hx hb d_L_law_1164 rfl (lv_at hl 1 rfl) ?_
      refine lv_iload hx hb d_L_law_1165 (lv_at hl 5 rfl) ?_
      refine lv_iconst (v := nI 2) hx hb d_L_law_1167 (by decide) ?_
      refine wl_iaddn hx hb d_L_law_1168 ?_
      refine wl_sld hx hb hscr hbl hbA hS (i := (i + 2)) (by omega) hLn d_L_law_1169 ?_
      refine lv_if_eq (tgt := 1177) hx hb d_L_law_1170 (by decide) (fun hc1170 => ?_) (fun hc1170 => ?_)
      · refine lv_iconst (v := nI 0) hx hb d_L_law_1177 (by decide) ?_
        refine W.eq (g2 := F0 m 1178 ls [.int (bs_i false), .int (xs (i + 1)), .ref h3]) rfl ?_
        obtain ⟨hPc, hDc, hFc⟩ := la_M hP hD hS hA
        refine va_calli (va_runV (C := "FlowNestModel") (b := h3) (As := [.int (xs (i + 1)), .int (bs_i false)]) (rest := []) ⟨hx, hb, hml, hown, hts⟩ (c_M_order l dC dI cJ cI h3 k3 o3 w3 v3 p3 e3 f3 q3 H.size cd ey ex rc eg L so wi ew lo men le pi n r x q (xs (i + 1)) false hn hz hL hq) (cwV 2 hts (nm_gV nm_576 nm_577 nm_578 nm_4 nm_c_M_order) rfl rfl rfl (by decide +kernel) ⟨Nat.le_of_ble_eq_true rfl, Nat.le_of_ble_eq_true rfl⟩) ⟨cw_blindM, va_recv hK hPc (ci := 3) rfl (q0 := 0) rfl, cw_preM hPc hDc hK hNw⟩ rfl rfl hl.1 rfl (lv_room (Nat.le_of_ble_eq_true rfl)) d_L_law_1178 ⟨rm_c (by omega), rm_s (by omega)⟩) hS (fun q _ h => hFc q h) hFc (fun r33 u9 t H1 locs ht hvm hw34 hB hz1 hk1 hS => ?_)
        obtain ⟨zrc35, zeg36, zso37, zwi38, zew39, zlo40, zen41, zle42, zpi43, zb44, zk45⟩ := u9
        obtain ⟨hP1, hD1⟩ := hB
        rw [ht] at hP1
        obtain ⟨hP, hD⟩ := la_jM hP hD hk1 hFc hP1 hD1
        clear hPc hDc hFc hP1 hD1 hk1 hz1 ht
        generalize H1 = H at hP hS ⊢
        obtain ⟨hv2, hq2, ha2⟩ := hw34
        have hzb : zb44 = false := Bool.eq_false_iff.mpr (fun z => hval (hv2.mp z))
        replace hzb := hzb.symm
        subst hzb
        have hP : va_P (dC, dI) vwCl (la_ws cJ cI h0 h1 n1 a1 e1 l1 b1 t1 h2 n2 a2 e2 l2 b2 t2 h4 c4 h3 k3 o3 w3 v3 p3 e3 f3 q3 g5 (nI n) (nI (sp_lc n L)) L yab92 yen93 ylf94 ybl95 ytr96 (nI n) (nI r) ymt97 (bs_i yp91) (gf_T n L) yyb99 yyn910 yyf911 yyl912 yyr913 (nI n) (nI x) yym914 (bs_i ys98) ybo916 (bs_i yw915) (nI 1) (nI n) ey ex (bs_i zk45) zrc35 zeg36 L zso37 zwi38 zew39 zlo40 zen41 zle42 zpi43 you917) H := hP
        have hD : va_D A (la_ws cJ cI h0 h1 n1 a1 e1 l1 b1 t1 h2 n2 a2 e2 l2 b2 t2 h4 c4 h3 k3 o3 w3 v3 p3 e3 f3 q3 g5 (nI n) (nI (sp_lc n L)) L yab92 yen93 ylf94 ybl95 ytr96 (nI n) (nI r) ymt97 (bs_i yp91) (gf_T n L) yyb99 yyn910 yyf911 yyl912 yyr913 (nI n) (nI x) yym914 (bs_i ys98) ybo916 (bs_i yw915) (nI 1) (nI n) ey ex (bs_i zk45) zrc35 zeg36 L zso37 zwi38 zew39 zlo40 zen41 zle42 zpi43 you917) := hD
        refine lv_istore (lv' := [(6, .int r33), (5, .int (nI 1)), (0, .ref b), (1, .ref h0), (2, .ref h3), (3, .ref g5), (4, .int (nI i))]) hx hb d_L_law_1181 hl (by decide) rfl (fun ls hl => ?_)
        refine lv_aload_n hx hb d_L_law_1183 rfl (lv_at hl 4 rfl) ?_
        have hPc := (la_M hP hD hS hA).1
        refine vp_callSi (va_Run.run (va_runV (C := "FlowNestModel") (b := h3) (As := []) (rest := []) ⟨hx, hb, hml, hown, hts⟩ (c_M_thrown l dC dI cJ cI h3 k3 o3 w3 v3 p3 e3 f3 q3 (nI 1) (nI n) ey ex (bs_i zk45) zrc35 zeg36 L zso37 zwi38 zew39 zlo40 zen41 zle42 zpi43) (cwV 0 hts (nm_gV nm_460 nm_461 nm_462 nm_4 nm_c_M_thrown) rfl rfl rfl (by decide +kernel) ⟨Nat.le_of_ble_eq_true rfl, Nat.le_of_ble_eq_true rfl⟩) ⟨cw_blind, va_recv hK hPc (ci := 3) rfl (q0 := 0) rfl, cw_pre hPc hK hNw⟩ rfl rfl hl.1 rfl (lv_room (Nat.le_of_ble_eq_true rfl)) d_L_law_1184 ⟨rm_c (by omega), rm_s (by omega)⟩)) (fun r46 hr47 => ?_)
        clear hPc
        subst hr47
        refine lv_iload hx hb d_L_law_1187 (lv_at hl 1 rfl) ?_
        refine wl_ieq (tgt := 1194) hx hb (by omega) (by omega) d_L_law_1189 (by decide) (fun hc1189 => ?_) (fun hc1189 => ?_)
        · refine lv_iload hx hb d_L_law_1194 (lv_at hl 1 rfl) ?_
          refine wl_ifnen (tgt := 1211) hx hb (by omega) d_L_law_1196 (by decide) (fun hc1196 => ?_) (fun hc1196 => ?_)
          · refine lv_goto (tgt := 1239) hx hb d_L_law_1211 (by decide) ?_
            refine W.widen (k := cells + 2) (n := slots + 12) (by omega) (by omega) ?_
            exact back _ _ _ ⟨n, r, x, L, nI (sp_lc n L), gf_T n L, yp91, ys98, yw915, yab92, yen93, ylf94, ybl95, ytr96, ymt97, yyb99, yyn910, yyf911, yyl912, yyr913, yym914, ybo916, nI 1, ey, ex, zk45, zrc35, zeg36, zso37, zwi38, zew39, zlo40, zen41, zle42, zpi43, you917, hn, hL, hJ1, hJ2, hJ4, rfl, rfl, hz, hz0, hq2, hP, hD⟩ hS (lv_sub hl [2, 3, 4, 5, 6] rfl)
          · exact absurd hc1196 (by decide)
        · exact absurd rfl hc1189
      · exact absurd hc1143 hc1170
  · refine lv_iconst (v := nI 1) hx hb d_L_law_1146 (by decide) ?_
    refine lv_goto (tgt := 1151) hx hb d_L_law_1147 (by decide) ?_
    refine lv_aload_n hx hb d_L_law_1151 rfl (lv_at hl 3 rfl) ?_
    refine W.eq (g2 := F0 m 1152 ls [.ref g5, .int (bs_i true), .int (xs (i + 1)), .ref h0]) rfl ?_
    obtain ⟨hPc, hDc, hFc⟩ := la_L hP hD hS hA
    have hX := tx_kept hX0 hS.1 (fun q hq9 => hS.2.1 q hq9 (fun z => absurd ((hA1 q).mp z) (by omega)))
    refine va_calli (vx_runSW (As := [.ref h0, .int (xs (i + 1)), .int (bs_i true), .ref g5]) (rest := []) ⟨hx, hb, hml, hown, hts⟩ (c_L_order l hl9 dC dI cJ cI h0 h1 n1 a1 e1 l1 b1 t1 h2 n2 a2 e2 l2 b2 t2 h4 c4 g5 H.size sa sb ab en lf bl tr mt ab2 en2 lf2 bl2 tr2 mt2 bo ou n r x L q1 q2 q4 (xs (i + 1)) true hn hL hI1 hI2 hI4) (vx_cwSW 4 hts (nm_gS nm_401 nm_402 nm_0 nm_c_L_order) rfl rfl rfl (by decide +kernel) ⟨Nat.le_of_ble_eq_true rfl, Nat.le_of_ble_eq_true rfl⟩) ⟨cw_blindT, cw_preT hPc hDc hK hNw hX⟩ rfl rfl hl.1 rfl (lv_room (Nat.le_of_ble_eq_true rfl)) d_L_law_1152 ⟨rm_c (by omega), rm_s (by omega)⟩) hS (fun q _ h => hFc q h) hFc (fun r1 u9 t H1 locs ht hvm hw hB hz1 hk1 hS => ?_)
    obtain ⟨yp948, yab949, yen950, ylf951, ybl952, ytr953, ymt954, ys955, yyb956, yyn957, yyf958, yyl959, yyr960, yym961, yw962, ybo963, you964⟩ := u9
    obtain ⟨hP1, hD1⟩ := hB
    rw [ht] at hP1
    obtain ⟨hP, hD⟩ := la_jL hP hD hk1 hFc hP1 hD1
    clear hPc hDc hFc hX hP1 hD1 hk1 hz1 ht
    generalize H1 = H at hP hS ⊢
    obtain ⟨⟨hJ1, hJ2, hJ4⟩, hw⟩ := hw
    rcases hw with ⟨hr1, k, hk_k, hk_v, hou⟩ | ⟨hr1, hval⟩
    · replace hr1 := hr1.symm
      subst hr1
      have hval : ∃ k, k < n ∧ xs (i + 1) = nI k := ⟨k, hk_k, hk_v⟩
      refine lv_istore (lv' := [(5, .int (nI 0)), (0, .ref b), (1, .ref h0), (2, .ref h3), (3, .ref g5), (4, .int (nI i))]) hx hb d_L_law_1155 hl (by decide) rfl (fun ls hl => ?_)
      refine lv_aload_n hx hb d_L_law_1157 rfl (lv_at hl 3 rfl) ?_
      refine lv_aload_n hx hb d_L_law_1158 rfl (lv_at hl 1 rfl) ?_
      refine lv_iload hx hb d_L_law_1159 (lv_at hl 5 rfl) ?_
      refine lv_iconst (v := nI 1) hx hb d_L_law_1161 (by decide) ?_
      refine wl_iaddn hx hb d_L_law_1162 ?_
      refine wl_sld hx hb hscr hbl hbA hS (i := (i + 1)) (by omega) hLn d_L_law_1163 ?_
      refine lv_aload_n hx hb d_L_law_1164 rfl (lv_at hl 1 rfl) ?_
      refine lv_iload hx hb d_L_law_1165 (lv_at hl 5 rfl) ?_
      refine lv_iconst (v := nI 2) hx hb d_L_law_1167 (by decide) ?_
      refine wl_iaddn hx hb d_L_law_1168 ?_
      refine wl_sld hx hb hscr hbl hbA hS (i := (i + 2)) (by omega) hLn d_L_law_1169 ?_
      refine lv_if_eq (tgt := 1177) hx hb d_L_law_1170 (by decide) (fun hc1170 => ?_) (fun hc1170 => ?_)
      · exact absurd hc1170 hc1143
      · refine lv_iconst (v := nI 1) hx hb d_L_law_1173 (by decide) ?_
        refine lv_goto (tgt := 1178) hx hb d_L_law_1174 (by decide) ?_
        refine W.eq (g2 := F0 m 1178 ls [.int (bs_i true), .int (xs (i + 1)), .ref h3]) rfl ?_
        obtain ⟨hPc, hDc, hFc⟩ := la_M hP hD hS hA
        refine va_calli (va_runV (C := "FlowNestModel") (b := h3) (As := [.int (xs (i + 1)), .int (bs_i true)]) (rest := []) ⟨hx, hb, hml, hown, hts⟩ (c_M_order l dC dI cJ cI h3 k3 o3 w3 v3 p3 e3 f3 q3 H.size cd ey ex rc eg L so wi ew lo men le pi n r x q (xs (i + 1)) true hn hz hL hq) (cwV 2 hts (nm_gV nm_576 nm_577 nm_578 nm_4 nm_c_M_order) rfl rfl rfl (by decide +kernel) ⟨Nat.le_of_ble_eq_true rfl, Nat.le_of_ble_eq_true rfl⟩) ⟨cw_blindM, va_recv hK hPc (ci := 3) rfl (q0 := 0) rfl, cw_preM hPc hDc hK hNw⟩ rfl rfl hl.1 rfl (lv_room (Nat.le_of_ble_eq_true rfl)) d_L_law_1178 ⟨rm_c (by omega), rm_s (by omega)⟩) hS (fun q _ h => hFc q h) hFc (fun r65 u9 t H1 locs ht hvm hw66 hB hz1 hk1 hS => ?_)
        obtain ⟨zrc67, zeg68, zso69, zwi70, zew71, zlo72, zen73, zle74, zpi75, zb76, zk77⟩ := u9
        obtain ⟨hP1, hD1⟩ := hB
        rw [ht] at hP1
        obtain ⟨hP, hD⟩ := la_jM hP hD hk1 hFc hP1 hD1
        clear hPc hDc hFc hP1 hD1 hk1 hz1 ht
        generalize H1 = H at hP hS ⊢
        obtain ⟨hv2, hq2, ha2⟩ := hw66
        have hzb : zb76 = true := hv2.mpr hval
        replace hzb := hzb.symm
        subst hzb
        have hP : va_P (dC, dI) vwCl (la_ws cJ cI h0 h1 n1 a1 e1 l1 b1 t1 h2 n2 a2 e2 l2 b2 t2 h4 c4 h3 k3 o3 w3 v3 p3 e3 f3 q3 g5 (nI n) (nI (sp_lc n L)) L yab949 yen950 ylf951 ybl952 ytr953 (nI n) (nI r) ymt954 (bs_i yp948) (gf_T n L) yyb956 yyn957 yyf958 yyl959 yyr960 (nI n) (nI x) yym961 (bs_i ys955) ybo963 (bs_i yw962) (nI 0) (nI n) ey ex (bs_i zk77) zrc67 zeg68 L zso69 zwi70 zew71 zlo72 zen73 zle74 zpi75 you964) H := hP
        have hD : va_D A (la_ws cJ cI h0 h1 n1 a1 e1 l1 b1 t1 h2 n2 a2 e2 l2 b2 t2 h4 c4 h3 k3 o3 w3 v3 p3 e3 f3 q3 g5 (nI n) (nI (sp_lc n L)) L yab949 yen950 ylf951 ybl952 ytr953 (nI n) (nI r) ymt954 (bs_i yp948) (gf_T n L) yyb956 yyn957 yyf958 yyl959 yyr960 (nI n) (nI x) yym961 (bs_i ys955) ybo963 (bs_i yw962) (nI 0) (nI n) ey ex (bs_i zk77) zrc67 zeg68 L zso69 zwi70 zew71 zlo72 zen73 zle74 zpi75 you964) := hD
        obtain ⟨k2, hk2, hv3, ha3⟩ := ha2 rfl
        have ek := nI_i (by omega) (by omega) (hk_v.symm.trans hv3)
        subst ek
        refine lv_istore (lv' := [(6, .int r65), (5, .int (nI 0)), (0, .ref b), (1, .ref h0), (2, .ref h3), (3, .ref g5), (4, .int (nI i))]) hx hb d_L_law_1181 hl (by decide) rfl (fun ls hl => ?_)
        refine lv_aload_n hx hb d_L_law_1183 rfl (lv_at hl 4 rfl) ?_
        have hPc := (la_M hP hD hS hA).1
        refine vp_callSi (va_Run.run (va_runV (C := "FlowNestModel") (b := h3) (As := []) (rest := []) ⟨hx, hb, hml, hown, hts⟩ (c_M_thrown l dC dI cJ cI h3 k3 o3 w3 v3 p3 e3 f3 q3 (nI 0) (nI n) ey ex (bs_i zk77) zrc67 zeg68 L zso69 zwi70 zew71 zlo72 zen73 zle74 zpi75) (cwV 0 hts (nm_gV nm_460 nm_461 nm_462 nm_4 nm_c_M_thrown) rfl rfl rfl (by decide +kernel) ⟨Nat.le_of_ble_eq_true rfl, Nat.le_of_ble_eq_true rfl⟩) ⟨cw_blind, va_recv hK hPc (ci := 3) rfl (q0 := 0) rfl, cw_pre hPc hK hNw⟩ rfl rfl hl.1 rfl (lv_room (Nat.le_of_ble_eq_true rfl)) d_L_law_1184 ⟨rm_c (by omega), rm_s (by omega)⟩)) (fun r78 hr79 => ?_)
        clear hPc
        subst hr79
        refine lv_iload hx hb d_L_law_1187 (lv_at hl 1 rfl) ?_
        refine wl_ieq (tgt := 1194) hx hb (by omega) (by omega) d_L_law_1189 (by decide) (fun hc1189 => ?_) (fun hc1189 => ?_)
        · refine lv_iload hx hb d_L_law_1194 (lv_at hl 1 rfl) ?_
          refine wl_ifnen (tgt := 1211) hx hb (by omega) d_L_law_1196 (by decide) (fun hc1196 => ?_) (fun hc1196 => ?_)
          · exact absurd hc1196 (by decide)
          · refine lv_aload_n hx hb d_L_law_1199 rfl (lv_at hl 5 rfl) ?_
            refine lv_iconst (v := nI 0) hx hb d_L_law_1200 (by decide) ?_
            refine wl_lald (i := 0) hx hb hK hP 26 0 rfl rfl (by omega) (by decide) d_L_law_1201 ?_
            refine lv_iload hx hb d_L_law_1202 (lv_at hl 0 rfl) ?_
            refine lv_i2l (v := r65.toInt64) hx hb d_L_law_1204 rfl ?_
            refine wl_lcmpeq (tgt := 1211) hx hb d_L_law_1205 d_L_law_1206 (by decide) (fun hc1205 => ?_) (fun hc1205 => ?_)
            · refine lv_goto (tgt := 1239) hx hb d_L_law_1211 (by decide) ?_
              refine W.widen (k := cells + 2) (n := slots + 12) (by omega) (by omega) ?_
              exact back _ _ _ ⟨n, r, x, L, nI (sp_lc n L), gf_T n L, yp948, ys955, yw962, yab949, yen950, ylf951, ybl952, ytr953, ymt954, yyb956, yyn957, yyf958, yyl959, yyr960, yym961, ybo963, nI 0, ey, ex, zk77, zrc67, zeg68, zso69, zwi70, zew71, zlo72, zen73, zle74, zpi75, you964, hn, hL, hJ1, hJ2, hJ4, rfl, rfl, hz, hz0, hq2, hP, hD⟩ hS (lv_sub hl [2, 3, 4, 5, 6] rfl)
            · exact absurd (by obtain ⟨z9, hz8, hz9⟩ := hou; rw [hz8, hz9, ha3]) hc1205
        · exact absurd rfl hc1189
    · replace hr1 := hr1.symm
      subst hr1
      refine lv_istore (lv' := [(5, .int (nI 1)), (0, .ref b), (1, .ref h0), (2, .ref h3), (3, .ref g5), (4, .int (nI i))]) hx hb d_L_law_1155 hl (by decide) rfl (fun ls hl => ?_)
      refine lv_aload_n hx hb d_L_law_1157 rfl (lv_at hl 3 rfl) ?_
      refine lv_aload_n hx hb d_L_law_1158 rfl (lv_at hl 1 rfl) ?_
      refine lv_iload hx hb d_L_law_1159 (lv_at hl 5 rfl) ?_
      refine lv_iconst (v := nI 1) hx hb d_L_law_1161 (by decide) ?_
      refine wl_iaddn hx hb d_L_law_1162 ?_
      refine wl_sld hx hb hscr hbl hbA hS (i := (i + 1)) (by omega) hLn d_L_law_1163 ?_
      refine lv_aload_n hx hb d_L_law_1164 rfl (lv_at hl 1 rfl) ?_
      refine lv_iload hx hb d_L_law_1165 (lv_at hl 5 rfl) ?_
      refine lv_iconst (v := nI 2) hx hb d_L_law_1167 (by decide) ?_
      refine wl_iaddn hx hb d_L_law_1168 ?_
      refine wl_sld hx hb hscr hbl hbA hS (i := (i + 2)) (by omega) hLn d_L_law_1169 ?_
      refine lv_if_eq (tgt := 1177) hx hb d_L_law_1170 (by decide) (fun hc1170 => ?_) (fun hc1170 => ?_)
      · exact absurd hc1170 hc1143
      · refine lv_iconst (v := nI 1) hx hb d_L_law_1173 (by decide) ?_
        refine lv_goto (tgt := 1178) hx hb d_L_law_1174 (by decide) ?_
        refine W.eq (g2 := F0 m 1178 ls [.int (bs_i true), .int (xs (i + 1)), .ref h3]) rfl ?_
        obtain ⟨hPc, hDc, hFc⟩ := la_M hP hD hS hA
        refine va_calli (va_runV (C := "FlowNestModel") (b := h3) (As := [.int (xs (i + 1)), .int (bs_i true)]) (rest := []) ⟨hx, hb, hml, hown, hts⟩ (c_M_order l dC dI cJ cI h3 k3 o3 w3 v3 p3 e3 f3 q3 H.size cd ey ex rc eg L so wi ew lo men le pi n r x q (xs (i + 1)) true hn hz hL hq) (cwV 2 hts (nm_gV nm_576 nm_577 nm_578 nm_4 nm_c_M_order) rfl rfl rfl (by decide +kernel) ⟨Nat.le_of_ble_eq_true rfl, Nat.le_of_ble_eq_true rfl⟩) ⟨cw_blindM, va_recv hK hPc (ci := 3) rfl (q0 := 0) rfl, cw_preM hPc hDc hK hNw⟩ rfl rfl hl.1 rfl (lv_room (Nat.le_of_ble_eq_true rfl)) d_L_law_1178 ⟨rm_c (by omega), rm_s (by omega)⟩) hS (fun q _ h => hFc q h) hFc (fun r80 u9 t H1 locs ht hvm hw81 hB hz1 hk1 hS => ?_)
        obtain ⟨zrc82, zeg83, zso84, zwi85, zew86, zlo87, zen88, zle89, zpi90, zb91, zk92⟩ := u9
        obtain ⟨hP1, hD1⟩ := hB
        rw [ht] at hP1
        obtain ⟨hP, hD⟩ := la_jM hP hD hk1 hFc hP1 hD1
        clear hPc hDc hFc hP1 hD1 hk1 hz1 ht
        generalize H1 = H at hP hS ⊢
        obtain ⟨hv2, hq2, ha2⟩ := hw81
        have hzb : zb91 = false := Bool.eq_false_iff.mpr (fun z => hval (hv2.mp z))
        replace hzb := hzb.symm
        subst hzb
        have hP : va_P (dC, dI) vwCl (la_ws cJ cI h0 h1 n1 a1 e1 l1 b1 t1 h2 n2 a2 e2 l2 b2 t2 h4 c4 h3 k3 o3 w3 v3 p3 e3 f3 q3 g5 (nI n) (nI (sp_lc n L)) L yab949 yen950 ylf951 ybl952 ytr953 (nI n) (nI r) ymt954 (bs_i yp948) (gf_T n L) yyb956 yyn957 yyf958 yyl959 yyr960 (nI n) (nI x) yym961 (bs_i ys955) ybo963 (bs_i yw962) (nI 1) (nI n) ey ex (bs_i zk92) zrc82 zeg83 L zso84 zwi85 zew86 zlo87 zen88 zle89 zpi90 you964) H := hP
        have hD : va_D A (la_ws cJ cI h0 h1 n1 a1 e1 l1 b1 t1 h2 n2 a2 e2 l2 b2 t2 h4 c4 h3 k3 o3 w3 v3 p3 e3 f3 q3 g5 (nI n) (nI (sp_lc n L)) L yab949 yen950 ylf951 ybl952 ytr953 (nI n) (nI r) ymt954 (bs_i yp948) (gf_T n L) yyb956 yyn957 yyf958 yyl959 yyr960 (nI n) (nI x) yym961 (bs_i ys955) ybo963 (bs_i yw962) (nI 1) (nI n) ey ex (bs_i zk92) zrc82 zeg83 L zso84 zwi85 zew86 zlo87 zen88 zle89 zpi90 you964) := hD
        refine lv_istore (lv' := [(6, .int r80), (5, .int (nI 1)), (0, .ref b), (1, .ref h0), (2, .ref h3), (3, .ref g5), (4, .int (nI i))]) hx hb d_L_law_1181 hl (by decide) rfl (fun ls hl => ?_)
        refine lv_aload_n hx hb d_L_law_1183 rfl (lv_at hl 4 rfl) ?_
        have hPc := (la_M hP hD hS hA).1
        refine vp_callSi (va_Run.run (va_runV (C := "FlowNestModel") (b := h3) (As := []) (rest := []) ⟨hx, hb, hml, hown, hts⟩ (c_M_thrown l dC dI cJ cI h3 k3 o3 w3 v3 p3 e3 f3 q3 (nI 1) (nI n) ey ex (bs_i zk92) zrc82 zeg83 L zso84 zwi85 zew86 zlo87 zen88 zle89 zpi90) (cwV 0 hts (nm_gV nm_460 nm_461 nm_462 nm_4 nm_c_M_thrown) rfl rfl rfl (by decide +kernel) ⟨Nat.le_of_ble_eq_true rfl, Nat.le_of_ble_eq_true rfl⟩) ⟨cw_blind, va_recv hK hPc (ci := 3) rfl (q0 := 0) rfl, cw_pre hPc hK hNw⟩ rfl rfl hl.1 rfl (lv_room (Nat.le_of_ble_eq_true rfl)) d_L_law_1184 ⟨rm_c (by omega), rm_s (by omega)⟩)) (fun r93 hr94 => ?_)
        clear hPc
        subst hr94
        refine lv_iload hx hb d_L_law_1187 (lv_at hl 1 rfl) ?_
        refine wl_ieq (tgt := 1194) hx hb (by omega) (by omega) d_L_law_1189 (by decide) (fun hc1189 => ?_) (fun hc1189 => ?_)
        · refine lv_iload hx hb d_L_law_1194 (lv_at hl 1 rfl) ?_
          refine wl_ifnen (tgt := 1211) hx hb (by omega) d_L_law_1196 (by decide) (fun hc1196 => ?_) (fun hc1196 => ?_)
          · refine lv_goto (tgt := 1239) hx hb d_L_law_1211 (by decide) ?_
            refine W.widen (k := cells + 2) (n := slots + 12) (by omega) (by omega) ?_
            exact back _ _ _ ⟨n, r, x, L, nI (sp_lc n L), gf_T n L, yp948, ys955, yw962, yab949, yen950, ylf951, ybl952, ytr953, ymt954, yyb956, yyn957, yyf958, yyl959, yyr960, yym961, ybo963, nI 1, ey, ex, zk92, zrc82, zeg83, zso84, zwi85, zew86, zlo87, zen88, zle89, zpi90, you964, hn, hL, hJ1, hJ2, hJ4, rfl, rfl, hz, hz0, hq2, hP, hD⟩ hS (lv_sub hl [2, 3, 4, 5, 6] rfl)
          · exact absurd hc1196 (by decide)
        · exact absurd rfl hc1189
