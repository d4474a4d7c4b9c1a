/-! the law's cases (laid by wip/gen/law.py) -/
set_option maxHeartbeats 4000000 in
set_option maxRecDepth 100000 in
theorem law_3 {p : Program} {l : Launch} {e : Env} {s : State} {m : MethodId} {below : List Frame} {meth : Method} {c : Code} {b Ln : Nat} {xs : Nat → Int32} {A : Nat → Prop} {Q : State → Prop} {dC : Nat → ClassId} {dI : Nat → Nat → Nat} {cJ cI : ClassId} {h0 h1 n1 a1 e1 l1 b1 t1 h2 n2 a2 e2 l2 b2 t2 h4 c4 h3 k3 o3 w3 v3 p3 e3 f3 q3 g5 sa sb : Nat} (C9 : lw_C p l s m c b Ln xs A dC dI cJ cI sa sb) {cells slots i : Nat} (hi : i + 4 ≤ Ln) (hc9 : cells + 2 ≤ 1053) (hs9 : slots + 12 ≤ 9256) (back : ∀ (H : Heap) (locs : List Loc) (ls : Array Slot), lw_J A dC dI cJ cI h0 h1 n1 a1 e1 l1 b1 t1 h2 n2 a2 e2 l2 b2 t2 h4 c4 h3 k3 o3 w3 v3 p3 e3 f3 q3 g5 H → va_S A s.heap H locs → lv_has ls 8 [(0, .ref b), (1, .ref h0), (2, .ref h3), (3, .ref g5), (4, .int (nI i))] → W p l e room_1 s m #[Value.ref b] below meth c H locs (cells + 2) (slots + 12) Q (F0 m 1239 ls [])) {H : Heap} {locs : List Loc} {ls : Array Slot} (hJ : lw_J A dC dI cJ cI h0 h1 n1 a1 e1 l1 b1 t1 h2 n2 a2 e2 l2 b2 t2 h4 c4 h3 k3 o3 w3 v3 p3 e3 f3 q3 g5 H) (hS : va_S A s.heap H locs) (hl : lv_has ls 8 [(0, .ref b), (1, .ref h0), (2, .ref h3), (3, .ref g5), (4, .int (nI i))]) : W p l e room_1 s m #[Value.ref b] below meth c H locs cells slots Q (F0 m 332 ls []) := by
  obtain ⟨hx, hb, hml, hown, hts, hNw, hK, hX0, hA1, hl9, hscr, hbl, hLn⟩ := C9
  have hA : ∀ q : Nat, s.heap.size ≤ q → A q := fun q h => (hA1 q).mpr h
  have hbA : ¬ A b := fun z => absurd ((hA1 b).mp z) (by omega)
  obtain ⟨n, r, x, L, fc, M, q1, q2, q4, ab, en, lf, bl, tr, mt, ab2, en2, lf2, bl2, tr2, mt2, bo, cd, ey, ex, q, rc, eg, so, wi, ew, lo, men, le, pi, ou, hn, hL, hI1, hI2, hI4, hfc, hM, hz, hz0, hq, hP, hD⟩ := hJ
  subst hfc
  subst hM
  have hP : va_P (dC, dI) vwCl (la_ws cJ cI h0 h1 n1 a1 e1 l1 b1 t1 h2 n2 a2 e2 l2 b2 t2 h4 c4 h3 k3 o3 w3 v3 p3 e3 f3 q3 g5 (nI n) (nI (sp_lc n L)) L ab en lf bl tr (nI n) (nI r) mt (bs_i q1) (gf_T n L) ab2 en2 lf2 bl2 tr2 (nI n) (nI x) mt2 (bs_i q2) bo (bs_i q4) cd (nI n) ey ex (bs_i q) rc eg L so wi ew lo men le pi ou) H := hP
  have hD : va_D A (la_ws cJ cI h0 h1 n1 a1 e1 l1 b1 t1 h2 n2 a2 e2 l2 b2 t2 h4 c4 h3 k3 o3 w3 v3 p3 e3 f3 q3 g5 (nI n) (nI (sp_lc n L)) L ab en lf bl tr (nI n) (nI r) mt (bs_i q1) (gf_T n L) ab2 en2 lf2 bl2 tr2 (nI n) (nI x) mt2 (bs_i q2) bo (bs_i q4) cd (nI n) ey ex (bs_i q) rc eg L so wi ew lo men le pi ou) := hD
  refine lv_aload_n hx hb d_L_law_332 rfl (lv_at hl 1 rfl) ?_
  refine lv_aload_n hx hb d_L_law_333 rfl (lv_at hl 0 rfl) ?_
  refine lv_iload hx hb d_L_law_334 (lv_at hl 4 rfl) ?_
  refine lv_iconst (v := nI 1) hx hb d_L_law_336 (by decide) ?_
  refine wl_iaddn hx hb d_L_law_337 ?_
  refine wl_sld hx hb hscr hbl hbA hS (i := (i + 1)) (by omega) hLn d_L_law_338 ?_
  refine lv_aload_n hx hb d_L_law_339 rfl (lv_at hl 0 rfl) ?_
  refine lv_iload hx hb d_L_law_340 (lv_at hl 4 rfl) ?_
  refine lv_iconst (v := nI 2) hx hb d_L_law_342 (by decide) ?_
  refine wl_iaddn hx hb d_L_law_343 ?_
  refine wl_sld hx hb hscr hbl hbA hS (i := (i + 2)) (by omega) hLn d_L_law_344 ?_
  refine lv_if_eq (tgt := 352) hx hb d_L_law_345 (by decide) (fun hc345 => ?_) (fun hc345 => ?_)
  · refine lv_iconst (v := nI 0) hx hb d_L_law_352 (by decide) ?_
    refine lv_aload_n hx hb d_L_law_353 rfl (lv_at hl 3 rfl) ?_
    refine W.eq (g2 := F0 m 354 ls [.ref g5, .int (bs_i false), .int (xs (i + 1)), .ref h0]) rfl ?_
    obtain ⟨hPc, hDc, hFc⟩ := la_L hP hD hS hA
    have hX := tx_kept hX0 hS.1 (fun q hq9 => hS.2.1 q hq9 (fun z => absurd ((hA1 q).mp z) (by omega)))
    refine va_calli (vx_runSW (As := [.ref h0, .int (xs (i + 1)), .int (bs_i false), .ref g5]) (rest := []) ⟨hx, hb, hml, hown, hts⟩ (c_L_isReached l hl9 dC dI cJ cI h0 h1 n1 a1 e1 l1 b1 t1 h2 n2 a2 e2 l2 b2 t2 h4 c4 g5 H.size sa sb ab en lf bl tr mt ab2 en2 lf2 bl2 tr2 mt2 bo ou n r x L q1 q2 q4 (xs (i + 1)) false hn hL hI1 hI2 hI4) (vx_cwSW 4 hts (nm_gS nm_317 nm_318 nm_0 nm_c_L_isReached) rfl rfl rfl (by decide +kernel) ⟨Nat.le_of_ble_eq_true rfl, Nat.le_of_ble_eq_true rfl⟩) ⟨cw_blindT, cw_preT hPc hDc hK hNw hX⟩ rfl rfl hl.1 rfl (lv_room (Nat.le_of_ble_eq_true rfl)) d_L_law_354 ⟨rm_c (by omega), rm_s (by omega)⟩) hS (fun q _ h => hFc q h) hFc (fun r1 u9 t H1 locs ht hvm hw hB hz1 hk1 hS => ?_)
    obtain ⟨yp91, yab92, yen93, ylf94, ybl95, ytr96, ymt97, ys98, yyb99, yyn910, yyf911, yyl912, yyr913, yym914, yw915, ybo916, you917⟩ := u9
    obtain ⟨hP1, hD1⟩ := hB
    rw [ht] at hP1
    obtain ⟨hP, hD⟩ := la_jL hP hD hk1 hFc hP1 hD1
    clear hPc hDc hFc hX hP1 hD1 hk1 hz1 ht
    generalize H1 = H at hP hS ⊢
    obtain ⟨⟨hJ1, hJ2, hJ4⟩, hw⟩ := hw
    rcases hw with ⟨hr1, k, hk_k, hk_v, hou⟩ | ⟨hr1, hval⟩
    · replace hr1 := hr1.symm
      subst hr1
      have hval : ∃ k, k < n ∧ xs (i + 1) = nI k := ⟨k, hk_k, hk_v⟩
      refine lv_istore (lv' := [(5, .int (nI 0)), (0, .ref b), (1, .ref h0), (2, .ref h3), (3, .ref g5), (4, .int (nI i))]) hx hb d_L_law_357 hl (by decide) rfl (fun ls hl => ?_)
      refine lv_aload_n hx hb d_L_law_359 rfl (lv_at hl 3 rfl) ?_
      refine lv_aload_n hx hb d_L_law_360 rfl (lv_at hl 1 rfl) ?_
      refine lv_iload hx hb d_L_law_361 (lv_at hl 5 rfl) ?_
      refine lv_iconst (v := nI 1) hx hb d_L_law_363 (by decide) ?_
      refine wl_iaddn hx hb d_L_law_364 ?_
      refine wl_sld hx hb hscr hbl hbA hS (i := (i + 1)) (by omega) hLn d_L_law_365 ?_
      refine lv_aload_n hx hb d_L_law_366 rfl (lv_at hl 1 rfl) ?_
      refine lv_iload hx hb d_L_law_367 (lv_at hl 5 rfl) ?_
      refine lv_iconst (v := nI 2) hx hb d_L_law_369 (by decide) ?_
      refine wl_iaddn hx hb d_L_law_370 ?_
      refine wl_sld hx hb hscr hbl hbA hS (i := (i + 2)) (by omega) hLn d_L_law_371 ?_
      refine lv_if_eq (tgt := 379) hx hb d_L_law_372 (by decide) (fun hc372 => ?_) (fun hc372 => ?_)
      · refine lv_iconst (v := nI 0) hx hb d_L_law_379 (by decide) ?_
        refine W.eq (g2 := F0 m 380 ls [.int (bs_i false), .int (xs (i + 1)), .ref h3]) rfl ?_
        obtain ⟨hPc, hDc, hFc⟩ := la_M hP hD hS hA
        refine va_calli (va_runV (C := "FlowNestModel") (b := h3) (As := [.int (xs (i + 1)), .int (bs_i false)]) (rest := []) ⟨hx, hb, hml, hown, hts⟩ (c_M_isReached l dC dI cJ cI h3 k3 o3 w3 v3 p3 e3 f3 q3 H.size cd ey ex rc eg L so wi ew lo men le pi n r x q (xs (i + 1)) false hn hz hL hq) (cwV 2 hts (nm_gV nm_484 nm_485 nm_486 nm_4 nm_c_M_isReached) rfl rfl rfl (by decide +kernel) ⟨Nat.le_of_ble_eq_true rfl, Nat.le_of_ble_eq_true rfl⟩) ⟨cw_blindM, va_recv hK hPc (ci := 3) rfl (q0 := 0) rfl, cw_preM hPc hDc hK hNw⟩ rfl rfl hl.1 rfl (lv_room (Nat.le_of_ble_eq_true rfl)) d_L_law_380 ⟨rm_c (by omega), rm_s (by omega)⟩) hS (fun q _ h => hFc q h) hFc (fun r18 u9 t H1 locs ht hvm hw19 hB hz1 hk1 hS => ?_)
        obtain ⟨zrc20, zeg21, zso22, zwi23, zew24, zlo25, zen26, zle27, zpi28, zb29, zk30⟩ := u9
        obtain ⟨hP1, hD1⟩ := hB
        rw [ht] at hP1
        obtain ⟨hP, hD⟩ := la_jM hP hD hk1 hFc hP1 hD1
        clear hPc hDc hFc hP1 hD1 hk1 hz1 ht
        generalize H1 = H at hP hS ⊢
        obtain ⟨hv2, hq2, ha2⟩ := hw19
        have hzb : zb29 = true := hv2.mpr hval
        replace hzb := hzb.symm
        subst hzb
        have hP : va_P (dC, dI) vwCl (la_ws cJ cI h0 h1 n1 a1 e1 l1 b1 t1 h2 n2 a2 e2 l2 b2 t2 h4 c4 h3 k3 o3 w3 v3 p3 e3 f3 q3 g5 (nI n) (nI (sp_lc n L)) L yab92 yen93 ylf94 ybl95 ytr96 (nI n) (nI r) ymt97 (bs_i yp91) (gf_T n L) yyb99 yyn910 yyf911 yyl912 yyr913 (nI n) (nI x) yym914 (bs_i ys98) ybo916 (bs_i yw915) (nI 0) (nI n) ey ex (bs_i zk30) zrc20 zeg21 L zso22 zwi23 zew24 zlo25 zen26 zle27 zpi28 you917) H := hP
        have hD : va_D A (la_ws cJ cI h0 h1 n1 a1 e1 l1 b1 t1 h2 n2 a2 e2 l2 b2 t2 h4 c4 h3 k3 o3 w3 v3 p3 e3 f3 q3 g5 (nI n) (nI (sp_lc n L)) L yab92 yen93 ylf94 ybl95 ytr96 (nI n) (nI r) ymt97 (bs_i yp91) (gf_T n L) yyb99 yyn910 yyf911 yyl912 yyr913 (nI n) (nI x) yym914 (bs_i ys98) ybo916 (bs_i yw915) (nI 0) (nI n) ey ex (bs_i zk30) zrc20 zeg21 L zso22 zwi23 zew24 zlo25 zen26 zle27 zpi28 you917) := hD
        obtain ⟨k2, hk2, hv3, ha3⟩ := ha2 rfl
        have ek := nI_i (by omega) (by omega) (hk_v.symm.trans hv3)
        subst ek
        subst ha3
        refine lv_istore (lv' := [(6, .int (bs_i (gf_d (gf_R (gf_E n (gg_L false n L)) (gg_r false r x) k)))), (5, .int (nI 0)), (0, .ref b), (1, .ref h0), (2, .ref h3), (3, .ref g5), (4, .int (nI i))]) hx hb d_L_law_383 hl (by decide) rfl (fun ls hl => ?_)
        refine lv_aload_n hx hb d_L_law_385 rfl (lv_at hl 4 rfl) ?_
        have hPc := (la_M hP hD hS hA).1
        refine vp_callSi (va_Run.run (va_runV (C := "FlowNestModel") (b := h3) (As := []) (rest := []) ⟨hx, hb, hml, hown, hts⟩ (c_M_thrown l dC dI cJ cI h3 k3 o3 w3 v3 p3 e3 f3 q3 (nI 0) (nI n) ey ex (bs_i zk30) zrc20 zeg21 L zso22 zwi23 zew24 zlo25 zen26 zle27 zpi28) (cwV 0 hts (nm_gV nm_460 nm_461 nm_462 nm_4 nm_c_M_thrown) rfl rfl rfl (by decide +kernel) ⟨Nat.le_of_ble_eq_true rfl, Nat.le_of_ble_eq_true rfl⟩) ⟨cw_blind, va_recv hK hPc (ci := 3) rfl (q0 := 0) rfl, cw_pre hPc hK hNw⟩ rfl rfl hl.1 rfl (lv_room (Nat.le_of_ble_eq_true rfl)) d_L_law_386 ⟨rm_c (by omega), rm_s (by omega)⟩)) (fun r31 hr32 => ?_)
        clear hPc
        subst hr32
        refine lv_iload hx hb d_L_law_389 (lv_at hl 1 rfl) ?_
        refine wl_ieq (tgt := 396) hx hb (by omega) (by omega) d_L_law_391 (by decide) (fun hc391 => ?_) (fun hc391 => ?_)
        · refine lv_iload hx hb d_L_law_396 (lv_at hl 1 rfl) ?_
          refine wl_ifnen (tgt := 420) hx hb (by omega) d_L_law_398 (by decide) (fun hc398 => ?_) (fun hc398 => ?_)
          · exact absurd hc398 (by decide)
          · refine lv_aload_n hx hb d_L_law_401 rfl (lv_at hl 5 rfl) ?_
            refine lv_iconst (v := nI 0) hx hb d_L_law_402 (by decide) ?_
            refine wl_lald (i := 0) hx hb hK hP 26 0 rfl rfl (by omega) (by decide) d_L_law_403 ?_
            refine lv_iload hx hb d_L_law_404 (lv_at hl 0 rfl) ?_
            refine wl_ifeqb (tgt := 413) hx hb d_L_law_406 (by decide) (fun hc406 => ?_) (fun hc406 => ?_)
            · refine lv_lconst (v := 0) hx hb d_L_law_413 (by decide) ?_
              refine wl_lcmpeq (tgt := 420) hx hb d_L_law_414 d_L_law_415 (by decide) (fun hc414 => ?_) (fun hc414 => ?_)
              · refine lv_goto (tgt := 1239) hx hb d_L_law_420 (by decide) ?_
                refine W.widen (k := cells + 2) (n := slots + 12) (by omega) (by omega) ?_
                exact back _ _ _ ⟨n, r, x, L, nI (sp_lc n L), gf_T n L, yp91, ys98, yw915, yab92, yen93, ylf94, ybl95, ytr96, ymt97, yyb99, yyn910, yyf911, yyl912, yyr913, yym914, ybo916, nI 0, ey, ex, zk30, zrc20, zeg21, zso22, zwi23, zew24, zlo25, zen26, zle27, zpi28, you917, hn, hL, hJ1, hJ2, hJ4, rfl, rfl, hz, hz0, hq2, hP, hD⟩ hS (lv_sub hl [2, 3, 4, 5, 6] rfl)
              · exact absurd (hou.trans (by rw [hc406]; rfl)) hc414
            · refine lv_lconst (v := 1) hx hb d_L_law_409 (by decide) ?_
              refine lv_goto (tgt := 414) hx hb d_L_law_410 (by decide) ?_
              refine wl_lcmpeq (tgt := 420) hx hb d_L_law_414 d_L_law_415 (by decide) (fun hc414 => ?_) (fun hc414 => ?_)
              · refine lv_goto (tgt := 1239) hx hb d_L_law_420 (by decide) ?_
                refine W.widen (k := cells + 2) (n := slots + 12) (by omega) (by omega) ?_
                exact back _ _ _ ⟨n, r, x, L, nI (sp_lc n L), gf_T n L, yp91, ys98, yw915, yab92, yen93, ylf94, ybl95, ytr96, ymt97, yyb99, yyn910, yyf911, yyl912, yyr913, yym914, ybo916, nI 0, ey, ex, zk30, zrc20, zeg21, zso22, zwi23, zew24, zlo25, zen26, zle27, zpi28, you917, hn, hL, hJ1, hJ2, hJ4, rfl, rfl, hz, hz0, hq2, hP, hD⟩ hS (lv_sub hl [2, 3, 4, 5, 6] rfl)
              · exact absurd (hou.trans (by rw [hc406]; rfl)) hc414
        · exact absurd rfl hc391
      · exact absurd hc345 hc372
    · replace hr1 := hr1.symm
      subst hr1
      refine lv_istore (lv' := [(5, .int (nI 1)), (0, .ref b), (1, .ref h0), (2, .ref h3), (3, .ref g5), (4, .int (nI i))]) hx hb d_L_law_357 hl (by decide) rfl (fun ls hl => ?_)
      refine lv_aload_n hx hb d_L_law_359 rfl (lv_at hl 3 rfl) ?_
      refine lv_aload_n hx hb d_L_law_360 rfl (lv_at hl 1 rfl) ?_
      refine lv_iload hx hb d_L_law_361 (lv_at hl 5 rfl) ?_
      refine lv_iconst (v := nI 1) hx hb d_L_law_363 (by decide) ?_
      refine wl_iaddn hx hb d_L_law_364 ?_
      refine wl_sld hx hb hscr hbl hbA hS (i := (i + 1)) (by omega) hLn d_L_law_365 ?_
      refine lv_aload_n hx hb d_L_law_366 rfl (lv_at hl 1 rfl) ?_
      refine lv_iload hx hb d_L_law_367 (lv_at hl 5 rfl) ?_
      refine lv_iconst (v := nI 2) hx hb d_L_law_369 (by decide) ?_
      refine wl_iaddn hx hb d_L_law_370 ?_
      refine wl_sld hx hb hscr hbl hbA hS (i := (i + 2)) (by omega) hLn d_L_law_371 ?_
      refine lv_if_eq (tgt := 379) hx hb d_L_law_372 (by decide) (fun hc372 => ?_) (fun hc372 => ?_)
      · refine lv_iconst (v := nI 0) hx hb d_L_law_379 (by decide) ?_
        refine W.eq (g2 := F0 m 380 ls [.int (bs_i false), .int (xs (i + 1)), .ref h3]) rfl ?_
        obtain ⟨hPc, hDc, hFc⟩ := la_M hP hD hS hA
        refine va_calli (va_runV (C := "FlowNestModel") (b := h3) (As := [.int (xs (i + 1)), .int (bs_i false)]) (rest := []) ⟨hx, hb, hml, hown, hts⟩ (c_M_isReached l dC dI cJ cI h3 k3 o3 w3 v3 p3 e3 f3 q3 H.size cd ey ex rc eg L so wi ew lo men le pi n r x q (xs (i + 1)) false hn hz hL hq) (cwV 2 hts (nm_gV nm_484 nm_485 nm_486 nm_4 nm_c_M_isReached) rfl rfl rfl (by decide +kernel) ⟨Nat.le_of_ble_eq_true rfl, Nat.le_of_ble_eq_true rfl⟩) ⟨cw_blindM, va_recv hK hPc (ci := 3) rfl (q0 := 0) rfl, cw_preM hPc hDc hK hNw⟩ rfl rfl hl.1 rfl (lv_room (Nat.le_of_ble_eq_true rfl)) d_L_law_380 ⟨rm_c (by omega), rm_s (by omega)⟩) hS (fun q _ h => hFc q h) hFc (fun r33 u9 t H1 locs ht hvm hw34 hB hz1 hk1 hS => ?_)
        obtain ⟨zrc35, zeg36, zso37, zwi38, zew39, zlo40, zen41, zle42, zpi43, zb44, zk45⟩ := u9
        obtain ⟨hP1, hD1⟩ := hB
        rw [ht] at hP1
        obtain ⟨hP, hD⟩ := la_jM hP hD hk1 hFc hP1 hD1
        clear hPc hDc hFc hP1 hD1 hk1 hz1 ht
        generalize H1 = H at hP hS ⊢
        obtain ⟨hv2, hq2, ha2⟩ := hw34
        have hzb : zb44 = false := Bool.eq_false_iff.mpr (fun z => hval (hv2.mp z))
        replace hzb := hzb.symm
        subst hzb
        have hP : va_P (dC, dI) vwCl (la_ws cJ cI h0 h1 n1 a1 e1 l1 b1 t1 h2 n2 a2 e2 l2 b2 t2 h4 c4 h3 k3 o3 w3 v3 p3 e3 f3 q3 g5 (nI n) (nI (sp_lc n L)) L yab92 yen93 ylf94 ybl95 ytr96 (nI n) (nI r) ymt97 (bs_i yp91) (gf_T n L) yyb99 yyn910 yyf911 yyl912 yyr913 (nI n) (nI x) yym914 (bs_i ys98) ybo916 (bs_i yw915) (nI 1) (nI n) ey ex (bs_i zk45) zrc35 zeg36 L zso37 zwi38 zew39 zlo40 zen41 zle42 zpi43 you917) H := hP
        have hD : va_D A (la_ws cJ cI h0 h1 n1 a1 e1 l1 b1 t1 h2 n2 a2 e2 l2 b2 t2 h4 c4 h3 k3 o3 w3 v3 p3 e3 f3 q3 g5 (nI n) (nI (sp_lc n L)) L yab92 yen93 ylf94 ybl95 ytr96 (nI n) (nI r) ymt97 (bs_i yp91) (gf_T n L) yyb99 yyn910 yyf911 yyl912 yyr913 (nI n) (nI x) yym914 (bs_i ys98) ybo916 (bs_i yw915) (nI 1) (nI n) ey ex (bs_i zk45) zrc35 zeg36 L zso37 zwi38 zew39 zlo40 zen41 zle42 zpi43 you917) := hD
        refine lv_istore (lv' := [(6, .int r33), (5, .int (nI 1)), (0, .ref b), (1, .ref h0), (2, .ref h3), (3, .ref g5), (4, .int (nI i))]) hx hb d_L_law_383 hl (by decide) rfl (fun ls hl => ?_)
        refine lv_aload_n hx hb d_L_law_385 rfl (lv_at hl 4 rfl) ?_
        have hPc := (la_M hP hD hS hA).1
        refine vp_callSi (va_Run.run (va_runV (C := "FlowNestModel") (b := h3) (As := []) (rest := []) ⟨hx, hb, hml, hown, hts⟩ (c_M_thrown l dC dI cJ cI h3 k3 o3 w3 v3 p3 e3 f3 q3 (nI 1) (nI n) ey ex (bs_i zk45) zrc35 zeg36 L zso37 zwi38 zew39 zlo40 zen41 zle42 zpi43) (cwV 0 hts (nm_gV nm_460 nm_461 nm_462 nm_4 nm_c_M_thrown) rfl rfl rfl (by decide +kernel) ⟨Nat.le_of_ble_eq_true rfl, Nat.le_of_ble_eq_true rfl⟩) ⟨cw_blind, va_recv hK hPc (ci := 3) rfl (q0 := 0) rfl, cw_pre hPc hK hNw⟩ rfl rfl hl.1 rfl (lv_room (Nat.le_of_ble_eq_true rfl)) d_L_law_386 ⟨rm_c (by omega), rm_s (by omega)⟩)) (fun r46 hr47 => ?_)
        clear hPc
        subst hr47
        refine lv_iload hx hb d_L_law_389 (lv_at hl 1 rfl) ?_
        refine wl_ieq (tgt := 396) hx hb (by omega) (by omega) d_L_law_391 (by decide) (fun hc391 => ?_) (fun hc391 => ?_)
        · refine lv_iload hx hb d_L_law_396 (lv_at hl 1 rfl) ?_
          refine wl_ifnen (tgt := 420) hx hb (by omega) d_L_law_398 (by decide) (fun hc398 => ?_) (fun hc398 => ?_)
          · refine lv_goto (tgt := 1239) hx hb d_L_law_420 (by decide) ?_
            refine W.widen (k := cells + 2) (n := slots + 12) (by omega) (by omega) ?_
            exact back _ _ _ ⟨n, r, x, L, nI (sp_lc n L), gf_T n L, yp91, ys98, yw915, yab92, yen93, ylf94, ybl95, ytr96, ymt97, yyb99, yyn910, yyf911, yyl912, yyr913, yym914, ybo916, nI 1, ey, ex, zk45, zrc35, zeg36, zso37, zwi38, zew39, zlo40, zen41, zle42, zpi43, you917, hn, hL, hJ1, hJ2, hJ4, rfl, rfl, hz, hz0, hq2, hP, hD⟩ hS (lv_sub hl [2, 3, 4, 5, 6] rfl)
          · exact absurd hc398 (by decide)
        · exact absurd rfl hc391
      · exact absurd hc345 hc372
  · refine lv_iconst (v := nI 1) hx hb d_L_law_348 (by decide) ?_
    refine lv_goto (tgt := 353) hx hb d_L_law_349 (by decide) ?_
    refine lv_aload_n hx hb d_L_law_353 rfl (lv_at hl 3 rfl) ?_
    refine W.eq (g2 := F0 m 354 ls [.ref g5, .int (bs_i true), .int (xs (i + 1)), .ref h0]) rfl ?_
    obtain ⟨hPc, hDc, hFc⟩ := la_L hP hD hS hA
    have hX := tx_kept hX0 hS.1 (fun q hq9 => hS.2.1 q hq9 (fun z => absurd ((hA1 q).mp z) (by omega)))
    refine va_calli (vx_runSW (As := [.ref h0, .int (xs (i + 1)), .int (bs_i true), .ref g5]) (rest := []) ⟨hx, hb, hml, hown, hts⟩ (c_L_isReached l hl9 dC dI cJ cI h0 h1 n1 a1 e1 l1 b1 t1 h2 n2 a2 e2 l2 b2 t2 h4 c4 g5 H.size sa sb ab en lf bl tr mt ab2 en2 lf2 bl2 tr2 mt2 bo ou n r x L q1 q2 q4 (xs (i + 1)) true hn hL hI1 hI2 hI4) (vx_cwSW 4 hts (nm_gS nm_317 nm_318 nm_0 nm_c_L_isReached) rfl rfl rfl (by decide +kernel) ⟨Nat.le_of_ble_eq_true rfl, Nat.le_of_ble_eq_true rfl⟩) ⟨cw_blindT, cw_preT hPc hDc hK hNw hX⟩ rfl rfl hl.1 rfl (lv_room (Nat.le_of_ble_eq_true rfl)) d_L_law_354 ⟨rm_c (by omega), rm_s (by omega)⟩) hS (fun q _ h => hFc q h) hFc (fun r1 u9 t H1 locs ht hvm hw hB hz1 hk1 hS => ?_)
    obtain ⟨yp948, yab949, yen950, ylf951, ybl952, ytr953, ymt954, ys955, yyb956, yyn957, yyf958, yyl959, yyr960, yym961, yw962, ybo963, you964⟩ := u9
    obtain ⟨hP1, hD1⟩ := hB
    rw [ht] at hP1
    obtain ⟨hP, hD⟩ := la_jL hP hD hk1 hFc hP1 hD1
    clear hPc hDc hFc hX hP1 hD1 hk1 hz1 ht
    generalize H1 = H at hP hS ⊢
    obtain ⟨⟨hJ1, hJ2, hJ4⟩, hw⟩ := hw
    rcases hw with ⟨hr1, k, hk_k, hk_v, hou⟩ | ⟨hr1, hval⟩
    · replace hr1 := hr1.symm
      subst hr1
      have hval : ∃ k, k < n ∧ xs (i + 1) = nI k := ⟨k, hk_k, hk_v⟩
      refine lv_istore (lv' := [(5, .int (nI 0)), (0, .ref b), (1, .ref h0), (2, .ref h3), (3, .ref g5), (4, .int (nI i))]) hx hb d_L_law_357 hl (by decide) rfl (fun ls hl => ?_)
      refine lv_aload_n hx hb d_L_law_359 rfl (lv_at hl 3 rfl) ?_
      refine lv_aload_n hx hb d_L_law_360 rfl (lv_at hl 1 rfl) ?_
      refine lv_iload hx hb d_L_law_361 (lv_at hl 5 rfl) ?_
      refine lv_iconst (v := nI 1) hx hb d_L_law_363 (by decide) ?_
      refine wl_iaddn hx hb d_L_law_364 ?_
      refine wl_sld hx hb hscr hbl hbA hS (i := (i + 1)) (by omega) hLn d_L_law_365 ?_
      refine lv_aload_n hx hb d_L_law_366 rfl (lv_at hl 1 rfl) ?_
      refine lv_iload hx hb d_L_law_367 (lv_at hl 5 rfl) ?_
      refine lv_iconst (v := nI 2) hx hb d_L_law_369 (by decide) ?_
      refine wl_iaddn hx hb d_L_law_370 ?_
      refine wl_sld hx hb hscr hbl hbA hS (i := (i + 2)) (by omega) hLn d_L_law_371 ?_
      refine lv_if_eq (tgt := 379) hx hb d_L_law_372 (by decide) (fun hc372 => ?_) (fun hc372 => ?_)
      · exact absurd hc372 hc345
      · refine lv_iconst (v := nI 1) hx hb d_L_law_375 (by decide) ?_
        refine lv_goto (tgt := 380) hx hb d_L_law_376 (by decide) ?_
        refine W.eq (g2 := F0 m 380 ls [.int (bs_i true), .int (xs (i + 1)), .ref h3]) rfl ?_
        obtain ⟨hPc, hDc, hFc⟩ := la_M hP hD hS hA
        refine va_calli (va_runV (C := "FlowNestModel") (b := h3) (As := [.int (xs (i + 1)), .int (bs_i true)]) (rest := []) ⟨hx, hb, hml, hown, hts⟩ (c_M_isReached l dC dI cJ cI h3 k3 o3 w3 v3 p3 e3 f3 q3 H.size cd ey ex rc eg L so wi ew lo men le pi n r x q (xs (i + 1)) true hn hz hL hq) (cwV 2 hts (nm_gV nm_484 nm_485 nm_486 nm_4 nm_c_M_isReached) rfl rfl rfl (by decide +kernel) ⟨Nat.le_of_ble_eq_true rfl, Nat.le_of_ble_eq_true rfl⟩) ⟨cw_blindM, va_recv hK hPc (ci := 3) rfl (q0 := 0) rfl, cw_preM hPc hDc hK hNw⟩ rfl rfl hl.1 rfl (lv_room (Nat.le_of_ble_eq_true rfl)) d_L_law_380 ⟨rm_c (by omega), rm_s (by omega)⟩) hS (fun q _ h => hFc q h) hFc (fun r65 u9 t H1 locs ht hvm hw66 hB hz1 hk1 hS => ?_)
        obtain ⟨zrc67, zeg68, zso69, zwi70, zew71, zlo72, zen73, zle74, zpi75, zb76, zk77⟩ := u9
        obtain ⟨hP1, hD1⟩ := hB
        rw [ht] at hP1
        obtain ⟨hP, hD⟩ := la_jM hP hD hk1 hFc hP1 hD1
        clear hPc hDc hFc hP1 hD1 hk1 hz1 ht
        generalize H1 = H at hP hS ⊢
        obtain ⟨hv2, hq2, ha2⟩ := hw66
        have hzb : zb76 = true := hv2.mpr hval
        replace hzb := hzb.symm
        subst hzb
        have hP : va_P (dC, dI) vwCl (la_ws cJ cI h0 h1 n1 a1 e1 l1 b1 t1 h2 n2 a2 e2 l2 b2 t2 h4 c4 h3 k3 o3 w3 v3 p3 e3 f3 q3 g5 (nI n) (nI (sp_lc n L)) L yab949 yen950 ylf951 ybl952 ytr953 (nI n) (nI r) ymt954 (bs_i yp948) (gf_T n L) yyb956 yyn957 yyf958 yyl959 yyr960 (nI n) (nI x) yym961 (bs_i ys955) ybo963 (bs_i yw962) (nI 0) (nI n) ey ex (bs_i zk77) zrc67 zeg68 L zso69 zwi70 zew71 zlo72 zen73 zle74 zpi75 you964) H := hP
        have hD : va_D A (la_ws cJ cI h0 h1 n1 a1 e1 l1 b1 t1 h2 n2 a2 e2 l2 b2 t2 h4 c4 h3 k3 o3 w3 v3 p3 e3 f3 q3 g5 (nI n) (nI (sp_lc n L)) L yab949 yen950 ylf951 ybl952 ytr953 (nI n) (nI r) ymt954 (bs_i yp948) (gf_T n L) yyb956 yyn957 yyf958 yyl959 yyr960 (nI n) (nI x) yym961 (bs_i ys955) ybo963 (bs_i yw962) (nI 0) (nI n) ey ex (bs_i zk77) zrc67 zeg68 L zso69 zwi70 zew71 zlo72 zen73 zle74 zpi75 you964) := hD
        obtain ⟨k2, hk2, hv3, ha3⟩ := ha2 rfl
        have ek := nI_i (by omega) (by omega) (hk_v.symm.trans hv3)
        subst ek
        subst ha3
        refine lv_istore (lv' := [(6, .int (bs_i (gf_d (gf_R (gf_E n (gg_L true n L)) (gg_r true r x) k)))), (5, .int (nI 0)), (0, .ref b), (1, .ref h0), (2, .ref h3), (3, .ref g5), (4, .int (nI i))]) hx hb d_L_law_383 hl (by decide) rfl (fun ls hl => ?_)
        refine lv_aload_n hx hb d_L_law_385 rfl (lv_at hl 4 rfl) ?_
        have hPc := (la_M hP hD hS hA).1
        refine vp_callSi (va_Run.run (va_runV (C := "FlowNestModel") (b := h3) (As := []) (rest := []) ⟨hx, hb, hml, hown, hts⟩ (c_M_thrown l dC dI cJ cI h3 k3 o3 w3 v3 p3 e3 f3 q3 (nI 0) (nI n) ey ex (bs_i zk77) zrc67 zeg68 L zso69 zwi70 zew71 zlo72 zen73 zle74 zpi75) (cwV 0 hts (nm_gV nm_460 nm_461 nm_462 nm_4 nm_c_M_thrown) rfl rfl rfl (by decide +kernel) ⟨Nat.le_of_ble_eq_true rfl, Nat.le_of_ble_eq_true rfl⟩) ⟨cw_blind, va_recv hK hPc (ci := 3) rfl (q0 := 0) rfl, cw_pre hPc hK hNw⟩ rfl rfl hl.1 rfl (lv_room (Nat.le_of_ble_eq_true rfl)) d_L_law_386 ⟨rm_c (by omega), rm_s (by omega)⟩)) (fun r78 hr79 => ?_)
        clear hPc
        subst hr79
        refine lv_iload hx hb d_L_law_389 (lv_at hl 1 rfl) ?_
        refine wl_ieq (tgt := 396) hx hb (by omega) (by omega) d_L_law_391 (by decide) (fun hc391 => ?_) (fun hc391 => ?_)
        · refine lv_iload hx hb d_L_law_396 (lv_at hl 1 rfl) ?_
          refine wl_ifnen (tgt := 420) hx hb (by omega) d_L_law_398 (by decide) (fun hc398 => ?_) (fun hc398 => ?_)
          · exact absurd hc398 (by decide)
          · refine lv_aload_n hx hb d_L_law_401 rfl (lv_at hl 5 rfl) ?_
            refine lv_iconst (v := nI 0) hx hb d_L_law_402 (by decide) ?_
            refine wl_lald (i := 0) hx hb hK hP 26 0 rfl rfl (by omega) (by decide) d_L_law_403 ?_
            refine lv_iload hx hb d_L_law_404 (lv_at hl 0 rfl) ?_
            refine wl_ifeqb (tgt := 413) hx hb d_L_law_406 (by decide) (fun hc406 => ?_) (fun hc406 => ?_)
            · refine lv_lconst (v := 0) hx hb d_L_law_413 (by decide) ?_
              refine wl_lcmpeq (tgt := 420) hx hb d_L_law_414 d_L_law_415 (by decide) (fun hc414 => ?_) (fun hc414 => ?_)
              · refine lv_goto (tgt := 1239) hx hb d_L_law_420 (by decide) ?_
                refine W.widen (k := cells + 2) (n := slots + 12) (by omega) (by omega) ?_
                exact back _ _ _ ⟨n, r, x, L, nI (sp_lc n L), gf_T n L, yp948, ys955, yw962, yab949, yen950, ylf951, ybl952, ytr953, ymt954, yyb956, yyn957, yyf958, yyl959, yyr960, yym961, ybo963, nI 0, ey, ex, zk77, zrc67, zeg68, zso69, zwi70, zew71, zlo72, zen73, zle74, zpi75, you964, hn, hL, hJ1, hJ2, hJ4, rfl, rfl, hz, hz0, hq2, hP, hD⟩ hS (lv_sub hl [2, 3, 4, 5, 6] rfl)
              · exact absurd (hou.trans (by rw [hc406]; rfl)) hc414
            · refine lv_lconst (v := 1) hx hb d_L_law_409 (by decide) ?_
              refine lv_goto (tgt := 414) hx hb d_L_law_410 (by decide) ?_
              refine wl_lcmpeq (tgt := 420) hx hb d_L_law_414 d_L_law_415 (by decide) (fun hc414 => ?_) (fun hc414 => ?_)
              · refine lv_goto (tgt := 1239) hx hb d_L_law_420 (by decide) ?_
                refine W.widen (k := cells + 2) (n := slots + 12) (by omega) (by omega) ?_
                exact back _ _ _ ⟨n, r, x, L, nI (sp_lc n L), gf_T n L, yp948, ys955, yw962, yab949, yen950, ylf951, ybl952, ytr953, ymt954, yyb956, yyn957, yyf958, yyl959, yyr960, yym961, ybo963, nI 0, ey, ex, zk77, zrc67, zeg68, zso69, zwi70, zew71, zlo72, zen73, zle74, zpi75, you964, hn, hL, hJ1, hJ2, hJ4, rfl, rfl, hz, hz0, hq2, hP, hD⟩ hS (lv_sub hl [2, 3, 4, 5, 6] rfl)
              · exact absurd (hou.trans (by rw [hc406]; rfl)) hc414
        · exact absurd rfl hc391
    · replace hr1 := hr1.symm
      subst hr1
      refine lv_istore (lv' := [(5, .int (nI 1)), (0, .ref b), (1, .ref h0), (2, .ref h3), (3, .ref g5), (4, .int (nI i))]) hx hb d_L_law_357 hl (by decide) rfl (fun ls hl => ?_)
      refine lv_aload_n hx hb d_L_law_359 rfl (lv_at hl 3 rfl) ?_
      refine lv_aload_n hx hb d_L_law_360 rfl (lv_at hl 1 rfl) ?_
      refine lv_iload hx hb d_L_law_361 (lv_at hl 5 rfl) ?_
      refine lv_iconst (v := nI 1) hx hb d_L_law_363 (by decide) ?_
      refine wl_iaddn hx hb d_L_law_364 ?_
      refine wl_sld hx hb hscr hbl hbA hS (i := (i + 1)) (by omega) hLn d_L_law_365 ?_
      refine lv_aload_n hx hb d_L_law_366 rfl (lv_at hl 1 rfl) ?_
      refine lv_iload hx hb d_L_law_367 (lv_at hl 5 rfl) ?_
      refine lv_iconst (v := nI 2) hx hb d_L_law_369 (by decide) ?_
      refine wl_iaddn hx hb d_L_law_370 ?_
      refine wl_sld hx hb hscr hbl hbA hS (i := (i + 2)) (by omega) hLn d_L_law_371 ?_
      refine lv_if_eq (tgt := 379) hx hb d_L_law_372 (by decide) (fun hc372 => ?_) (fun hc372 => ?_)
      · exact absurd hc372 hc345
      · refine lv_iconst (v := nI 1) hx hb d_L_law_375 (by decide) ?_
        refine lv_goto (tgt := 380) hx hb d_L_law_376 (by decide) ?_
        refine W.eq (g2 := F0 m 380 ls [.int (bs_i true), .int (xs (i + 1)), .ref h3]) rfl ?_
        obtain ⟨hPc, hDc, hFc⟩ := la_M hP hD hS hA
        refine va_calli (va_runV (C := "FlowNestModel") (b := h3) (As := [.int (xs (i + 1)), .int (bs_i true)]) (rest := []) ⟨hx, hb, hml, hown, hts⟩ (c_M_isReached l dC dI cJ cI h3 k3 o3 w3 v3 p3 e3 f3 q3 H.size cd ey ex rc eg L so wi ew lo men le pi n r x q (xs (i + 1)) true hn hz hL hq) (cwV 2 hts (nm_gV nm_484 nm_485 nm_486 nm_4 nm_c_M_isReached) rfl rfl rfl (by decide +kernel) ⟨Nat.le_of_ble_eq_true rfl, Nat.le_of_ble_eq_true rfl⟩) ⟨cw_blindM, va_recv hK hPc (ci := 3) rfl (q0 := 0) rfl, cw_preM hPc hDc hK hNw⟩ rfl rfl hl.1 rfl (lv_room (Nat.le_of_ble_eq_true rfl)) d_L_law_380 ⟨rm_c (by omega), rm_s (by omega)⟩) hS (fun q _ h => hFc q h) hFc (fun r80 u9 t H1 locs ht hvm hw81 hB hz1 hk1 hS => ?_)
        obtain ⟨zrc82, zeg83, zso84, zwi85, zew86, zlo87, zen88, zle89, zpi90, zb91, zk92⟩ := u9
        obtain ⟨hP1, hD1⟩ := hB
        rw [ht] at hP1
        obtain ⟨hP, hD⟩ := la_jM hP hD hk1 hFc hP1 hD1
        clear hPc hDc hFc hP1 hD1 hk1 hz1 ht
        generalize H1 = H at hP hS ⊢
        obtain ⟨hv2, hq2, ha2⟩ := hw81
        have hzb : zb91 = false := Bool.eq_false_iff.mpr (fun z => hval (hv2.mp z))
        replace hzb := hzb.symm
        subst hzb
        have hP : va_P (dC, dI) vwCl (la_ws cJ cI h0 h1 n1 a1 e1 l1 b1 t1 h2 n2 a2 e2 l2 b2 t2 h4 c4 h3 k3 o3 w3 v3 p3 e3 f3 q3 g5 (nI n) (nI (sp_lc n L)) L yab949 yen950 ylf951 ybl952 ytr953 (nI n) (nI r) ymt954 (bs_i yp948) (gf_T n L) yyb956 yyn957 yyf958 yyl959 yyr960 (nI n) (nI x) yym961 (bs_i ys955) ybo963 (bs_i yw962) (nI 1) (nI n) ey ex (bs_i zk92) zrc82 zeg83 L zso84 zwi85 zew86 zlo87 zen88 zle89 zpi90 you964) H := hP
        have hD : va_D A (la_ws cJ cI h0 h1 n1 a1 e1 l1 b1 t1 h2 n2 a2 e2 l2 b2 t2 h4 c4 h3 k3 o3 w3 v3 p3 e3 f3 q3 g5 (nI n) (nI (sp_lc n L)) L yab949 yen950 ylf951 ybl952 ytr953 (nI n) (nI r) ymt954 (bs_i yp948) (gf_T n L) yyb956 yyn957 yyf958 yyl959 yyr960 (nI n) (nI x) yym961 (bs_i ys955) ybo963 (bs_i yw962) (nI 1) (nI n) ey ex (bs_i zk92) zrc82 zeg83 L zso84 zwi85 zew86 zlo87 zen88 zle89 zpi90 you964) := hD
        refine lv_istore (lv' := [(6, .int r80), (5, .int (nI 1)), (0, .ref b), (1, .ref h0), (2, .ref h3), (3, .ref g5), (4, .int (nI i))]) hx hb d_L_law_383 hl (by decide) rfl (fun ls hl => ?_)
        refine lv_aload_n hx hb d_L_law_385 rfl (lv_at hl 4 rfl) ?_
        have hPc := (la_M hP hD hS hA).1
        refine vp_callSi (va_Run.run (va_runV (C := "FlowNestModel") (b := h3) (As := []) (rest := []) ⟨hx, hb, hml, hown, hts⟩ (c_M_thrown l dC dI cJ cI h3 k3 o3 w3 v3 p3 e3 f3 q3 (nI 1) (nI n) ey ex (bs_i zk92) zrc82 zeg83 L zso84 zwi85 zew86 zlo87 zen88 zle89 zpi90) (cwV 0 hts (nm_gV nm_460 nm_461 nm_462 nm_4 nm_c_M_thrown) rfl rfl rfl (by decide +kernel) ⟨Nat.le_of_ble_eq_true rfl, Nat.le_of_ble_eq_true rfl⟩) ⟨cw_blind, va_recv hK hPc (ci := 3) rfl (q0 := 0) rfl, cw_pre hPc hK hNw⟩ rfl rfl hl.1 rfl (lv_room (Nat.le_of_ble_eq_true rfl)) d_L_law_386 ⟨rm_c (by omega), rm_s (by omega)⟩)) (fun r93 hr94 => ?_)
        clear hPc
        subst hr94
        refine lv_iload hx hb d_L_law_389 (lv_at hl 1 rfl) ?_
        refine wl_ieq (tgt := 396) hx hb (by omega) (by omega) d_L_law_391 (by decide) (fun hc391 => ?_) (fun hc391 => ?_)
        · refine lv_iload hx hb d_L_law_396 (lv_at hl 1 rfl) ?_
          refine wl_ifnen (tgt := 420) hx hb (by omega) d_L_law_398 (by decide) (fun hc398 => ?_) (fun hc398 => ?_)
          · refine lv_goto (tgt := 1239) hx hb d_L_law_420 (by decide) ?_
            refine W.widen (k := cells + 2) (n := slots + 12) (by omega) (by omega) ?_
            exact back _ _ _ ⟨n, r, x, L, nI (sp_lc n L), gf_T n L, yp948, ys955, yw962, yab949, yen950, ylf951, ybl952, ytr953, ymt954, yyb956, yyn957, yyf958, yyl959, yyr960, yym961, ybo963, nI 1, ey, ex, zk92, zrc82, zeg83, zso84, zwi85, zew86, zlo87, zen88, zle89, zpi90, you964, hn, hL, hJ1, hJ2, hJ4, rfl, rfl, hz, hz0, hq2, hP, hD⟩ hS (lv_sub hl [2, 3, 4, 5, 6] rfl)
          · exact absurd hc398 (by decide)
        · exact absurd rfl hc391
set_option maxHeartbeats 4000000 in
set_option maxRecDepth 100000 in
theorem law_4 {p : Program} {l : Launch} {e : Env} {s : State} {m : MethodId} {below : List Frame} {meth : Method} {c : Code} {b Ln : Nat} {xs : Nat → Int32} {A : Nat → Prop} {Q : State → Prop} {dC : Nat → ClassId} {dI : Nat → Nat → Nat} {cJ cI : ClassId} {h0 h1 n1 a1 e1 l1 b1 t1 h2 n2 a2 e2 l2 b2 t2 h4 c4 h3 k3 o3 w3 v3 p3 e3 f3 q3 g5 sa sb : Nat} (C9 : lw_C p l s m c b Ln xs A dC dI cJ cI sa sb) {cells slots i : Nat} (hi : i + 4 ≤ Ln) (hc9 : cells + 2 ≤ 1053) (hs9 : slots + 12 ≤ 9256) (back : ∀ (H : Heap) (locs : List Loc) (ls : Array Slot), lw_J A dC dI cJ cI h0 h1 n1 a1 e1 l1 b1 t1 h2 n2 a2 e2 l2 b2 t2 h4 c4 h3 k3 o3 w3 v3 p3 e3 f3 q3 g5 H → va_S A s.heap H locs → lv_has ls 8 [(0, .ref b), (1, .ref h0), (2, .ref h3), (3, .ref g5), (4, .int (nI i))] → W p l e room_1 s m #[Value.ref b] below meth c H locs (cells + 2) (slots + 12) Q (F0 m 1239 ls [])) {H : Heap} {locs : List Loc} {ls : Array Slot} (hJ : lw_J A dC dI cJ cI h0 h1 n1 a1 e1 l1 b1 t1 h2 n2 a2 e2 l2 b2 t2 h4 c4 h3 k3 o3 w3 v3 p3 e3 f3 q3 g5 H) (hS : va_S A s.heap H locs) (hl : lv_has ls 8 [(0, .ref b), (1, .ref h0), (2, .ref h3), (3, .ref g5), (4, .int (nI i))]) : W p l e room_1 s m #[Value.ref b] below meth c H locs cells slots Q (F0 m 423 ls []) := by
  obtain ⟨hx, hb, hml, hown, hts, hNw, hK, hX0, hA1, hl9, hscr, hbl, hLn⟩ := C9
  have hA : ∀ q : Nat, s.heap.size ≤ q → A q := fun q h => (hA1 q).mpr h
  have hbA : ¬ A b := fun z => absurd ((hA1 b).mp z) (by omega)
  obtain ⟨n, r, x, L, fc, M, q1, q2, q4, ab, en, lf, bl, tr, mt, ab2, en2, lf2, bl2, tr2, mt2, bo, cd, ey, ex, q, rc, eg, so, wi, ew, lo, men, le, pi, ou, hn, hL, hI1, hI2, hI4, hfc, hM, hz, hz0, hq, hP, hD⟩ := hJ
  subst hfc
  subst hM
  have hP : va_P (dC, dI) vwCl (la_ws cJ cI h0 h1 n1 a1 e1 l1 b1 t1 h2 n2 a2 e2 l2 b2 t2 h4 c4 h3 k3 o3 w3 v3 p3 e3 f3 q3 g5 (nI n) (nI (sp_lc n L)) L ab en lf bl tr (nI n) (nI r) mt (bs_i q1) (gf_T n L) ab2 en2 lf2 bl2 tr2 (nI n) (nI x) mt2 (bs_i q2) bo (bs_i q4) cd (nI n) ey ex (bs_i q) rc eg L so wi ew lo men le pi ou) H := hP
  have hD : va_D A (la_ws cJ cI h0 h1 n1 a1 e1 l1 b1 t1 h2 n2 a2 e2 l2 b2 t2 h4 c4 h3 k3 o3 w3 v3 p3 e3 f3 q3 g5 (nI n) (nI (sp_lc n L)) L ab en lf bl tr (nI n) (nI r) mt (bs_i q1) (gf_T n L) ab2 en2 lf2 bl2 tr2 (nI n) (nI x) mt2 (bs_i q2) bo (bs_i q4) cd (nI n) ey ex (bs_i q) rc eg L so wi ew lo men le pi ou) := hD
  refine lv_aload_n hx hb d_L_law_423 rfl (lv_at hl 1 rfl) ?_
  refine lv_aload_n hx hb d_L_law_424 rfl (lv_at hl 0 rfl) ?_
  refine lv_iload hx hb d_L_law_425 (lv_at hl 4 rfl) ?_
  refine lv_iconst (v := nI 1) hx hb d_L_law_427 (by decide) ?_
  refine wl_iaddn hx hb d_L_law_428 ?_
  refine wl_sld hx hb hscr hbl hbA hS (i := (i + 1)) (by omega) hLn d_L_law_429 ?_
  refine lv_aload_n hx hb d_L_law_430 rfl (lv_at hl 0 rfl) ?_
  refine lv_iload hx hb d_L_law_431 (lv_at hl 4 rfl) ?_
  refine lv_iconst (v := nI 2) hx hb d_L_law_433 (by decide) ?_
  refine wl_iaddn hx hb d_L_law_434 ?_
  refine wl_sld hx hb hscr hbl hbA hS (i := (i + 2)) (by omega) hLn d_L_law_435 ?_
  refine lv_if_eq (tgt := 443) hx hb d_L_law_436 (by decide) (fun hc436 => ?_) (fun hc436 => ?_)
  · refine lv_iconst (v := nI 0) hx hb d_L_law_443 (by decide) ?_
    refine lv_aload_n hx hb d_L_law_444 rfl (lv_at hl 3 rfl) ?_
    refine W.eq (g2 := F0 m 445 ls [.ref g5, .int (bs_i false), .int (xs (i + 1)), .ref h0]) rfl ?_
    obtain ⟨hPc, hDc, hFc⟩ := la_L hP hD hS hA
    have hX := tx_kept hX0 hS.1 (fun q hq9 => hS.2.1 q hq9 (fun z => absurd ((hA1 q).mp z) (by omega)))
    refine va_calli (vx_runSW (As := [.ref h0, .int (xs (i + 1)), .int (bs_i false), .ref g5]) (rest := []) ⟨hx, hb, hml, hown, hts⟩ (c_L_dominator l hl9 dC dI cJ cI h0 h1 n1 a1 e1 l1 b1 t1 h2 n2 a2 e2 l2 b2 t2 h4 c4 g5 H.size sa sb ab en lf bl tr mt ab2 en2 lf2 bl2 tr2 mt2 bo ou n r x L q1 q2 q4 (xs (i + 1)) false hn hL hI1 hI2 hI4) (vx_cwSW 4 hts (nm_gS nm_324 nm_325 nm_0 nm_c_L_dominator) rfl rfl rfl (by decide +kernel) ⟨Nat.le_of_ble_eq_true rfl, Nat.le_of_ble_eq_true rfl⟩) ⟨cw_blindT, cw_preT hPc hDc hK hNw hX⟩ rfl rfl hl.1 rfl (lv_room (Nat.le_of_ble_eq_true rfl)) d_L_law_445 ⟨rm_c (by omega), rm_s (by omega)⟩) hS (fun q _ h => hFc q h) hFc (fun r1 u9 t H1 locs ht hvm hw hB hz1 hk1 hS => ?_)
    obtain ⟨yp91, yab92, yen93, ylf94, ybl95, ytr96, ymt97, ys98, yyb99, yyn910, yyf911, yyl912, yyr913, yym914, yw915, ybo916, you917⟩ := u9
    obtain ⟨hP1, hD1⟩ := hB
    rw [ht] at hP1
    obtain ⟨hP, hD⟩ := la_jL hP hD hk1 hFc hP1 hD1
    clear hPc hDc hFc hX hP1 hD1 hk1 hz1 ht
    generalize H1 = H at hP hS ⊢
    obtain ⟨⟨hJ1, hJ2, hJ4⟩, hw⟩ := hw
    rcases hw with ⟨hr1, k, hk_k, hk_v, hou⟩ | ⟨hr1, hval⟩
    · replace hr1 := hr1.symm
      subst hr1
      have hval : ∃ k, k < n ∧ xs (i + 1) = nI k := ⟨k, hk_k, hk_v⟩
      refine lv_istore (lv' := [(5, .int (nI 0)), (0, .ref b), (1, .ref h0), (2, .ref h3), (3, .ref g5), (4, .int (nI i))]) hx hb d_L_law_448 hl (by decide) rfl (fun ls hl => ?_)
      refine lv_aload_n hx hb d_L_law_450 rfl (lv_at hl 3 rfl) ?_
      refine lv_aload_n hx hb d_L_law_451 rfl (lv_at hl 1 rfl) ?_
      refine lv_iload hx hb d_L_law_452 (lv_at hl 5 rfl) ?_
      refine lv_iconst (v := nI 1) hx hb d_L_law_454 (by decide) ?_
      refine wl_iaddn hx hb d_L_law_455 ?_
      refine wl_sld hx hb hscr hbl hbA hS (i := (i + 1)) (by omega) hLn d_L_law_456 ?_
      refine lv_aload_n hx hb d_L_law_457 rfl (lv_at hl 1 rfl) ?_
      refine lv_iload hx hb d_L_law_458 (lv_at hl 5 rfl) ?_
      refine lv_iconst (v := nI 2) hx hb d_L_law_460 (by decide) ?_
      refine wl_iaddn hx hb d_L_law_461 ?_
      refine wl_sld hx hb hscr hbl hbA hS (i := (i + 2)) (by omega) hLn d_L_law_462 ?_
      refine lv_if_eq (tgt := 470) hx hb d_L_law_463 (by decide) (fun hc463 => ?_) (fun hc463 => ?_)
      · refine lv_iconst (v := nI 0) hx hb d_L_law_470 (by decide) ?_
        refine W.eq (g2 := F0 m 471 ls [.int (bs_i false), .int (xs (i + 1)), .ref h3]) rfl ?_
        obtain ⟨hPc, hDc, hFc⟩ := la_M hP hD hS hA
        refine va_calli (va_runV (C := "FlowNestModel") (b := h3) (As := [.int (xs (i + 1)), .int (bs_i false)]) (rest := []) ⟨hx, hb, hml, hown, hts⟩ (c_M_dominator l dC dI cJ cI h3 k3 o3 w3 v3 p3 e3 f3 q3 H.size cd ey ex rc eg L so wi ew lo men le pi n r x q (xs (i + 1)) false hn hz hL hq) (cwV 2 hts (nm_gV nm_516 nm_517 nm_518 nm_4 nm_c_M_dominator) rfl rfl rfl (by decide +kernel) ⟨Nat.le_of_ble_eq_true rfl, Nat.le_of_ble_eq_true rfl⟩) ⟨cw_blindM, va_recv hK hPc (ci := 3) rfl (q0 := 0) rfl, cw_preM hPc hDc hK hNw⟩ rfl rfl hl.1 rfl (lv_room (Nat.le_of_ble_eq_true rfl)) d_L_law_471 ⟨rm_c (by omega), rm_s (by omega)⟩) hS (fun q _ h => hFc q h) hFc (fun r18 u9 t H1 locs ht hvm hw19 hB hz1 hk1 hS => ?_)
        obtain ⟨zrc20, zeg21, zso22, zwi23, zew24, zlo25, zen26, zle27, zpi28, zb29, zk30⟩ := u9
        obtain ⟨hP1, hD1⟩ := hB
        rw [ht] at hP1
        obtain ⟨hP, hD⟩ := la_jM hP hD hk1 hFc hP1 hD1
        clear hPc hDc hFc hP1 hD1 hk1 hz1 ht
        generalize H1 = H at hP hS ⊢
        obtain ⟨hv2, hq2, ha2⟩ := hw19
        have hzb : zb29 = true := hv2.mpr hval
        replace hzb := hzb.symm
        subst hzb
        have hP : va_P (dC, dI) vwCl (la_ws cJ cI h0 h1 n1 a1 e1 l1 b1 t1 h2 n2 a2 e2 l2 b2 t2 h4 c4 h3 k3 o3 w3 v3 p3 e3 f3 q3 g5 (nI n) (nI (sp_lc n L)) L yab92 yen93 ylf94 ybl95 ytr96 (nI n) (nI r) ymt97 (bs_i yp91) (gf_T n L) yyb99 yyn910 yyf911 yyl912 yyr913 (nI n) (nI x) yym914 (bs_i ys98) ybo916 (bs_i yw915) (nI 0) (nI n) ey ex (bs_i zk30) zrc20 zeg21 L zso22 zwi23 zew24 zlo25 zen26 zle27 zpi28 you917) H := hP
        have hD : va_D A (la_ws cJ cI h0 h1 n1 a1 e1 l1 b1 t1 h2 n2 a2 e2 l2 b2 t2 h4 c4 h3 k3 o3 w3 v3 p3 e3 f3 q3 g5 (nI n) (nI (sp_lc n L)) L yab92 yen93 ylf94 ybl95 ytr96 (nI n) (nI r) ymt97 (bs_i yp91) (gf_T n L) yyb99 yyn910 yyf911 yyl912 yyr913 (nI n) (nI x) yym914 (bs_i ys98) ybo916 (bs_i yw915) (nI 0) (nI n) ey ex (bs_i zk30) zrc20 zeg21 L zso22 zwi23 zew24 zlo25 zen26 zle27 zpi28 you917) := hD
        obtain ⟨k2, hk2, hv3, ha3⟩ := ha2 rfl
        have ek := nI_i (by omega) (by omega) (hk_v.symm.trans hv3)
        subst ek
        refine lv_istore (lv' := [(6, .int r18), (5, .int (nI 0)), (0, .ref b), (1, .ref h0), (2, .ref h3), (3, .ref g5), (4, .int (nI i))]) hx hb d_L_law_474 hl (by decide) rfl (fun ls hl => ?_)
        refine lv_aload_n hx hb d_L_law_476 rfl (lv_at hl 4 rfl) ?_
        have hPc := (la_M hP hD hS hA).1
        refine vp_callSi (va_Run.run (va_runV (C := "FlowNestModel") (b := h3) (As := []) (rest := []) ⟨hx, hb, hml, hown, hts⟩ (c_M_thrown l dC dI cJ cI h3 k3 o3 w3 v3 p3 e3 f3 q3 (nI 0) (nI n) ey ex (bs_i zk30) zrc20 zeg21 L zso22 zwi23 zew24 zlo25 zen26 zle27 zpi28) (cwV 0 hts (nm_gV nm_460 nm_461 nm_462 nm_4 nm_c_M_thrown) rfl rfl rfl (by decide +kernel) ⟨Nat.le_of_ble_eq_true rfl, Nat.le_of_ble_eq_true rfl⟩) ⟨cw_blind, va_recv hK hPc (ci := 3) rfl (q0 := 0) rfl, cw_pre hPc hK hNw⟩ rfl rfl hl.1 rfl (lv_room (Nat.le_of_ble_eq_true rfl)) d_L_law_477 ⟨rm_c (by omega), rm_s (by omega)⟩)) (fun r31 hr32 => ?_)
        clear hPc
        subst hr32
        refine lv_iload hx hb d_L_law_480 (lv_at hl 1 rfl) ?_
        refine wl_ieq (tgt := 487) hx hb (by omega) (by omega) d_L_law_482 (by decide) (fun hc482 => ?_) (fun hc482 => ?_)
        · refine lv_iload hx hb d_L_law_487 (lv_at hl 1 rfl) ?_
          refine wl_ifnen (tgt := 504) hx hb (by omega) d_L_law_489 (by decide) (fun hc489 => ?_) (fun hc489 => ?_)
          · exact absurd hc489 (by decide)
          · refine lv_aload_n hx hb d_L_law_492 rfl (lv_at hl 5 rfl) ?_
            refine lv_iconst (v := nI 0) hx hb d_L_law_493 (by decide) ?_
            refine wl_lald (i := 0) hx hb hK hP 26 0 rfl rfl (by omega) (by decide) d_L_law_494 ?_
            refine lv_iload hx hb d_L_law_495 (lv_at hl 0 rfl) ?_
            refine lv_i2l (v := r18.toInt64) hx hb d_L_law_497 rfl ?_
            refine wl_lcmpeq (tgt := 504) hx hb d_L_law_498 d_L_law_499 (by decide) (fun hc498 => ?_) (fun hc498 => ?_)
            · refine lv_goto (tgt := 1239) hx hb d_L_law_504 (by decide) ?_
              refine W.widen (k := cells + 2) (n := slots + 12) (by omega) (by omega) ?_
              exact back _ _ _ ⟨n, r, x, L, nI (sp_lc n L), gf_T n L, yp91, ys98, yw915, yab92, yen93, ylf94, ybl95, ytr96, ymt97, yyb99, yyn910, yyf911, yyl912, yyr913, yym914, ybo916, nI 0, ey, ex, zk30, zrc20, zeg21, zso22, zwi23, zew24, zlo25, zen26, zle27, zpi28, you917, hn, hL, hJ1, hJ2, hJ4, rfl, rfl, hz, hz0, hq2, hP, hD⟩ hS (lv_sub hl [2, 3, 4, 5, 6] rfl)
            · exact absurd (by obtain ⟨z9, hz8, hz9⟩ := hou; rw [hz8, sp_Dm_u hz9 ha3]) hc498
        · exact absurd rfl hc482
      · exact absurd hc436 hc463
    · replace hr1 := hr1.symm
      subst hr1
      refine lv_istore (lv' := [(5, .int (nI 1)), (0, .ref b), (1, .ref h0), (2, .ref h3), (3, .ref g5), (4, .int (nI i))]) hx hb d_L_law_448 hl (by decide) rfl (fun ls hl => ?_)
      refine lv_aload_n hx hb d_L_law_450 rfl (lv_at hl 3 rfl) ?_
      refine lv_aload_n hx hb d_L_law_451 rfl (lv_at hl 1 rfl) ?_
      refine lv_iload hx hb d_L_law_452 (lv_at hl 5 rfl) ?_
      refine lv_iconst (v := nI 1) hx hb d_L_law_454 (by decide) ?_
      refine wl_iaddn hx hb d_L_law_455 ?_
      refine wl_sld hx hb hscr hbl hbA hS (i := (i + 1)) (by omega) hLn d_L_law_456 ?_
      refine lv_aload_n hx hb d_L_law_457 rfl (lv_at hl 1 rfl) ?_
      refine lv_iload hx hb d_L_law_458 (lv_at hl 5 rfl) ?_
      refine lv_iconst (v := nI 2) hx hb d_L_law_460 (by decide) ?_
      refine wl_iaddn hx hb d_L_law_461 ?_
      refine wl_sld hx hb hscr hbl hbA hS (i := (i + 2)) (by omega) hLn d_L_law_462 ?_
      refine lv_if_eq (tgt := 470) hx hb d_L_law_463 (by decide) (fun hc463 => ?_) (fun hc463 => ?_)
      · refine lv_iconst (v := nI 0) hx hb d_L_law_470 (by decide) ?_
        refine W.eq (g2 := F0 m 471 ls [.int (bs_i false), .int (xs (i + 1)), .ref h3]) rfl ?_
        obtain ⟨hPc, hDc, hFc⟩ := la_M hP hD hS hA
        refine va_calli (va_runV (C := "FlowNestModel") (b := h3) (As := [.int (xs (i + 1)), .int (bs_i false)]) (rest := []) ⟨hx, hb, hml, hown, hts⟩ (c_M_dominator l dC dI cJ cI h3 k3 o3 w3 v3 p3 e3 f3 q3 H.size cd ey ex rc eg L so wi ew lo men le pi n r x q (xs (i + 1)) false hn hz hL hq) (cwV 2 hts (nm_gV nm_516 nm_517 nm_518 nm_4 nm_c_M_dominator) rfl rfl rfl (by decide +kernel) ⟨Nat.le_of_ble_eq_true rfl, Nat.le_of_ble_eq_true rfl⟩) ⟨cw_blindM, va_recv hK hPc (ci := 3) rfl (q0 := 0) rfl, cw_preM hPc hDc hK hNw⟩ rfl rfl hl.1 rfl (lv_room (Nat.le_of_ble_eq_true rfl)) d_L_law_471 ⟨rm_c (by omega), rm_s (by omega)⟩) hS (fun q _ h => hFc q h) hFc (fun r33 u9 t H1 locs ht hvm hw34 hB hz1 hk1 hS => ?_)
        obtain ⟨zrc35, zeg36, zso37, zwi38, zew39, zlo40, zen41, zle42, zpi43, zb44, zk45⟩ := u9
        obtain ⟨hP1, hD1⟩ := hB
        rw [ht] at hP1
        obtain ⟨hP, hD⟩ := la_jM hP hD hk1 hFc hP1 hD1
        clear hPc hDc hFc hP1 hD1 hk1 hz1 ht
        generalize H1 = H at hP hS ⊢
        obtain ⟨hv2, hq2, ha2⟩ := hw34
        have hzb : zb44 = false := Bool.eq_false_iff.mpr (fun z => hval (hv2.mp z))
        replace hzb := hzb.symm
        subst hzb
        have hP : va_P (dC, dI) vwCl (la_ws cJ cI h0 h1 n1 a1 e1 l1 b1 t1 h2 n2 a2 e2 l2 b2 t2 h4 c4 h3 k3 o3 w3 v3 p3 e3 f3 q3 g5 (nI n) (nI (sp_lc n L)) L yab92 yen93 ylf94 ybl95 ytr96 (nI n) (nI r) ymt97 (bs_i yp91) (gf_T n L) yyb99 yyn910 yyf911 yyl912 yyr913 (nI n) (nI x) yym914 (bs_i ys98) ybo916 (bs_i yw915) (nI 1) (nI n) ey ex (bs_i zk45) zrc35 zeg36 L zso37 zwi38 zew39 zlo40 zen41 zle42 zpi43 you917) H := hP
        have hD : va_D A (la_ws cJ cI h0 h1 n1 a1 e1 l1 b1 t1 h2 n2 a2 e2 l2 b2 t2 h4 c4 h3 k3 o3 w3 v3 p3 e3 f3 q3 g5 (nI n) (nI (sp_lc n L)) L yab92 yen93 ylf94 ybl95 ytr96 (nI n) (nI r) ymt97 (bs_i yp91) (gf_T n L) yyb99 yyn910 yyf911 yyl912 yyr913 (nI n) (nI x) yym914 (bs_i ys98) ybo916 (bs_i yw915) (nI 1) (nI n) ey ex (bs_i zk45) zrc35 zeg36 L zso37 zwi38 zew39 zlo40 zen41 zle42 zpi43 you917) := hD
        refine lv_istore (lv' := [(6, .int r33), (5, .int (nI 1)), (0, .ref b), (1, .ref h0), (2, .ref h3), (3, .ref g5), (4, .int (nI i))]) hx hb d_L_law_474 hl (by decide) rfl (fun ls hl => ?_)
        refine lv_aload_n hx hb d_L_law_476 rfl (lv_at hl 4 rfl) ?_
        have hPc := (la_M hP hD hS hA).1
        refine vp_callSi (va_Run.run (va_runV (C := "FlowNestModel") (b := h3) (As := []) (rest := []) ⟨hx, hb, hml, hown, hts⟩ (c_M_thrown l dC dI cJ cI h3 k3 o3 w3 v3 p3 e3 f3 q3 (nI 1) (nI n) ey ex (bs_i zk45) zrc35 zeg36 L zso37 zwi38 zew39 zlo40 zen41 zle42 zpi43) (cwV 0 hts (nm_gV nm_460 nm_461 nm_462 nm_4 nm_c_M_thrown) rfl rfl rfl (by decide +kernel) ⟨Nat.le_of_ble_eq_true rfl, Nat.le_of_ble_eq_true rfl⟩) ⟨cw_blind, va_recv hK hPc (ci := 3) rfl (q0 := 0) rfl, cw_pre hPc hK hNw⟩ rfl rfl hl.1 rfl (lv_room (Nat.le_of_ble_eq_true rfl)) d_L_law_477 ⟨rm_c (by omega), rm_s (by omega)⟩)) (fun r46 hr47 => ?_)
        clear hPc
        subst hr47
        refine lv_iload hx hb d_L_law_480 (lv_at hl 1 rfl) ?_
        refine wl_ieq (tgt := 487) hx hb (by omega) (by omega) d_L_law_482 (by decide) (fun hc482 => ?_) (fun hc482 => ?_)
        · refine lv_iload hx hb d_L_law_487 (lv_at hl 1 rfl) ?_
          refine wl_ifnen (tgt := 504) hx hb (by omega) d_L_law_489 (by decide) (fun hc489 => ?_) (fun hc489 => ?_)
          · refine lv_goto (tgt := 1239) hx hb d_L_law_504 (by decide) ?_
            refine W.widen (k := cells + 2) (n := slots + 12) (by omega) (by omega) ?_
            exact back _ _ _ ⟨n, r, x, L, nI (sp_lc n L), gf_T n L, yp91, ys98, yw915, yab92, yen93, ylf94, ybl95, ytr96, ymt97, yyb99, yyn910, yyf911, yyl912, yyr913, yym914, ybo916, nI 1, ey, ex, zk45, zrc35, zeg36, zso37, zwi38, zew39, zlo40, zen41, zle42, zpi43, you917, hn, hL, hJ1, hJ2, hJ4, rfl, rfl, hz, hz0, hq2, hP, hD⟩ hS (lv_sub hl [2, 3, 4, 5, 6] rfl)
          · exact absurd hc489 (by decide)
        · exact absurd rfl hc482
      · exact absurd hc436 hc463
  · refine lv_iconst (v := nI 1) hx hb d_L_law_439 (by decide) ?_
    refine lv_goto (tgt := 444) hx hb d_L_law_440 (by decide) ?_
    refine lv_aload_n hx hb d_L_law_444 rfl (lv_at hl 3 rfl) ?_
    refine W.eq (g2 := F0 m 445 ls [.ref g5, .int (bs_i true), .int (xs (i + 1)), .ref h0]) rfl ?_
    obtain ⟨hPc, hDc, hFc⟩ := la_L hP hD hS hA
    have hX := tx_kept hX0 hS.1 (fun q hq9 => hS.2.1 q hq9 (fun z => absurd ((hA1 q).mp z) (by omega)))
    refine va_calli (vx_runSW (As := [.ref h0, .int (xs (i + 1)), .int (bs_i true), .ref g5]) (rest := []) ⟨hx, hb, hml, hown, hts⟩ (c_L_dominator l hl9 dC dI cJ cI h0 h1 n1 a1 e1 l1 b1 t1 h2 n2 a2 e2 l2 b2 t2 h4 c4 g5 H.size sa sb ab en lf bl tr mt ab2 en2 lf2 bl2 tr2 mt2 bo ou n r x L q1 q2 q4 (xs (i + 1)) true hn hL hI1 hI2 hI4) (vx_cwSW 4 hts (nm_gS nm_324 nm_325 nm_0 nm_c_L_dominator) rfl rfl rfl (by decide +kernel) ⟨Nat.le_of_ble_eq_true rfl, Nat.le_of_ble_eq_true rfl⟩) ⟨cw_blindT, cw_preT hPc hDc hK hNw hX⟩ rfl rfl hl.1 rfl (lv_room (Nat.le_of_ble_eq_true rfl)) d_L_law_445 ⟨rm_c (by omega), rm_s (by omega)⟩) hS (fun q _ h => hFc q h) hFc (fun r1 u9 t H1 locs ht hvm hw hB hz1 hk1 hS => ?_)
    obtain ⟨yp948, yab949, yen950, ylf951, ybl952, ytr953, ymt954, ys955, yyb956, yyn957, yyf958, yyl959, yyr960, yym961, yw962, ybo963, you964⟩ := u9
    obtain ⟨hP1, hD1⟩ := hB
    rw [ht] at hP1
    obtain ⟨hP, hD⟩ := la_jL hP hD hk1 hFc hP1 hD1
    clear hPc hDc hFc hX hP1 hD1 hk1 hz1 ht
    generalize H1 = H at hP hS ⊢
    obtain ⟨⟨hJ1, hJ2, hJ4⟩, hw⟩ := hw
    rcases hw with ⟨hr1, k, hk_k, hk_v, hou⟩ | ⟨hr1, hval⟩
    · replace hr1 := hr1.symm
      subst hr1
      have hval : ∃ k, k < n ∧ xs (i + 1) = nI k := ⟨k, hk_k, hk_v⟩
      refine lv_istore (lv' := [(5, .int (nI 0)), (0, .ref b), (1, .ref h0), (2, .ref h3), (3, .ref g5), (4, .int (nI i))]) hx hb d_L_law_448 hl (by decide) rfl (fun ls hl => ?_)
      refine lv_aload_n hx hb d_L_law_450 rfl (lv_at hl 3 rfl) ?_
      refine lv_aload_n hx hb d_L_law_451 rfl (lv_at hl 1 rfl) ?_
      refine lv_iload hx hb d_L_law_452 (lv_at hl 5 rfl) ?_
      refine lv_iconst (v := nI 1) hx hb d_L_law_454 (by decide) ?_
      refine wl_iaddn hx hb d_L_law_455 ?_
      refine wl_sld hx hb hscr hbl hbA hS (i := (i + 1)) (by omega) hLn d_L_law_456 ?_
      refine lv_aload_n hx hb d_L_law_457 rfl (lv_at hl 1 rfl) ?_
      refine lv_iload hx hb d_L_law_458 (lv_at hl 5 rfl) ?_
      refine lv_iconst (v := nI 2) hx hb d_L_law_460 (by decide) ?_
      refine wl_iaddn hx hb d_L_law_461 ?_
      refine wl_sld hx hb hscr hbl hbA hS (i := (i + 2)) (by omega) hLn d_L_law_462 ?_
      refine lv_if_eq (tgt := 470) hx hb d_L_law_463 (by decide) (fun hc463 => ?_) (fun hc463 => ?_)
      · exact absurd hc463 hc436
      · refine lv_iconst (v := nI 1) hx hb d_L_law_466 (by decide) ?_
        refine lv_goto (tgt := 471) hx hb d_L_law_467 (by decide) ?_
        refine W.eq (g2 := F0 m 471 ls [.int (bs_i true), .int (xs (i + 1)), .ref h3]) rfl ?_
        obtain ⟨hPc, hDc, hFc⟩ := la_M hP hD hS hA
        refine va_calli (va_runV (C := "FlowNestModel") (b := h3) (As := [.int (xs (i + 1)), .int (bs_i true)]) (rest := []) ⟨hx, hb, hml, hown, hts⟩ (c_M_dominator l dC dI cJ cI h3 k3 o3 w3 v3 p3 e3 f3 q3 H.size cd ey ex rc eg L so wi ew lo men le pi n r x q (xs (i + 1)) true hn hz hL hq) (cwV 2 hts (nm_gV nm_516 nm_517 nm_518 nm_4 nm_c_M_dominator) rfl rfl rfl (by decide +kernel) ⟨Nat.le_of_ble_eq_true rfl, Nat.le_of_ble_eq_true rfl⟩) ⟨cw_blindM, va_recv hK hPc (ci := 3) rfl (q0 := 0) rfl, cw_preM hPc hDc hK hNw⟩ rfl rfl hl.1 rfl (lv_room (Nat.le_of_ble_eq_true rfl)) d_L_law_471 ⟨rm_c (by omega), rm_s (by omega)⟩) hS (fun q _ h => hFc q h) hFc (fun r65 u9 t H1 locs ht hvm hw66 hB hz1 hk1 hS => ?_)
        obtain ⟨zrc67, zeg68, zso69, zwi70, zew71, zlo72, zen73, zle74, zpi75, zb76, zk77⟩ := u9
        obtain ⟨hP1, hD1⟩ := hB
        rw [ht] at hP1
        obtain ⟨hP, hD⟩ := la_jM hP hD hk1 hFc hP1 hD1
        clear hPc hDc hFc hP1 hD1 hk1 hz1 ht
        generalize H1 = H at hP hS ⊢
        obtain ⟨hv2, hq2, ha2⟩ := hw66
        have hzb : zb76 = true := hv2.mpr hval
        replace hzb := hzb.symm
        subst hzb
        have hP : va_P (dC, dI) vwCl (la_ws cJ cI h0 h1 n1 a1 e1 l1 b1 t1 h2 n2 a2 e2 l2 b2 t2 h4 c4 h3 k3 o3 w3 v3 p3 e3 f3 q3 g5 (nI n) (nI (sp_lc n L)) L yab949 yen950 ylf951 ybl952 ytr953 (nI n) (nI r) ymt954 (bs_i yp948) (gf_T n L) yyb956 yyn957 yyf958 yyl959 yyr960 (nI n) (nI x) yym961 (bs_i ys955) ybo963 (bs_i yw962) (nI 0) (nI n) ey ex (bs_i zk77) zrc67 zeg68 L zso69 zwi70 zew71 zlo72 zen73 zle74 zpi75 you964) H := hP
        have hD : va_D A (la_ws cJ cI h0 h1 n1 a1 e1 l1 b1 t1 h2 n2 a2 e2 l2 b2 t2 h4 c4 h3 k3 o3 w3 v3 p3 e3 f3 q3 g5 (nI n) (nI (sp_lc n L)) L yab949 yen950 ylf951 ybl952 ytr953 (nI n) (nI r) ymt954 (bs_i yp948) (gf_T n L) yyb956 yyn957 yyf958 yyl959 yyr960 (nI n) (nI x) yym961 (bs_i ys955) ybo963 (bs_i yw962) (nI 0) (nI n) ey ex (bs_i zk77) zrc67 zeg68 L zso69 zwi70 zew71 zlo72 zen73 zle74 zpi75 you964) := hD
        obtain ⟨k2, hk2, hv3, ha3⟩ := ha2 rfl
        have ek := nI_i (by omega) (by omega) (hk_v.symm.trans hv3)
        subst ek
        refine lv_istore (lv' := [(6, .int r65), (5, .int (nI 0)), (0, .ref b), (1, .ref h0), (2, .ref h3), (3, .ref g5), (4, .int (nI i))]) hx hb d_L_law_474 hl (by decide) rfl (fun ls hl => ?_)
        refine lv_aload_n hx hb d_L_law_476 rfl (lv_at hl 4 rfl) ?_
        have hPc := (la_M hP hD hS hA).1
        refine vp_callSi (va_Run.run (va_runV (C := "FlowNestModel") (b := h3) (As := []) (rest := []) ⟨hx, hb, hml, hown, hts⟩ (c_M_thrown l dC dI cJ cI h3 k3 o3 w3 v3 p3 e3 f3 q3 (nI 0) (nI n) ey ex (bs_i zk77) zrc67 zeg68 L zso69 zwi70 zew71 zlo72 zen73 zle74 zpi75) (cwV 0 hts (nm_gV nm_460 nm_461 nm_462 nm_4 nm_c_M_thrown) rfl rfl rfl (by decide +kernel) ⟨Nat.le_of_ble_eq_true rfl, Nat.le_of_ble_eq_true rfl⟩) ⟨cw_blind, va_recv hK hPc (ci := 3) rfl (q0 := 0) rfl, cw_pre hPc hK hNw⟩ rfl rfl hl.1 rfl (lv_room (Nat.le_of_ble_eq_true rfl)) d_L_law_477 ⟨rm_c (by omega), rm_s (by omega)⟩)) (fun r78 hr79 => ?_)
        clear hPc
        subst hr79
        refine lv_iload hx hb d_L_law_480 (lv_at hl 1 rfl) ?_
        refine wl_ieq (tgt := 487) hx hb (by omega) (by omega) d_L_law_482 (by decide) (fun hc482 => ?_) (fun hc482 => ?_)
        · refine lv_iload hx hb d_L_law_487 (lv_at hl 1 rfl) ?_
          refine wl_ifnen (tgt := 504) hx hb (by omega) d_L_law_489 (by decide) (fun hc489 => ?_) (fun hc489 => ?_)
          · exact absurd hc489 (by decide)
          · refine lv_aload_n hx hb d_L_law_492 rfl (lv_at hl 5 rfl) ?_
            refine lv_iconst (v := nI 0) hx hb d_L_law_493 (by decide) ?_
            refine wl_lald (i := 0) hx hb hK hP 26 0 rfl rfl (by omega) (by decide) d_L_law_494 ?_
            refine lv_iload hx hb d_L_law_495 (lv_at hl 0 rfl) ?_
            refine lv_i2l (v := r65.toInt64) hx hb d_L_law_497 rfl ?_
            refine wl_lcmpeq (tgt := 504) hx hb d_L_law_498 d_L_law_499 (by decide) (fun hc498 => ?_) (fun hc498 => ?_)
            · refine lv_goto (tgt := 1239) hx hb d_L_law_504 (by decide) ?_
              refine W.widen (k := cells + 2) (n := slots + 12) (by omega) (by omega) ?_
              exact back _ _ _ ⟨n, r, x, L, nI (sp_lc n L), gf_T n L, yp948, ys955, yw962, yab949, yen950, ylf951, ybl952, ytr953, ymt954, yyb956, yyn957, yyf958, yyl959, yyr960, yym961, ybo963, nI 0, ey, ex, zk77, zrc67, zeg68, zso69, zwi70, zew71, zlo72, zen73, zle74, zpi75, you964, hn, hL, hJ1, hJ2, hJ4, rfl, rfl, hz, hz0, hq2, hP, hD⟩ hS (lv_sub hl [2, 3, 4, 5, 6] rfl)
            · exact absurd (by obtain ⟨z9, hz8, hz9⟩ := hou; rw [hz8, sp_Dm_u hz9 ha3]) hc498
        · exact absurd rfl hc482
    · replace hr1 := hr1.symm
      subst hr1
      refine lv_istore (lv' := [(5, .int (nI 1)), (0, .ref b), (1, .ref h0), (2, .ref h3), (3, .ref g5), (4, .int (nI i))]) hx hb d_L_law_448 hl (by decide) rfl (fun ls hl => ?_)
      refine lv_aload_n hx hb d_L_law_450 rfl (lv_at hl 3 rfl) ?_
      refine lv_aload_n hx hb d_L_law_451 rfl (lv_at hl 1 rfl) ?_
      refine lv_iload hx hb d_L_law_452 (lv_at hl 5 rfl) ?_
      refine lv_iconst (v := nI 1) hx hb d_L_law_454 (by decide) ?_
      refine wl_iaddn hx hb d_L_law_455 ?_
      refine wl_sld hx hb hscr hbl hbA hS (i := (i + 1)) (by omega) hLn d_L_law_456 ?_
      refine lv_aload_n hx hb d_L_law_457 rfl (lv_at hl 1 rfl) ?_
      refine lv_iload hx hb d_L_law_458 (lv_at hl 5 rfl) ?_
      refine lv_iconst (v := nI 2) hx hb d_L_law_460 (by decide) ?_
      refine wl_iaddn hx hb d_L_law_461 ?_
      refine wl_sld hx hb hscr hbl hbA hS (i := (i + 2)) (by omega) hLn d_L_law_462 ?_
      refine lv_if_eq (tgt := 470) hx hb d_L_law_463 (by decide) (fun hc463 => ?_) (fun hc463 => ?_)
      · exact absurd hc463 hc436
      · refine lv_iconst (v := nI 1) hx hb d_L_law_466 (by decide) ?_
        refine lv_goto (tgt := 471) hx hb d_L_law_467 (by decide) ?_
        refine W.eq (g2 := F0 m 471 ls [.int (bs_i true), .int (xs (i + 1)), .ref h3]) rfl ?_
        obtain ⟨hPc, hDc, hFc⟩ := la_M hP hD hS hA
        refine va_calli (va_runV (C := "FlowNestModel") (b := h3) (As := [.int (xs (i + 1)), .int (bs_i true)]) (rest := []) ⟨hx, hb, hml, hown, hts⟩ (c_M_dominator l dC dI cJ cI h3 k3 o3 w3 v3 p3 e3 f3 q3 H.size cd ey ex rc eg L so wi ew lo men le pi n r x q (xs (i + 1)) true hn hz hL hq) (cwV 2 hts (nm_gV nm_516 nm_517 nm_518 nm_4 nm_c_M_dominator) rfl rfl rfl (by decide +kernel) ⟨Nat.le_of_ble_eq_true rfl, Nat.le_of_ble_eq_true rfl⟩) ⟨cw_blindM, va_recv hK hPc (ci := 3) rfl (q0 := 0) rfl, cw_preM hPc hDc hK hNw⟩ rfl rfl hl.1 rfl (lv_room (Nat.le_of_ble_eq_true rfl)) d_L_law_471 ⟨rm_c (by omega), rm_s (by omega)⟩) hS (fun q _ h => hFc q h) hFc (fun r80 u9 t H1 locs ht hvm hw81 hB hz1 hk1 hS => ?_)
        obtain ⟨zrc82, zeg83, zso84, zwi85, zew86, zlo87, zen88, zle89, zpi90, zb91, zk92⟩ := u9
        obtain ⟨hP1, hD1⟩ := hB
        rw [ht] at hP1
        obtain ⟨hP, hD⟩ := la_jM hP hD hk1 hFc hP1 hD1
        clear hPc hDc hFc hP1 hD1 hk1 hz1 ht
        generalize H1 = H at hP hS ⊢
        obtain ⟨hv2, hq2, ha2⟩ := hw81
        have hzb : zb91 = false := Bool.eq_false_iff.mpr (fun z => hval (hv2.mp z))
        replace hzb := hzb.symm
        subst hzb
        have hP : va_P (dC, dI) vwCl (la_ws cJ cI h0 h1 n1 a1 e1 l1 b1 t1 h2 n2 a2 e2 l2 b2 t2 h4 c4 h3 k3 o3 w3 v3 p3 e3 f3 q3 g5 (nI n) (nI (sp_lc n L)) L yab949 yen950 ylf951 ybl952 ytr953 (nI n) (nI r) ymt954 (bs_i yp948) (gf_T n L) yyb956 yyn957 yyf958 yyl959 yyr960 (nI n) (nI x) yym961 (bs_i ys955) ybo963 (bs_i yw962) (nI 1) (nI n) ey ex (bs_i zk92) zrc82 zeg83 L zso84 zwi85 zew86 zlo87 zen88 zle89 zpi90 you964) H := hP
        have hD : va_D A (la_ws cJ cI h0 h1 n1 a1 e1 l1 b1 t1 h2 n2 a2 e2 l2 b2 t2 h4 c4 h3 k3 o3 w3 v3 p3 e3 f3 q3 g5 (nI n) (nI (sp_lc n L)) L yab949 yen950 ylf951 ybl952 ytr953 (nI n) (nI r) ymt954 (bs_i yp948) (gf_T n L) yyb956 yyn957 yyf958 yyl959 yyr960 (nI n) (nI x) yym961 (bs_i ys955) ybo963 (bs_i yw962) (nI 1) (nI n) ey ex (bs_i zk92) zrc82 zeg83 L zso84 zwi85 zew86 zlo87 zen88 zle89 zpi90 you964) := hD
        refine lv_istore (lv' := [(6, .int r80), (5, .int (nI 1)), (0, .ref b), (1, .ref h0), (2, .ref h3), (3, .ref g5), (4, .int (nI i))]) hx hb d_L_law_474 hl (by decide) rfl (fun ls hl => ?_)
        refine lv_aload_n hx hb d_L_law_476 rfl (lv_at hl 4 rfl) ?_
        have hPc := (la_M hP hD hS hA).1
        refine vp_callSi (va_Run.run (va_runV (C := "FlowNestModel") (b := h3) (As := []) (rest := []) ⟨hx, hb, hml, hown, hts⟩ (c_M_thrown l dC dI cJ cI h3 k3 o3 w3 v3 p3 e3 f3 q3 (nI 1) (nI n) ey ex (bs_i zk92) zrc82 zeg83 L zso84 zwi85 zew86 zlo87 zen88 zle89 zpi90) (cwV 0 hts (nm_gV nm_460 nm_461 nm_462 nm_4 nm_c_M_thrown) rfl rfl rfl (by decide +kernel) ⟨Nat.le_of_ble_eq_true rfl, Nat.le_of_ble_eq_true rfl⟩) ⟨cw_blind, va_recv hK hPc (ci := 3) rfl (q0 := 0) rfl, cw_pre hPc hK hNw⟩ rfl rfl hl.1 rfl (lv_room (Nat.le_of_ble_eq_true rfl)) d_L_law_477 ⟨rm_c (by omega), rm_s (by omega)⟩)) (fun r93 hr94 => ?_)
        clear hPc
        subst hr94
        refine lv_iload hx hb d_L_law_480 (lv_at hl 1 rfl) ?_
        refine wl_ieq (tgt := 487) hx hb (by omega) (by omega) d_L_law_482 (by decide) (fun hc482 => ?_) (fun hc482 => ?_)
        · refine lv_iload hx hb d_L_law_487 (lv_at hl 1 rfl) ?_
          refine wl_ifnen (tgt := 504) hx hb (by omega) d_L_law_489 (by decide) (fun hc489 => ?_) (fun hc489 => ?_)
          · refine lv_goto (tgt := 1239) hx hb d_L_law_504 (by decide) ?_
            refine W.widen (k := cells + 2) (n := slots + 12) (by omega) (by omega) ?_
            exact back _ _ _ ⟨n, r, x, L, nI (sp_lc n L), gf_T n L, yp948, ys955, yw962, yab949, yen950, ylf951, ybl952, ytr953, ymt954, yyb956, yyn957, yyf958, yyl959, yyr960, yym961, ybo963, nI 1, ey, ex, zk92, zrc82, zeg83, zso84, zwi85, zew86, zlo87, zen88, zle89, zpi90, you964, hn, hL, hJ1, hJ2, hJ4, rfl, rfl, hz, hz0, hq2, hP, hD⟩ hS (lv_sub hl [2, 3, 4, 5, 6] rfl)
          · exact absurd hc489 (by decide)
        · exact absurd rfl hc482
set_option maxHeartbeats 4000000 in
set_option maxRecDepth 100000 in
theorem law_6 {p : Program} {l : Launch} {e : Env} {s : State} {m : MethodId} {below : List Frame} {meth : Method} {c : Code} {b Ln : Nat} {xs : Nat → Int32} {A : Nat → Prop} {Q : State → Prop} {dC : Nat → ClassId} {dI : Nat → Nat → Nat} {cJ cI : ClassId} {h0 h1 n1 a1 e1 l1 b1 t1 h2 n2 a2 e2 l2 b2 t2 h4 c4 h3 k3 o3 w3 v3 p3 e3 f3 q3 g5 sa sb : Nat} (C9 : lw_C p l s m c b Ln xs A dC dI cJ cI sa sb) {cells slots i : Nat} (hi : i + 4 ≤ Ln) (hc9 : cells + 2 ≤ 1053) (hs9 : slots + 12 ≤ 9256) (back : ∀ (H : Heap) (locs : List Loc) (ls : Array Slot), lw_J A dC dI cJ cI h0 h1 n1 a1 e1 l1 b1 t1 h2 n2 a2 e2 l2 b2 t2 h4 c4 h3 k3 o3 w3 v3 p3 e3 f3 q3 g5 H → va_S A s.heap H locs → lv_has ls 8 [(0, .ref b), (1, .ref h0), (2, .ref h3), (3, .ref g5), (4, .int (nI i))] → W p l e room_1 s m #[Value.ref b] below meth c H locs (cells + 2) (slots + 12) Q (F0 m 1239 ls [])) {H : Heap} {locs : List Loc} {ls : Array Slot} (hJ : lw_J A dC dI cJ cI h0 h1 n1 a1 e1 l1 b1 t1 h2 n2 a2 e2 l2 b2 t2 h4 c4 h3 k3 o3 w3 v3 p3 e3 f3 q3 g5 H) (hS : va_S A s.heap H locs) (hl : lv_has ls 8 [(0, .ref b), (1, .ref h0), (2, .ref h3), (3, .ref g5), (4, .int (nI i))]) : W p l e room_1 s m #[Value.ref b] below meth c H locs cells slots Q (F0 m 610 ls []) := by
  obtain ⟨hx, hb, hml, hown, hts, hNw, hK, hX0, hA1, hl9, hscr, hbl, hLn⟩ := C9
  have hA : ∀ q : Nat, s.heap.size ≤ q → A q := fun q h => (hA1 q).mpr h
  have hbA : ¬ A b := fun z => absurd ((hA1 b).mp z) (by omega)
  obtain ⟨n, r, x, L, fc, M, q1, q2, q4, ab, en, lf, bl, tr, mt, ab2, en2, lf2, bl2, tr2, mt2, bo, cd, ey, ex, q, rc, eg, so, wi, ew, lo, men, le, pi, ou, hn, hL, hI1, hI2, hI4, hfc, hM, hz, hz0, hq, hP, hD⟩ := hJ
  subst hfc
  subst hM
  have hP : va_P (dC, dI) vwCl (la_ws cJ cI h0 h1 n1 a1 e1 l1 b1 t1 h2 n2 a2 e2 l2 b2 t2 h4 c4 h3 k3 o3 w3 v3 p3 e3 f3 q3 g5 (nI n) (nI (sp_lc n L)) L ab en lf bl tr (nI n) (nI r) mt (bs_i q1) (gf_T n L) ab2 en2 lf2 bl2 tr2 (nI n) (nI x) mt2 (bs_i q2) bo (bs_i q4) cd (nI n) ey ex (bs_i q) rc eg L so wi ew lo men le pi ou) H := hP
  have hD : va_D A (la_ws cJ cI h0 h1 n1 a1 e1 l1 b1 t1 h2 n2 a2 e2 l2 b2 t2 h4 c4 h3 k3 o3 w3 v3 p3 e3 f3 q3 g5 (nI n) (nI (sp_lc n L)) L ab en lf bl tr (nI n) (nI r) mt (bs_i q1) (gf_T n L) ab2 en2 lf2 bl2 tr2 (nI n) (nI x) mt2 (bs_i q2) bo (bs_i q4) cd (nI n) ey ex (bs_i q) rc eg L so wi ew lo men le pi ou) := hD
  refine lv_aload_n hx hb d_L_law_610 rfl (lv_at hl 1 rfl) ?_
  refine lv_aload_n hx hb d_L_law_611 rfl (lv_at hl 0 rfl) ?_
  refine lv_iload hx hb d_L_law_612 (lv_at hl 4 rfl) ?_
  refine lv_iconst (v := nI 1) hx hb d_L_law_614 (by decide) ?_
  refine wl_iaddn hx hb d_L_law_615 ?_
  refine wl_sld hx hb hscr hbl hbA hS (i := (i + 1)) (by omega) hLn d_L_law_616 ?_
  refine lv_aload_n hx hb d_L_law_617 rfl (lv_at hl 3 rfl) ?_
  obtain ⟨hPc, hDc, hFc⟩ := la_L hP hD hS hA
  have hX := tx_kept hX0 hS.1 (fun q hq9 => hS.2.1 q hq9 (fun z => absurd ((hA1 q).mp z) (by omega)))
  refine va_calli (vx_runSW (As := [.ref h0, .int (xs (i + 1)), .ref g5]) (rest := []) ⟨hx, hb, hml, hown, hts⟩ (c_L_level l hl9 dC dI cJ cI h0 h1 n1 a1 e1 l1 b1 t1 h2 n2 a2 e2 l2 b2 t2 h4 c4 g5 H.size sa sb ab en lf bl tr mt ab2 en2 lf2 bl2 tr2 mt2 bo ou n r x L q1 q2 q4 (xs (i + 1)) hn hL hI1 hI2 hI4) (vx_cwSW 3 hts (nm_gS nm_342 nm_343 nm_0 nm_c_L_level) rfl rfl rfl (by decide +kernel) ⟨Nat.le_of_ble_eq_true rfl, Nat.le_of_ble_eq_true rfl⟩) ⟨cw_blindT, cw_preT hPc hDc hK hNw hX⟩ rfl rfl hl.1 rfl (lv_room (Nat.le_of_ble_eq_true rfl)) d_L_law_618 ⟨rm_c (by omega), rm_s (by omega)⟩) hS (fun q _ h => hFc q h) hFc (fun r1 u9 t H1 locs ht hvm hw hB hz1 hk1 hS => ?_)
  obtain ⟨yp91, yab92, yen93, ylf94, ybl95, ytr96, ymt97, ys98, yyb99, yyn910, yyf911, yyl912, yyr913, yym914, yw915, ybo916, you917⟩ := u9
  obtain ⟨hP1, hD1⟩ := hB
  rw [ht] at hP1
  obtain ⟨hP, hD⟩ := la_jL hP hD hk1 hFc hP1 hD1
  clear hPc hDc hFc hX hP1 hD1 hk1 hz1 ht
  generalize H1 = H at hP hS ⊢
  obtain ⟨⟨hJ1, hJ2, hJ4⟩, hw⟩ := hw
  rcases hw with ⟨hr1, k, hk_k, hk_v, hou⟩ | ⟨hr1, hval⟩
  · replace hr1 := hr1.symm
    subst hr1
    have hval : ∃ k, k < n ∧ xs (i + 1) = nI k := ⟨k, hk_k, hk_v⟩
    refine lv_istore (lv' := [(5, .int (nI 0)), (0, .ref b), (1, .ref h0), (2, .ref h3), (3, .ref g5), (4, .int (nI i))]) hx hb d_L_law_621 hl (by decide) rfl (fun ls hl => ?_)
    refine lv_aload_n hx hb d_L_law_623 rfl (lv_at hl 3 rfl) ?_
    refine lv_aload_n hx hb d_L_law_624 rfl (lv_at hl 1 rfl) ?_
    refine lv_iload hx hb d_L_law_625 (lv_at hl 5 rfl) ?_
    refine lv_iconst (v := nI 1) hx hb d_L_law_627 (by decide) ?_
    refine wl_iaddn hx hb d_L_law_628 ?_
    refine wl_sld hx hb hscr hbl hbA hS (i := (i + 1)) (by omega) hLn d_L_law_629 ?_
    obtain ⟨hPc, hDc, hFc⟩ := la_M hP hD hS hA
    refine va_calli (va_runV (C := "FlowNestModel") (b := h3) (As := [.int (xs (i + 1))]) (rest := []) ⟨hx, hb, hml, hown, hts⟩ (c_M_level l dC dI cJ cI h3 k3 o3 w3 v3 p3 e3 f3 q3 H.size cd ey ex rc eg L so wi ew lo men le pi n r x q (xs (i + 1)) hn hz hL hq) (cwV 1 hts (nm_gV nm_528 nm_529 nm_530 nm_4 nm_c_M_level) rfl rfl rfl (by decide +kernel) ⟨Nat.le_of_ble_eq_true rfl, Nat.le_of_ble_eq_true rfl⟩) ⟨cw_blindM, va_recv hK hPc (ci := 3) rfl (q0 := 0) rfl, cw_preM hPc hDc hK hNw⟩ rfl rfl hl.1 rfl (lv_room (Nat.le_of_ble_eq_true rfl)) d_L_law_630 ⟨rm_c (by omega), rm_s (by omega)⟩) hS (fun q _ h => hFc q h) hFc (fun r18 u9 t H1 locs ht hvm hw19 hB hz1 hk1 hS => ?_)
    obtain ⟨zrc20, zeg21, zso22, zwi23, zew24, zlo25, zen26, zle27, zpi28, zb29, zk30⟩ := u9
    obtain ⟨hP1, hD1⟩ := hB
    rw [ht] at hP1
    obtain ⟨hP, hD⟩ := la_jM hP hD hk1 hFc hP1 hD1
    clear hPc hDc hFc hP1 hD1 hk1 hz1 ht
    generalize H1 = H at hP hS ⊢
    obtain ⟨hv2, hq2, ha2⟩ := hw19
    have hzb : zb29 = true := hv2.mpr hval
    replace hzb := hzb.symm
    subst hzb
    have hP : va_P (dC, dI) vwCl (la_ws cJ cI h0 h1 n1 a1 e1 l1 b1 t1 h2 n2 a2 e2 l2 b2 t2 h4 c4 h3 k3 o3 w3 v3 p3 e3 f3 q3 g5 (nI n) (nI (sp_lc n L)) L yab92 yen93 ylf94 ybl95 ytr96 (nI n) (nI r) ymt97 (bs_i yp91) (gf_T n L) yyb99 yyn910 yyf911 yyl912 yyr913 (nI n) (nI x) yym914 (bs_i ys98) ybo916 (bs_i yw915) (nI 0) (nI n) ey ex (bs_i zk30) zrc20 zeg21 L zso22 zwi23 zew24 zlo25 zen26 zle27 zpi28 you917) H := hP
    have hD : va_D A (la_ws cJ cI h0 h1 n1 a1 e1 l1 b1 t1 h2 n2 a2 e2 l2 b2 t2 h4 c4 h3 k3 o3 w3 v3 p3 e3 f3 q3 g5 (nI n) (nI (sp_lc n L)) L yab92 yen93 ylf94 ybl95 ytr96 (nI n) (nI r) ymt97 (bs_i yp91) (gf_T n L) yyb99 yyn910 yyf911 yyl912 yyr913 (nI n) (nI x) yym914 (bs_i ys98) ybo916 (bs_i yw915) (nI 0) (nI n) ey ex (bs_i zk30) zrc20 zeg21 L zso22 zwi23 zew24 zlo25 zen26 zle27 zpi28 you917) := hD
    obtain ⟨k2, hk2, hv3, ha3⟩ := ha2 rfl
    have ek := nI_i (by omega) (by omega) (hk_v.symm.trans hv3)
    subst ek
    refine lv_istore (lv' := [(6, .int r18), (5, .int (nI 0)), (0, .ref b), (1, .ref h0), (2, .ref h3), (3, .ref g5), (4, .int (nI i))]) hx hb d_L_law_633 hl (by decide) rfl (fun ls hl => ?_)
    refine lv_aload_n hx hb d_L_law_635 rfl (lv_at hl 4 rfl) ?_
    have hPc := (la_M hP hD hS hA).1
    refine vp_callSi (va_Run.run (va_runV (C := "FlowNestModel") (b := h3) (As := []) (rest := []) ⟨hx, hb, hml, hown, hts⟩ (c_M_thrown l dC dI cJ cI h3 k3 o3 w3 v3 p3 e3 f3 q3 (nI 0) (nI n) ey ex (bs_i zk30) zrc20 zeg21 L zso22 zwi23 zew24 zlo25 zen26 zle27 zpi28) (cwV 0 hts (nm_gV nm_460 nm_461 nm_462 nm_4 nm_c_M_thrown) rfl rfl rfl (by decide +kernel) ⟨Nat.le_of_ble_eq_true rfl, Nat.le_of_ble_eq_true rfl⟩) ⟨cw_blind, va_recv hK hPc (ci := 3) rfl (q0 := 0) rfl, cw_pre hPc hK hNw⟩ rfl rfl hl.1 rfl (lv_room (Nat.le_of_ble_eq_true rfl)) d_L_law_636 ⟨rm_c (by omega), rm_s (by omega)⟩)) (fun r31 hr32 => ?_)
    clear hPc
    subst hr32
    refine lv_iload hx hb d_L_law_639 (lv_at hl 1 rfl) ?_
    refine wl_ieq (tgt := 646) hx hb (by omega) (by omega) d_L_law_641 (by decide) (fun hc641 => ?_) (fun hc641 => ?_)
    · refine lv_iload hx hb d_L_law_646 (lv_at hl 1 rfl) ?_
      refine wl_ifnen (tgt := 663) hx hb (by omega) d_L_law_648 (by decide) (fun hc648 => ?_) (fun hc648 => ?_)
      · exact absurd hc648 (by decide)
      · refine lv_aload_n hx hb d_L_law_651 rfl (lv_at hl 5 rfl) ?_
        refine lv_iconst (v := nI 0) hx hb d_L_law_652 (by decide) ?_
        refine wl_lald (i := 0) hx hb hK hP 26 0 rfl rfl (by omega) (by decide) d_L_law_653 ?_
        refine lv_iload hx hb d_L_law_654 (lv_at hl 0 rfl) ?_
        refine lv_i2l (v := r18.toInt64) hx hb d_L_law_656 rfl ?_
        refine wl_lcmpeq (tgt := 663) hx hb d_L_law_657 d_L_law_658 (by decide) (fun hc657 => ?_) (fun hc657 => ?_)
        · refine lv_goto (tgt := 1239) hx hb d_L_law_663 (by decide) ?_
          refine W.widen (k := cells + 2) (n := slots + 12) (by omega) (by omega) ?_
          exact back _ _ _ ⟨n, r, x, L, nI (sp_lc n L), gf_T n L, yp91, ys98, yw915, yab92, yen93, ylf94, ybl95, ytr96, ymt97, yyb99, yyn910, yyf911, yyl912, yyr913, yym914, ybo916, nI 0, ey, ex, zk30, zrc20, zeg21, zso22, zwi23, zew24, zlo25, zen26, zle27, zpi28, you917, hn, hL, hJ1, hJ2, hJ4, rfl, rfl, hz, hz0, hq2, hP, hD⟩ hS (lv_sub hl [2, 3, 4, 5, 6] rfl)
        · exact absurd (by obtain ⟨z9, hz8, hz9⟩ := hou; rw [hz8, hz9, ha3]) hc657
    · exact absurd rfl hc641
  · replace hr1 := hr1.symm
    subst hr1
    refine lv_istore (lv' := [(5, .int (nI 1)), (0, .ref b), (1, .ref h0), (2, .ref h3), (3, .ref g5), (4, .int (nI i))]) hx hb d_L_law_621 hl (by decide) rfl (fun ls hl => ?_)
    refine lv_aload_n hx hb d_L_law_623 rfl (lv_at hl 3 rfl) ?_
    refine lv_aload_n hx hb d_L_law_624 rfl (lv_at hl 1 rfl) ?_
    refine lv_iload hx hb d_L_law_625 (lv_at hl 5 rfl) ?_
    refine lv_iconst (v := nI 1) hx hb d_L_law_627 (by decide) ?_
    refine wl_iaddn hx hb d_L_law_628 ?_
    refine wl_sld hx hb hscr hbl hbA hS (i := (i + 1)) (by omega) hLn d_L_law_629 ?_
    obtain ⟨hPc, hDc, hFc⟩ := la_M hP hD hS hA
    refine va_calli (va_runV (C := "FlowNestModel") (b := h3) (As := [.int (xs (i + 1))]) (rest := []) ⟨hx, hb, hml, hown, hts⟩ (c_M_level l dC dI cJ cI h3 k3 o3 w3 v3 p3 e3 f3 q3 H.size cd ey ex rc eg L so wi ew lo men le pi n r x q (xs (i + 1)) hn hz hL hq) (cwV 1 hts (nm_gV nm_528 nm_529 nm_530 nm_4 nm_c_M_level) rfl rfl rfl (by decide +kernel) ⟨Nat.le_of_ble_eq_true rfl, Nat.le_of_ble_eq_true rfl⟩) ⟨cw_blindM, va_recv hK hPc (ci := 3) rfl (q0 := 0) rfl, cw_preM hPc hDc hK hNw⟩ rfl rfl hl.1 rfl (lv_room (Nat.le_of_ble_eq_true rfl)) d_L_law_630 ⟨rm_c (by omega), rm_s (by omega)⟩) hS (fun q _ h => hFc q h) hFc (fun r33 u9 t H1 locs ht hvm hw34 hB hz1 hk1 hS => ?_)
    obtain ⟨zrc35, zeg36, zso37, zwi38, zew39, zlo40, zen41, zle42, zpi43, zb44, zk45⟩ := u9
    obtain ⟨hP1, hD1⟩ := hB
    rw [ht] at hP1
    obtain ⟨hP, hD⟩ := la_jM hP hD hk1 hFc hP1 hD1
    clear hPc hDc hFc hP1 hD1 hk1 hz1 ht
    generalize H1 = H at hP hS ⊢
    obtain ⟨hv2, hq2, ha2⟩ := hw34
    have hzb : zb44 = false := Bool.eq_false_iff.mpr (fun z => hval (hv2.mp z))
    replace hzb := hzb.symm
    subst hzb
    have hP : va_P (dC, dI) vwCl (la_ws cJ cI h0 h1 n1 a1 e1 l1 b1 t1 h2 n2 a2 e2 l2 b2 t2 h4 c4 h3 k3 o3 w3 v3 p3 e3 f3 q3 g5 (nI n) (nI (sp_lc n L)) L yab92 yen93 ylf94 ybl95 ytr96 (nI n) (nI r) ymt97 (bs_i yp91) (gf_T n L) yyb99 yyn910 yyf911 yyl912 yyr913 (nI n) (nI x) yym914 (bs_i ys98) ybo916 (bs_i yw915) (nI 1) (nI n) ey ex (bs_i zk45) zrc35 zeg36 L zso37 zwi38 zew39 zlo40 zen41 zle42 zpi43 you917) H := hP
    have hD : va_D A (la_ws cJ cI h0 h1 n1 a1 e1 l1 b1 t1 h2 n2 a2 e2 l2 b2 t2 h4 c4 h3 k3 o3 w3 v3 p3 e3 f3 q3 g5 (nI n) (nI (sp_lc n L)) L yab92 yen93 ylf94 ybl95 ytr96 (nI n) (nI r) ymt97 (bs_i yp91) (gf_T n L) yyb99 yyn910 yyf911 yyl912 yyr913 (nI n) (nI x) yym914 (bs_i ys98) ybo916 (bs_i yw915) (nI 1) (nI n) ey ex (bs_i zk45) zrc35 zeg36 L zso37 zwi38 zew39 zlo40 zen41 zle42 zpi43 you917) := hD
    refine lv_istore (lv' := [(6, .int r33), (5, .int (nI 1)), (0, .ref b), (1, .ref h0), (2, .ref h3), (3, .ref g5), (4, .int (nI i))]) hx hb d_L_law_633 hl (by decide) rfl (fun ls hl => ?_)
    refine lv_aload_n hx hb d_L_law_635 rfl (lv_at hl 4 rfl) ?_
    have hPc := (la_M hP hD hS hA).1
    refine vp_callSi (va_Run.run (va_runV (C := "FlowNestModel") (b := h3) (As := []) (rest := []) ⟨hx, hb, hml, hown, hts⟩ (c_M_thrown l dC dI cJ cI h3 k3 o3 w3 v3 p3 e3 f3 q3 (nI 1) (nI n) ey ex (bs_i zk45) zrc35 zeg36 L zso37 zwi38 zew39 zlo40 zen41 zle42 zpi43) (cwV 0 hts (nm_gV nm_460 nm_461 nm_462 nm_4 nm_c_M_thrown) rfl rfl rfl (by decide +kernel) ⟨Nat.le_of_ble_eq_true rfl, Nat.le_of_ble_eq_true rfl⟩) ⟨cw_blind, va_recv hK hPc (ci := 3) rfl (q0 := 0) rfl, cw_pre hPc hK hNw⟩ rfl rfl hl.1 rfl (lv_room (Nat.le_of_ble_eq_true rfl)) d_L_law_636 ⟨rm_c (by omega), rm_s (by omega)⟩)) (fun r46 hr47 => ?_)
    clear hPc
    subst hr47
    refine lv_iload hx hb d_L_law_639 (lv_at hl 1 rfl) ?_
    refine wl_ieq (tgt := 646) hx hb (by omega) (by omega) d_L_law_641 (by decide) (fun hc641 => ?_) (fun hc641 => ?_)
    · refine lv_iload hx hb d_L_law_646 (lv_at hl 1 rfl) ?_
      refine wl_ifnen (tgt := 663) hx hb (by omega) d_L_law_648 (by decide) (fun hc648 => ?_) (fun hc648 => ?_)
      · refine lv_goto (tgt := 1239) hx hb d_L_law_663 (by decide) ?_
        refine W.widen (k := cells + 2) (n := slots + 12) (by omega) (by omega) ?_
        exact back _ _ _ ⟨n, r, x, L, nI (sp_lc n L), gf_T n L, yp91, ys98, yw915, yab92, yen93, ylf94, ybl95, ytr96, ymt97, yyb99, yyn910, yyf911, yyl912, yyr913, yym914, ybo916, nI 1, ey, ex, zk45, zrc35, zeg36, zso37, zwi38, zew39, zlo40, zen41, zle42, zpi43, you917, hn, hL, hJ1, hJ2, hJ4, rfl, rfl, hz, hz0, hq2, hP, hD⟩ hS (lv_sub hl [2, 3, 4, 5, 6] rfl)
      · exact absurd hc648 (by decide)
    · exact absurd rfl hc641
