/-! the law's cases (laid by wip/gen/law.py) -/
set_option maxHeartbeats 4000000 in
set_option maxRecDepth 100000 in
theorem law_5 {p : Program} {l : Launch} {e : Env} {s : State} {m : MethodId} {below : List Frame} {meth : Method} {c : Code} {b Ln : Nat} {xs : Nat → Int32} {A : Nat → Prop} {Q : State → Prop} {dC : Nat → ClassId} {dI : Nat → Nat → Nat} {cJ cI : ClassId} {h0 h1 n1 a1 e1 l1 b1 t1 h2 n2 a2 e2 l2 b2 t2 h4 c4 h3 k3 o3 w3 v3 p3 e3 f3 q3 g5 sa sb : Nat} (C9 : lw_C p l s m c b Ln xs A dC dI cJ cI sa sb) {cells slots i : Nat} (hi : i + 4 ≤ Ln) (hc9 : cells + 2 ≤ 1053) (hs9 : slots + 12 ≤ 9256) (back : ∀ (H : Heap) (locs : List Loc) (ls : Array Slot), lw_J A dC dI cJ cI h0 h1 n1 a1 e1 l1 b1 t1 h2 n2 a2 e2 l2 b2 t2 h4 c4 h3 k3 o3 w3 v3 p3 e3 f3 q3 g5 H → va_S A s.heap H locs → lv_has ls 8 [(0, .ref b), (1, .ref h0), (2, .ref h3), (3, .ref g5), (4, .int (nI i))] → W p l e room_1 s m #[Value.ref b] below meth c H locs (cells + 2) (slots + 12) Q (F0 m 1239 ls [])) {H : Heap} {locs : List Loc} {ls : Array Slot} (hJ : lw_J A dC dI cJ cI h0 h1 n1 a1 e1 l1 b1 t1 h2 n2 a2 e2 l2 b2 t2 h4 c4 h3 k3 o3 w3 v3 p3 e3 f3 q3 g5 H) (hS : va_S A s.heap H locs) (hl : lv_has ls 8 [(0, .ref b), (1, .ref h0), (2, .ref h3), (3, .ref g5), (4, .int (nI i))]) : W p l e room_1 s m #[Value.ref b] below meth c H locs cells slots Q (F0 m 507 ls []) := by
  obtain ⟨hx, hb, hml, hown, hts, hNw, hK, hX0, hA1, hl9, hscr, hbl, hLn⟩ := C9
  have hA : ∀ q : Nat, s.heap.size ≤ q → A q := fun q h => (hA1 q).mpr h
  have hbA : ¬ A b := fun z => absurd ((hA1 b).mp z) (by omega)
  obtain ⟨n, r, x, L, fc, M, q1, q2, q4, ab, en, lf, bl, tr, mt, ab2, en2, lf2, bl2, tr2, mt2, bo, cd, ey, ex, q, rc, eg, so, wi, ew, lo, men, le, pi, ou, hn, hL, hI1, hI2, hI4, hfc, hM, hz, hz0, hq, hP, hD⟩ := hJ
  subst hfc
  subst hM
  have hP : va_P (dC, dI) vwCl (la_ws cJ cI h0 h1 n1 a1 e1 l1 b1 t1 h2 n2 a2 e2 l2 b2 t2 h4 c4 h3 k3 o3 w3 v3 p3 e3 f3 q3 g5 (nI n) (nI (sp_lc n L)) L ab en lf bl tr (nI n) (nI r) mt (bs_i q1) (gf_T n L) ab2 en2 lf2 bl2 tr2 (nI n) (nI x) mt2 (bs_i q2) bo (bs_i q4) cd (nI n) ey ex (bs_i q) rc eg L so wi ew lo men le pi ou) H := hP
  have hD : va_D A (la_ws cJ cI h0 h1 n1 a1 e1 l1 b1 t1 h2 n2 a2 e2 l2 b2 t2 h4 c4 h3 k3 o3 w3 v3 p3 e3 f3 q3 g5 (nI n) (nI (sp_lc n L)) L ab en lf bl tr (nI n) (nI r) mt (bs_i q1) (gf_T n L) ab2 en2 lf2 bl2 tr2 (nI n) (nI x) mt2 (bs_i q2) bo (bs_i q4) cd (nI n) ey ex (bs_i q) rc eg L so wi ew lo men le pi ou) := hD
  refine lv_aload_n hx hb d_L_law_507 rfl (lv_at hl 1 rfl) ?_
  refine lv_aload_n hx hb d_L_law_508 rfl (lv_at hl 0 rfl) ?_
  refine lv_iload hx hb d_L_law_509 (lv_at hl 4 rfl) ?_
  refine lv_iconst (v := nI 1) hx hb d_L_law_511 (by decide) ?_
  refine wl_iaddn hx hb d_L_law_512 ?_
  refine wl_sld hx hb hscr hbl hbA hS (i := (i + 1)) (by omega) hLn d_L_law_513 ?_
  refine lv_aload_n hx hb d_L_law_514 rfl (lv_at hl 0 rfl) ?_
  refine lv_iload hx hb d_L_law_515 (lv_at hl 4 rfl) ?_
  refine lv_iconst (v := nI 2) hx hb d_L_law_517 (by decide) ?_
  refine wl_iaddn hx hb d_L_law_518 ?_
  refine wl_sld hx hb hscr hbl hbA hS (i := (i + 2)) (by omega) hLn d_L_law_519 ?_
  refine lv_aload_n hx hb d_L_law_520 rfl (lv_at hl 0 rfl) ?_
  refine lv_iload hx hb d_L_law_521 (lv_at hl 4 rfl) ?_
  refine lv_iconst (v := nI 3) hx hb d_L_law_523 (by decide) ?_
  refine wl_iaddn hx hb d_L_law_524 ?_
  refine wl_sld hx hb hscr hbl hbA hS (i := (i + 3)) (by omega) hLn d_L_law_525 ?_
  refine lv_if_eq (tgt := 533) hx hb d_L_law_526 (by decide) (fun hc526 => ?_) (fun hc526 => ?_)
  · refine lv_iconst (v := nI 0) hx hb d_L_law_533 (by decide) ?_
    refine lv_aload_n hx hb d_L_law_534 rfl (lv_at hl 3 rfl) ?_
    refine W.eq (g2 := F0 m 535 ls [.ref g5, .int (bs_i false), .int (xs (i + 2)), .int (xs (i + 1)), .ref h0]) rfl ?_
    obtain ⟨hPc, hDc, hFc⟩ := la_L hP hD hS hA
    have hX := tx_kept hX0 hS.1 (fun q hq9 => hS.2.1 q hq9 (fun z => absurd ((hA1 q).mp z) (by omega)))
    refine va_calli (vx_runSW (As := [.ref h0, .int (xs (i + 1)), .int (xs (i + 2)), .int (bs_i false), .ref g5]) (rest := []) ⟨hx, hb, hml, hown, hts⟩ (c_L_dominates l hl9 dC dI cJ cI h0 h1 n1 a1 e1 l1 b1 t1 h2 n2 a2 e2 l2 b2 t2 h4 c4 g5 H.size sa sb ab en lf bl tr mt ab2 en2 lf2 bl2 tr2 mt2 bo ou n r x L q1 q2 q4 (xs (i + 1)) (xs (i + 2)) false hn hL hI1 hI2 hI4) (vx_cwSW 5 hts (nm_gS nm_335 nm_336 nm_0 nm_c_L_dominates) rfl rfl rfl (by decide +kernel) ⟨Nat.le_of_ble_eq_true rfl, Nat.le_of_ble_eq_true rfl⟩) ⟨cw_blindT, cw_preT hPc hDc hK hNw hX⟩ rfl rfl hl.1 rfl (lv_room (Nat.le_of_ble_eq_true rfl)) d_L_law_535 ⟨rm_c (by omega), rm_s (by omega)⟩) hS (fun q _ h => hFc q h) hFc (fun r1 u9 t H1 locs ht hvm hw hB hz1 hk1 hS => ?_)
    obtain ⟨yp91, yab92, yen93, ylf94, ybl95, ytr96, ymt97, ys98, yyb99, yyn910, yyf911, yyl912, yyr913, yym914, yw915, ybo916, you917⟩ := u9
    obtain ⟨hP1, hD1⟩ := hB
    rw [ht] at hP1
    obtain ⟨hP, hD⟩ := la_jL hP hD hk1 hFc hP1 hD1
    clear hPc hDc hFc hX hP1 hD1 hk1 hz1 ht
    generalize H1 = H at hP hS ⊢
    obtain ⟨⟨hJ1, hJ2, hJ4⟩, hw⟩ := hw
    rcases hw with ⟨hr1, k, j, hk_k, hk_j, hk_v, hk_w, hou⟩ | ⟨hr1, hval⟩
    · replace hr1 := hr1.symm
      subst hr1
      have hval : (∃ k, k < n ∧ xs (i + 1) = nI k) ∧ ∃ j, j < n ∧ xs (i + 2) = nI j := ⟨⟨k, hk_k, hk_v⟩, j, hk_j, hk_w⟩
      refine lv_istore (lv' := [(5, .int (nI 0)), (0, .ref b), (1, .ref h0), (2, .ref h3), (3, .ref g5), (4, .int (nI i))]) hx hb d_L_law_538 hl (by decide) rfl (fun ls hl => ?_)
      refine lv_aload_n hx hb d_L_law_540 rfl (lv_at hl 3 rfl) ?_
      refine lv_aload_n hx hb d_L_law_541 rfl (lv_at hl 1 rfl) ?_
      refine lv_iload hx hb d_L_law_542 (lv_at hl 5 rfl) ?_
      refine lv_iconst (v := nI 1) hx hb d_L_law_544 (by decide) ?_
      refine wl_iaddn hx hb d_L_law_545 ?_
      refine wl_sld hx hb hscr hbl hbA hS (i := (i + 1)) (by omega) hLn d_L_law_546 ?_
      refine lv_aload_n hx hb d_L_law_547 rfl (lv_at hl 1 rfl) ?_
      refine lv_iload hx hb d_L_law_548 (lv_at hl 5 rfl) ?_
      refine lv_iconst (v := nI 2) hx hb d_L_law_550 (by decide) ?_
      refine wl_iaddn hx hb d_L_law_551 ?_
      refine wl_sld hx hb hscr hbl hbA hS (i := (i + 2)) (by omega) hLn d_L_law_552 ?_
      refine lv_aload_n hx hb d_L_law_553 rfl (lv_at hl 1 rfl) ?_
      refine lv_iload hx hb d_L_law_554 (lv_at hl 5 rfl) ?_
      refine lv_iconst (v := nI 3) hx hb d_L_law_556 (by decide) ?_
      refine wl_iaddn hx hb d_L_law_557 ?_
      refine wl_sld hx hb hscr hbl hbA hS (i := (i + 3)) (by omega) hLn d_L_law_558 ?_
      refine lv_if_eq (tgt := 566) hx hb d_L_law_559 (by decide) (fun hc559 => ?_) (fun hc559 => ?_)
      · refine lv_iconst (v := nI 0) hx hb d_L_law_566 (by decide) ?_
        refine W.eq (g2 := F0 m 567 ls [.int (bs_i false), .int (xs (i + 2)), .int (xs (i + 1)), .ref h3]) rfl ?_
        obtain ⟨hPc, hDc, hFc⟩ := la_M hP hD hS hA
        refine va_calli (va_runV (C := "FlowNestModel") (b := h3) (As := [.int (xs (i + 1)), .int (xs (i + 2)), .int (bs_i false)]) (rest := []) ⟨hx, hb, hml, hown, hts⟩ (c_M_dominates l dC dI cJ cI h3 k3 o3 w3 v3 p3 e3 f3 q3 H.size cd ey ex rc eg L so wi ew lo men le pi n r x q (xs (i + 1)) (xs (i + 2)) false hn hz hL hq) (cwV 3 hts (nm_gV nm_524 nm_525 nm_526 nm_4 nm_c_M_dominates) rfl rfl rfl (by decide +kernel) ⟨Nat.le_of_ble_eq_true rfl, Nat.le_of_ble_eq_true rfl⟩) ⟨cw_blindM, va_recv hK hPc (ci := 3) rfl (q0 := 0) rfl, cw_preM hPc hDc hK hNw⟩ rfl rfl hl.1 rfl (lv_room (Nat.le_of_ble_eq_true rfl)) d_L_law_567 ⟨rm_c (by omega), rm_s (by omega)⟩) hS (fun q _ h => hFc q h) hFc (fun r18 u9 t H1 locs ht hvm hw19 hB hz1 hk1 hS => ?_)
        obtain ⟨zrc20, zeg21, zso22, zwi23, zew24, zlo25, zen26, zle27, zpi28, zb29, zk30⟩ := u9
        obtain ⟨hP1, hD1⟩ := hB
        rw [ht] at hP1
        obtain ⟨hP, hD⟩ := la_jM hP hD hk1 hFc hP1 hD1
        clear hPc hDc hFc hP1 hD1 hk1 hz1 ht
        generalize H1 = H at hP hS ⊢
        obtain ⟨hv2, hq2, ha2⟩ := hw19
        have hzb : zb29 = true := hv2.mpr hval
        replace hzb := hzb.symm
        subst hzb
        have hP : va_P (dC, dI) vwCl (la_ws cJ cI h0 h1 n1 a1 e1 l1 b1 t1 h2 n2 a2 e2 l2 b2 t2 h4 c4 h3 k3 o3 w3 v3 p3 e3 f3 q3 g5 (nI n) (nI (sp_lc n L)) L yab92 yen93 ylf94 ybl95 ytr96 (nI n) (nI r) ymt97 (bs_i yp91) (gf_T n L) yyb99 yyn910 yyf911 yyl912 yyr913 (nI n) (nI x) yym914 (bs_i ys98) ybo916 (bs_i yw915) (nI 0) (nI n) ey ex (bs_i zk30) zrc20 zeg21 L zso22 zwi23 zew24 zlo25 zen26 zle27 zpi28 you917) H := hP
        have hD : va_D A (la_ws cJ cI h0 h1 n1 a1 e1 l1 b1 t1 h2 n2 a2 e2 l2 b2 t2 h4 c4 h3 k3 o3 w3 v3 p3 e3 f3 q3 g5 (nI n) (nI (sp_lc n L)) L yab92 yen93 ylf94 ybl95 ytr96 (nI n) (nI r) ymt97 (bs_i yp91) (gf_T n L) yyb99 yyn910 yyf911 yyl912 yyr913 (nI n) (nI x) yym914 (bs_i ys98) ybo916 (bs_i yw915) (nI 0) (nI n) ey ex (bs_i zk30) zrc20 zeg21 L zso22 zwi23 zew24 zlo25 zen26 zle27 zpi28 you917) := hD
        obtain ⟨k2, j2, hk2, hj2, hv3, hw3, ha3⟩ := ha2 rfl
        have ek := nI_i (by omega) (by omega) (hk_v.symm.trans hv3)
        have ej := nI_i (by omega) (by omega) (hk_w.symm.trans hw3)
        subst ek
        subst ej
        subst ha3
        refine lv_istore (lv' := [(6, .int (bs_i (gf_d (dm_D (gf_E n (gg_L false n L)) (gg_r false r x) k j)))), (5, .int (nI 0)), (0, .ref b), (1, .ref h0), (2, .ref h3), (3, .ref g5), (4, .int (nI i))]) hx hb d_L_law_570 hl (by decide) rfl (fun ls hl => ?_)
        refine lv_aload_n hx hb d_L_law_572 rfl (lv_at hl 4 rfl) ?_
        have hPc := (la_M hP hD hS hA).1
        refine vp_callSi (va_Run.run (va_runV (C := "FlowNestModel") (b := h3) (As := []) (rest := []) ⟨hx, hb, hml, hown, hts⟩ (c_M_thrown l dC dI cJ cI h3 k3 o3 w3 v3 p3 e3 f3 q3 (nI 0) (nI n) ey ex (bs_i zk30) zrc20 zeg21 L zso22 zwi23 zew24 zlo25 zen26 zle27 zpi28) (cwV 0 hts (nm_gV nm_460 nm_461 nm_462 nm_4 nm_c_M_thrown) rfl rfl rfl (by decide +kernel) ⟨Nat.le_of_ble_eq_true rfl, Nat.le_of_ble_eq_true rfl⟩) ⟨cw_blind, va_recv hK hPc (ci := 3) rfl (q0 := 0) rfl, cw_pre hPc hK hNw⟩ rfl rfl hl.1 rfl (lv_room (Nat.le_of_ble_eq_true rfl)) d_L_law_573 ⟨rm_c (by omega), rm_s (by omega)⟩)) (fun r31 hr32 => ?_)
        clear hPc
        subst hr32
        refine lv_iload hx hb d_L_law_576 (lv_at hl 1 rfl) ?_
        refine wl_ieq (tgt := 583) hx hb (by omega) (by omega) d_L_law_578 (by decide) (fun hc578 => ?_) (fun hc578 => ?_)
        · refine lv_iload hx hb d_L_law_583 (lv_at hl 1 rfl) ?_
          refine wl_ifnen (tgt := 607) hx hb (by omega) d_L_law_585 (by decide) (fun hc585 => ?_) (fun hc585 => ?_)
          · exact absurd hc585 (by decide)
          · refine lv_aload_n hx hb d_L_law_588 rfl (lv_at hl 5 rfl) ?_
            refine lv_iconst (v := nI 0) hx hb d_L_law_589 (by decide) ?_
            refine wl_lald (i := 0) hx hb hK hP 26 0 rfl rfl (by omega) (by decide) d_L_law_590 ?_
            refine lv_iload hx hb d_L_law_591 (lv_at hl 0 rfl) ?_
            refine wl_ifeqb (tgt := 600) hx hb d_L_law_593 (by decide) (fun hc593 => ?_) (fun hc593 => ?_)
            · refine lv_lconst (v := 0) hx hb d_L_law_600 (by decide) ?_
              refine wl_lcmpeq (tgt := 607) hx hb d_L_law_601 d_L_law_602 (by decide) (fun hc601 => ?_) (fun hc601 => ?_)
              · refine lv_goto (tgt := 1239) hx hb d_L_law_607 (by decide) ?_
                refine W.widen (k := cells + 2) (n := slots + 12) (by omega) (by omega) ?_
                exact back _ _ _ ⟨n, r, x, L, nI (sp_lc n L), gf_T n L, yp91, ys98, yw915, yab92, yen93, ylf94, ybl95, ytr96, ymt97, yyb99, yyn910, yyf911, yyl912, yyr913, yym914, ybo916, nI 0, ey, ex, zk30, zrc20, zeg21, zso22, zwi23, zew24, zlo25, zen26, zle27, zpi28, you917, hn, hL, hJ1, hJ2, hJ4, rfl, rfl, hz, hz0, hq2, hP, hD⟩ hS (lv_sub hl [2, 3, 4, 5, 6] rfl)
              · exact absurd (hou.trans (by rw [hc593]; rfl)) hc601
            · refine lv_lconst (v := 1) hx hb d_L_law_596 (by decide) ?_
              refine lv_goto (tgt := 601) hx hb d_L_law_597 (by decide) ?_
              refine wl_lcmpeq (tgt := 607) hx hb d_L_law_601 d_L_law_602 (by decide) (fun hc601 => ?_) (fun hc601 => ?_)
              · refine lv_goto (tgt := 1239) hx hb d_L_law_607 (by decide) ?_
                refine W.widen (k := cells + 2) (n := slots + 12) (by omega) (by omega) ?_
                exact back _ _ _ ⟨n, r, x, L, nI (sp_lc n L), gf_T n L, yp91, ys98, yw915, yab92, yen93, ylf94, ybl95, ytr96, ymt97, yyb99, yyn910, yyf911, yyl912, yyr913, yym914, ybo916, nI 0, ey, ex, zk30, zrc20, zeg21, zso22, zwi23, zew24, zlo25, zen26, zle27, zpi28, you917, hn, hL, hJ1, hJ2, hJ4, rfl, rfl, hz, hz0, hq2, hP, hD⟩ hS (lv_sub hl [2, 3, 4, 5, 6] rfl)
              · exact absurd (hou.trans (by rw [hc593]; rfl)) hc601
        · exact absurd rfl hc578
      · exact absurd hc526 hc559
    · replace hr1 := hr1.symm
      subst hr1
      refine lv_istore (lv' := [(5, .int (nI 1)), (0, .ref b), (1, .ref h0), (2, .ref h3), (3, .ref g5), (4, .int (nI i))]) hx hb d_L_law_538 hl (by decide) rfl (fun ls hl => ?_)
      refine lv_aload_n hx hb d_L_law_540 rfl (lv_at hl 3 rfl) ?_
      refine lv_aload_n hx hb d_L_law_541 rfl (lv_at hl 1 rfl) ?_
      refine lv_iload hx hb d_L_law_542 (lv_at hl 5 rfl) ?_
      refine lv_iconst (v := nI 1) hx hb d_L_law_544 (by decide) ?_
      refine wl_iaddn hx hb d_L_law_545 ?_
      refine wl_sld hx hb hscr hbl hbA hS (i := (i + 1)) (by omega) hLn d_L_law_546 ?_
      refine lv_aload_n hx hb d_L_law_547 rfl (lv_at hl 1 rfl) ?_
      refine lv_iload hx hb d_L_law_548 (lv_at hl 5 rfl) ?_
      refine lv_iconst (v := nI 2) hx hb d_L_law_550 (by decide) ?_
      refine wl_iaddn hx hb d_L_law_551 ?_
      refine wl_sld hx hb hscr hbl hbA hS (i := (i + 2)) (by omega) hLn d_L_law_552 ?_
      refine lv_aload_n hx hb d_L_law_553 rfl (lv_at hl 1 rfl) ?_
      refine lv_iload hx hb d_L_law_554 (lv_at hl 5 rfl) ?_
      refine lv_iconst (v := nI 3) hx hb d_L_law_556 (by decide) ?_
      refine wl_iaddn hx hb d_L_law_557 ?_
      refine wl_sld hx hb hscr hbl hbA hS (i := (i + 3)) (by omega) hLn d_L_law_558 ?_
      refine lv_if_eq (tgt := 566) hx hb d_L_law_559 (by decide) (fun hc559 => ?_) (fun hc559 => ?_)
      · refine lv_iconst (v := nI 0) hx hb d_L_law_566 (by decide) ?_
        refine W.eq (g2 := F0 m 567 ls [.int (bs_i false), .int (xs (i + 2)), .int (xs (i + 1)), .ref h3]) rfl ?_
        obtain ⟨hPc, hDc, hFc⟩ := la_M hP hD hS hA
        refine va_calli (va_runV (C := "FlowNestModel") (b := h3) (As := [.int (xs (i + 1)), .int (xs (i + 2)), .int (bs_i false)]) (rest := []) ⟨hx, hb, hml, hown, hts⟩ (c_M_dominates l dC dI cJ cI h3 k3 o3 w3 v3 p3 e3 f3 q3 H.size cd ey ex rc eg L so wi ew lo men le pi n r x q (xs (i + 1)) (xs (i + 2)) false hn hz hL hq) (cwV 3 hts (nm_gV nm_524 nm_525 nm_526 nm_4 nm_c_M_dominates) rfl rfl rfl (by decide +kernel) ⟨Nat.le_of_ble_eq_true rfl, Nat.le_of_ble_eq_true rfl⟩) ⟨cw_blindM, va_recv hK hPc (ci := 3) rfl (q0 := 0) rfl, cw_preM hPc hDc hK hNw⟩ rfl rfl hl.1 rfl (lv_room (Nat.le_of_ble_eq_true rfl)) d_L_law_567 ⟨rm_c (by omega), rm_s (by omega)⟩) hS (fun q _ h => hFc q h) hFc (fun r33 u9 t H1 locs ht hvm hw34 hB hz1 hk1 hS => ?_)
        obtain ⟨zrc35, zeg36, zso37, zwi38, zew39, zlo40, zen41, zle42, zpi43, zb44, zk45⟩ := u9
        obtain ⟨hP1, hD1⟩ := hB
        rw [ht] at hP1
        obtain ⟨hP, hD⟩ := la_jM hP hD hk1 hFc hP1 hD1
        clear hPc hDc hFc hP1 hD1 hk1 hz1 ht
        generalize H1 = H at hP hS ⊢
        obtain ⟨hv2, hq2, ha2⟩ := hw34
        have hzb : zb44 = false := Bool.eq_false_iff.mpr (fun z => hval (hv2.mp z))
        replace hzb := hzb.symm
        subst hzb
        have hP : va_P (dC, dI) vwCl (la_ws cJ cI h0 h1 n1 a1 e1 l1 b1 t1 h2 n2 a2 e2 l2 b2 t2 h4 c4 h3 k3 o3 w3 v3 p3 e3 f3 q3 g5 (nI n) (nI (sp_lc n L)) L yab92 yen93 ylf94 ybl95 ytr96 (nI n) (nI r) ymt97 (bs_i yp91) (gf_T n L) yyb99 yyn910 yyf911 yyl912 yyr913 (nI n) (nI x) yym914 (bs_i ys98) ybo916 (bs_i yw915) (nI 1) (nI n) ey ex (bs_i zk45) zrc35 zeg36 L zso37 zwi38 zew39 zlo40 zen41 zle42 zpi43 you917) H := hP
        have hD : va_D A (la_ws cJ cI h0 h1 n1 a1 e1 l1 b1 t1 h2 n2 a2 e2 l2 b2 t2 h4 c4 h3 k3 o3 w3 v3 p3 e3 f3 q3 g5 (nI n) (nI (sp_lc n L)) L yab92 yen93 ylf94 ybl95 ytr96 (nI n) (nI r) ymt97 (bs_i yp91) (gf_T n L) yyb99 yyn910 yyf911 yyl912 yyr913 (nI n) (nI x) yym914 (bs_i ys98) ybo916 (bs_i yw915) (nI 1) (nI n) ey ex (bs_i zk45) zrc35 zeg36 L zso37 zwi38 zew39 zlo40 zen41 zle42 zpi43 you917) := hD
        refine lv_istore (lv' := [(6, .int r33), (5, .int (nI 1)), (0, .ref b), (1, .ref h0), (2, .ref h3), (3, .ref g5), (4, .int (nI i))]) hx hb d_L_law_570 hl (by decide) rfl (fun ls hl => ?_)
        refine lv_aload_n hx hb d_L_law_572 rfl (lv_at hl 4 rfl) ?_
        have hPc := (la_M hP hD hS hA).1
        refine vp_callSi (va_Run.run (va_runV (C := "FlowNestModel") (b := h3) (As := []) (rest := []) ⟨hx, hb, hml, hown, hts⟩ (c_M_thrown l dC dI cJ cI h3 k3 o3 w3 v3 p3 e3 f3 q3 (nI 1) (nI n) ey ex (bs_i zk45) zrc35 zeg36 L zso37 zwi38 zew39 zlo40 zen41 zle42 zpi43) (cwV 0 hts (nm_gV nm_460 nm_461 nm_462 nm_4 nm_c_M_thrown) rfl rfl rfl (by decide +kernel) ⟨Nat.le_of_ble_eq_true rfl, Nat.le_of_ble_eq_true rfl⟩) ⟨cw_blind, va_recv hK hPc (ci := 3) rfl (q0 := 0) rfl, cw_pre hPc hK hNw⟩ rfl rfl hl.1 rfl (lv_room (Nat.le_of_ble_eq_true rfl)) d_L_law_573 ⟨rm_c (by omega), rm_s (by omega)⟩)) (fun r46 hr47 => ?_)
        clear hPc
        subst hr47
        refine lv_iload hx hb d_L_law_576 (lv_at hl 1 rfl) ?_
        refine wl_ieq (tgt := 583) hx hb (by omega) (by omega) d_L_law_578 (by decide) (fun hc578 => ?_) (fun hc578 => ?_)
        · refine lv_iload hx hb d_L_law_583 (lv_at hl 1 rfl) ?_
          refine wl_ifnen (tgt := 607) hx hb (by omega) d_L_law_585 (by decide) (fun hc585 => ?_) (fun hc585 => ?_)
          · refine lv_goto (tgt := 1239) hx hb d_L_law_607 (by decide) ?_
            refine W.widen (k := cells + 2) (n := slots + 12) (by omega) (by omega) ?_
            exact back _ _ _ ⟨n, r, x, L, nI (sp_lc n L), gf_T n L, yp91, ys98, yw915, yab92, yen93, ylf94, ybl95, ytr96, ymt97, yyb99, yyn910, yyf911, yyl912, yyr913, yym914, ybo916, nI 1, ey, ex, zk45, zrc35, zeg36, zso37, zwi38, zew39, zlo40, zen41, zle42, zpi43, you917, hn, hL, hJ1, hJ2, hJ4, rfl, rfl, hz, hz0, hq2, hP, hD⟩ hS (lv_sub hl [2, 3, 4, 5, 6] rfl)
          · exact absurd hc585 (by decide)
        · exact absurd rfl hc578
      · exact absurd hc526 hc559
  · refine lv_iconst (v := nI 1) hx hb d_L_law_529 (by decide) ?_
    refine lv_goto (tgt := 534) hx hb d_L_law_530 (by decide) ?_
    refine lv_aload_n hx hb d_L_law_534 rfl (lv_at hl 3 rfl) ?_
    refine W.eq (g2 := F0 m 535 ls [.ref g5, .int (bs_i true), .int (xs (i + 2)), .int (xs (i + 1)), .ref h0]) rfl ?_
    obtain ⟨hPc, hDc, hFc⟩ := la_L hP hD hS hA
    have hX := tx_kept hX0 hS.1 (fun q hq9 => hS.2.1 q hq9 (fun z => absurd ((hA1 q).mp z) (by omega)))
    refine va_calli (vx_runSW (As := [.ref h0, .int (xs (i + 1)), .int (xs (i + 2)), .int (bs_i true), .ref g5]) (rest := []) ⟨hx, hb, hml, hown, hts⟩ (c_L_dominates l hl9 dC dI cJ cI h0 h1 n1 a1 e1 l1 b1 t1 h2 n2 a2 e2 l2 b2 t2 h4 c4 g5 H.size sa sb ab en lf bl tr mt ab2 en2 lf2 bl2 tr2 mt2 bo ou n r x L q1 q2 q4 (xs (i + 1)) (xs (i + 2)) true hn hL hI1 hI2 hI4) (vx_cwSW 5 hts (nm_gS nm_335 nm_336 nm_0 nm_c_L_dominates) rfl rfl rfl (by decide +kernel) ⟨Nat.le_of_ble_eq_true rfl, Nat.le_of_ble_eq_true rfl⟩) ⟨cw_blindT, cw_preT hPc hDc hK hNw hX⟩ rfl rfl hl.1 rfl (lv_room (Nat.le_of_ble_eq_true rfl)) d_L_law_535 ⟨rm_c (by omega), rm_s (by omega)⟩) hS (fun q _ h => hFc q h) hFc (fun r1 u9 t H1 locs ht hvm hw hB hz1 hk1 hS => ?_)
    obtain ⟨yp948, yab949, yen950, ylf951, ybl952, ytr953, ymt954, ys955, yyb956, yyn957, yyf958, yyl959, yyr960, yym961, yw962, ybo963, you964⟩ := u9
    obtain ⟨hP1, hD1⟩ := hB
    rw [ht] at hP1
    obtain ⟨hP, hD⟩ := la_jL hP hD hk1 hFc hP1 hD1
    clear hPc hDc hFc hX hP1 hD1 hk1 hz1 ht
    generalize H1 = H at hP hS ⊢
    obtain ⟨⟨hJ1, hJ2, hJ4⟩, hw⟩ := hw
    rcases hw with ⟨hr1, k, j, hk_k, hk_j, hk_v, hk_w, hou⟩ | ⟨hr1, hval⟩
    · replace hr1 := hr1.symm
      subst hr1
      have hval : (∃ k, k < n ∧ xs (i + 1) = nI k) ∧ ∃ j, j < n ∧ xs (i + 2) = nI j := ⟨⟨k, hk_k, hk_v⟩, j, hk_j, hk_w⟩
      refine lv_istore (lv' := [(5, .int (nI 0)), (0, .ref b), (1, .ref h0), (2, .ref h3), (3, .ref g5), (4, .int (nI i))]) hx hb d_L_law_538 hl (by decide) rfl (fun ls hl => ?_)
      refine lv_aload_n hx hb d_L_law_540 rfl (lv_at hl 3 rfl) ?_
      refine lv_aload_n hx hb d_L_law_541 rfl (lv_at hl 1 rfl) ?_
      refine lv_iload hx hb d_L_law_542 (lv_at hl 5 rfl) ?_
      refine lv_iconst (v := nI 1) hx hb d_L_law_544 (by decide) ?_
      refine wl_iaddn hx hb d_L_law_545 ?_
      refine wl_sld hx hb hscr hbl hbA hS (i := (i + 1)) (by omega) hLn d_L_law_546 ?_
      refine lv_aload_n hx hb d_L_law_547 rfl (lv_at hl 1 rfl) ?_
      refine lv_iload hx hb d_L_law_548 (lv_at hl 5 rfl) ?_
      refine lv_iconst (v := nI 2) hx hb d_L_law_550 (by decide) ?_
      refine wl_iaddn hx hb d_L_law_551 ?_
      refine wl_sld hx hb hscr hbl hbA hS (i := (i + 2)) (by omega) hLn d_L_law_552 ?_
      refine lv_aload_n hx hb d_L_law_553 rfl (lv_at hl 1 rfl) ?_
      refine lv_iload hx hb d_L_law_554 (lv_at hl 5 rfl) ?_
      refine lv_iconst (v := nI 3) hx hb d_L_law_556 (by decide) ?_
      refine wl_iaddn hx hb d_L_law_557 ?_
      refine wl_sld hx hb hscr hbl hbA hS (i := (i + 3)) (by omega) hLn d_L_law_558 ?_
      refine lv_if_eq (tgt := 566) hx hb d_L_law_559 (by decide) (fun hc559 => ?_) (fun hc559 => ?_)
      · exact absurd hc559 hc526
      · refine lv_iconst (v := nI 1) hx hb d_L_law_562 (by decide) ?_
        refine lv_goto (tgt := 567) hx hb d_L_law_563 (by decide) ?_
        refine W.eq (g2 := F0 m 567 ls [.int (bs_i true), .int (xs (i + 2)), .int (xs (i + 1)), .ref h3]) rfl ?_
        obtain ⟨hPc, hDc, hFc⟩ := la_M hP hD hS hA
        refine va_calli (va_runV (C := "FlowNestModel") (b := h3) (As := [.int (xs (i + 1)), .int (xs (i + 2)), .int (bs_i true)]) (rest := []) ⟨hx, hb, hml, hown, hts⟩ (c_M_dominates l dC dI cJ cI h3 k3 o3 w3 v3 p3 e3 f3 q3 H.size cd ey ex rc eg L so wi ew lo men le pi n r x q (xs (i + 1)) (xs (i + 2)) true hn hz hL hq) (cwV 3 hts (nm_gV nm_524 nm_525 nm_526 nm_4 nm_c_M_dominates) rfl rfl rfl (by decide +kernel) ⟨Nat.le_of_ble_eq_true rfl, Nat.le_of_ble_eq_true rfl⟩) ⟨cw_blindM, va_recv hK hPc (ci := 3) rfl (q0 := 0) rfl, cw_preM hPc hDc hK hNw⟩ rfl rfl hl.1 rfl (lv_room (Nat.le_of_ble_eq_true rfl)) d_L_law_567 ⟨rm_c (by omega), rm_s (by omega)⟩) hS (fun q _ h => hFc q h) hFc (fun r65 u9 t H1 locs ht hvm hw66 hB hz1 hk1 hS => ?_)
        obtain ⟨zrc67, zeg68, zso69, zwi70, zew71, zlo72, zen73, zle74, zpi75, zb76, zk77⟩ := u9
        obtain ⟨hP1, hD1⟩ := hB
        rw [ht] at hP1
        obtain ⟨hP, hD⟩ := la_jM hP hD hk1 hFc hP1 hD1
        clear hPc hDc hFc hP1 hD1 hk1 hz1 ht
        generalize H1 = H at hP hS ⊢
        obtain ⟨hv2, hq2, ha2⟩ := hw66
        have hzb : zb76 = true := hv2.mpr hval
        replace hzb := hzb.symm
        subst hzb
        have hP : va_P (dC, dI) vwCl (la_ws cJ cI h0 h1 n1 a1 e1 l1 b1 t1 h2 n2 a2 e2 l2 b2 t2 h4 c4 h3 k3 o3 w3 v3 p3 e3 f3 q3 g5 (nI n) (nI (sp_lc n L)) L yab949 yen950 ylf951 ybl952 ytr953 (nI n) (nI r) ymt954 (bs_i yp948) (gf_T n L) yyb956 yyn957 yyf958 yyl959 yyr960 (nI n) (nI x) yym961 (bs_i ys955) ybo963 (bs_i yw962) (nI 0) (nI n) ey ex (bs_i zk77) zrc67 zeg68 L zso69 zwi70 zew71 zlo72 zen73 zle74 zpi75 you964) H := hP
        have hD : va_D A (la_ws cJ cI h0 h1 n1 a1 e1 l1 b1 t1 h2 n2 a2 e2 l2 b2 t2 h4 c4 h3 k3 o3 w3 v3 p3 e3 f3 q3 g5 (nI n) (nI (sp_lc n L)) L yab949 yen950 ylf951 ybl952 ytr953 (nI n) (nI r) ymt954 (bs_i yp948) (gf_T n L) yyb956 yyn957 yyf958 yyl959 yyr960 (nI n) (nI x) yym961 (bs_i ys955) ybo963 (bs_i yw962) (nI 0) (nI n) ey ex (bs_i zk77) zrc67 zeg68 L zso69 zwi70 zew71 zlo72 zen73 zle74 zpi75 you964) := hD
        obtain ⟨k2, j2, hk2, hj2, hv3, hw3, ha3⟩ := ha2 rfl
        have ek := nI_i (by omega) (by omega) (hk_v.symm.trans hv3)
        have ej := nI_i (by omega) (by omega) (hk_w.symm.trans hw3)
        subst ek
        subst ej
        subst ha3
        refine lv_istore (lv' := [(6, .int (bs_i (gf_d (dm_D (gf_E n (gg_L true n L)) (gg_r true r x) k j)))), (5, .int (nI 0)), (0, .ref b), (1, .ref h0), (2, .ref h3), (3, .ref g5), (4, .int (nI i))]) hx hb d_L_law_570 hl (by decide) rfl (fun ls hl => ?_)
        refine lv_aload_n hx hb d_L_law_572 rfl (lv_at hl 4 rfl) ?_
        have hPc := (la_M hP hD hS hA).1
        refine vp_callSi (va_Run.run (va_runV (C := "FlowNestModel") (b := h3) (As := []) (rest := []) ⟨hx, hb, hml, hown, hts⟩ (c_M_thrown l dC dI cJ cI h3 k3 o3 w3 v3 p3 e3 f3 q3 (nI 0) (nI n) ey ex (bs_i zk77) zrc67 zeg68 L zso69 zwi70 zew71 zlo72 zen73 zle74 zpi75) (cwV 0 hts (nm_gV nm_460 nm_461 nm_462 nm_4 nm_c_M_thrown) rfl rfl rfl (by decide +kernel) ⟨Nat.le_of_ble_eq_true rfl, Nat.le_of_ble_eq_true rfl⟩) ⟨cw_blind, va_recv hK hPc (ci := 3) rfl (q0 := 0) rfl, cw_pre hPc hK hNw⟩ rfl rfl hl.1 rfl (lv_room (Nat.le_of_ble_eq_true rfl)) d_L_law_573 ⟨rm_c (by omega), rm_s (by omega)⟩)) (fun r78 hr79 => ?_)
        clear hPc
        subst hr79
        refine lv_iload hx hb d_L_law_576 (lv_at hl 1 rfl) ?_
        refine wl_ieq (tgt := 583) hx hb (by omega) (by omega) d_L_law_578 (by decide) (fun hc578 => ?_) (fun hc578 => ?_)
        · refine lv_iload hx hb d_L_law_583 (lv_at hl 1 rfl) ?_
          refine wl_ifnen (tgt := 607) hx hb (by omega) d_L_law_585 (by decide) (fun hc585 => ?_) (fun hc585 => ?_)
          · exact absurd hc585 (by decide)
          · refine lv_aload_n hx hb d_L_law_588 rfl (lv_at hl 5 rfl) ?_
            refine lv_iconst (v := nI 0) hx hb d_L_law_589 (by decide) ?_
            refine wl_lald (i := 0) hx hb hK hP 26 0 rfl rfl (by omega) (by decide) d_L_law_590 ?_
            refine lv_iload hx hb d_L_law_591 (lv_at hl 0 rfl) ?_
            refine wl_ifeqb (tgt := 600) hx hb d_L_law_593 (by decide) (fun hc593 => ?_) (fun hc593 => ?_)
            · refine lv_lconst (v := 0) hx hb d_L_law_600 (by decide) ?_
              refine wl_lcmpeq (tgt := 607) hx hb d_L_law_601 d_L_law_602 (by decide) (fun hc601 => ?_) (fun hc601 => ?_)
              · refine lv_goto (tgt := 1239) hx hb d_L_law_607 (by decide) ?_
                refine W.widen (k := cells + 2) (n := slots + 12) (by omega) (by omega) ?_
                exact back _ _ _ ⟨n, r, x, L, nI (sp_lc n L), gf_T n L, yp948, ys955, yw962, yab949, yen950, ylf951, ybl952, ytr953, ymt954, yyb956, yyn957, yyf958, yyl959, yyr960, yym961, ybo963, nI 0, ey, ex, zk77, zrc67, zeg68, zso69, zwi70, zew71, zlo72, zen73, zle74, zpi75, you964, hn, hL, hJ1, hJ2, hJ4, rfl, rfl, hz, hz0, hq2, hP, hD⟩ hS (lv_sub hl [2, 3, 4, 5, 6] rfl)
              · exact absurd (hou.trans (by rw [hc593]; rfl)) hc601
            · refine lv_lconst (v := 1) hx hb d_L_law_596 (by decide) ?_
              refine lv_goto (tgt := 601) hx hb d_L_law_597 (by decide) ?_
              refine wl_lcmpeq (tgt := 607) hx hb d_L_law_601 d_L_law_602 (by decide) (fun hc601 => ?_) (fun hc601 => ?_)
              · refine lv_goto (tgt := 1239) hx hb d_L_law_607 (by decide) ?_
                refine W.widen (k := cells + 2) (n := slots + 12) (by omega) (by omega) ?_
                exact back _ _ _ ⟨n, r, x, L, nI (sp_lc n L), gf_T n L, yp948, ys955, yw962, yab949, yen950, ylf951, ybl952, ytr953, ymt954, yyb956, yyn957, yyf958, yyl959, yyr960, yym961, ybo963, nI 0, ey, ex, zk77, zrc67, zeg68, zso69, zwi70, zew71, zlo72, zen73, zle74, zpi75, you964, hn, hL, hJ1, hJ2, hJ4, rfl, rfl, hz, hz0, hq2, hP, hD⟩ hS (lv_sub hl [2, 3, 4, 5, 6] rfl)
              · exact absurd (hou.trans (by rw [hc593]; rfl)) hc601
        · exact absurd rfl hc578
    · replace hr1 := hr1.symm
      subst hr1
      refine lv_istore (lv' := [(5, .int (nI 1)), (0, .ref b), (1, .ref h0), (2, .ref h3), (3, .ref g5), (4, .int (nI i))]) hx hb d_L_law_538 hl (by decide) rfl (fun ls hl => ?_)
      refine lv_aload_n hx hb d_L_law_540 rfl (lv_at hl 3 rfl) ?_
      refine lv_aload_n hx hb d_L_law_541 rfl (lv_at hl 1 rfl) ?_
      refine lv_iload hx hb d_L_law_542 (lv_at hl 5 rfl) ?_
      refine lv_iconst (v := nI 1) hx hb d_L_law_544 (by decide) ?_
      refine wl_iaddn hx hb d_L_law_545 ?_
      refine wl_sld hx hb hscr hbl hbA hS (i := (i + 1)) (by omega) hLn d_L_law_546 ?_
      refine lv_aload_n hx hb d_L_law_547 rfl (lv_at hl 1 rfl) ?_
      refine lv_iload hx hb d_L_law_548 (lv_at hl 5 rfl) ?_
      refine lv_iconst (v := nI 2) hx hb d_L_law_550 (by decide) ?_
      refine wl_iaddn hx hb d_L_law_551 ?_
      refine wl_sld hx hb hscr hbl hbA hS (i := (i + 2)) (by omega) hLn d_L_law_552 ?_
      refine lv_aload_n hx hb d_L_law_553 rfl (lv_at hl 1 rfl) ?_
      refine lv_iload hx hb d_L_law_554 (lv_at hl 5 rfl) ?_
      refine lv_iconst (v := nI 3) hx hb d_L_law_556 (by decide) ?_
      refine wl_iaddn hx hb d_L_law_557 ?_
      refine wl_sld hx hb hscr hbl hbA hS (i := (i + 3)) (by omega) hLn d_L_law_558 ?_
      refine lv_if_eq (tgt := 566) hx hb d_L_law_559 (by decide) (fun hc559 => ?_) (fun hc559 => ?_)
      · exact absurd hc559 hc526
      · refine lv_iconst (v := nI 1) hx hb d_L_law_562 (by decide) ?_
        refine lv_goto (tgt := 567) hx hb d_L_law_563 (by decide) ?_
        refine W.eq (g2 := F0 m 567 ls [.int (bs_i true), .int (xs (i + 2)), .int (xs (i + 1)), .ref h3]) rfl ?_
        obtain ⟨hPc, hDc, hFc⟩ := la_M hP hD hS hA
        refine va_calli (va_runV (C := "FlowNestModel") (b := h3) (As := [.int (xs (i + 1)), .int (xs (i + 2)), .int (bs_i true)]) (rest := []) ⟨hx, hb, hml, hown, hts⟩ (c_M_dominates l dC dI cJ cI h3 k3 o3 w3 v3 p3 e3 f3 q3 H.size cd ey ex rc eg L so wi ew lo men le pi n r x q (xs (i + 1)) (xs (i + 2)) true hn hz hL hq) (cwV 3 hts (nm_gV nm_524 nm_525 nm_526 nm_4 nm_c_M_dominates) rfl rfl rfl (by decide +kernel) ⟨Nat.le_of_ble_eq_true rfl, Nat.le_of_ble_eq_true rfl⟩) ⟨cw_blindM, va_recv hK hPc (ci := 3) rfl (q0 := 0) rfl, cw_preM hPc hDc hK hNw⟩ rfl rfl hl.1 rfl (lv_room (Nat.le_of_ble_eq_true rfl)) d_L_law_567 ⟨rm_c (by omega), rm_s (by omega)⟩) hS (fun q _ h => hFc q h) hFc (fun r80 u9 t H1 locs ht hvm hw81 hB hz1 hk1 hS => ?_)
        obtain ⟨zrc82, zeg83, zso84, zwi85, zew86, zlo87, zen88, zle89, zpi90, zb91, zk92⟩ := u9
        obtain ⟨hP1, hD1⟩ := hB
        rw [ht] at hP1
        obtain ⟨hP, hD⟩ := la_jM hP hD hk1 hFc hP1 hD1
        clear hPc hDc hFc hP1 hD1 hk1 hz1 ht
        generalize H1 = H at hP hS ⊢
        obtain ⟨hv2, hq2, ha2⟩ := hw81
        have hzb : zb91 = false := Bool.eq_false_iff.mpr (fun z => hval (hv2.mp z))
        replace hzb := hzb.symm
        subst hzb
        have hP : va_P (dC, dI) vwCl (la_ws cJ cI h0 h1 n1 a1 e1 l1 b1 t1 h2 n2 a2 e2 l2 b2 t2 h4 c4 h3 k3 o3 w3 v3 p3 e3 f3 q3 g5 (nI n) (nI (sp_lc n L)) L yab949 yen950 ylf951 ybl952 ytr953 (nI n) (nI r) ymt954 (bs_i yp948) (gf_T n L) yyb956 yyn957 yyf958 yyl959 yyr960 (nI n) (nI x) yym961 (bs_i ys955) ybo963 (bs_i yw962) (nI 1) (nI n) ey ex (bs_i zk92) zrc82 zeg83 L zso84 zwi85 zew86 zlo87 zen88 zle89 zpi90 you964) H := hP
        have hD : va_D A (la_ws cJ cI h0 h1 n1 a1 e1 l1 b1 t1 h2 n2 a2 e2 l2 b2 t2 h4 c4 h3 k3 o3 w3 v3 p3 e3 f3 q3 g5 (nI n) (nI (sp_lc n L)) L yab949 yen950 ylf951 ybl952 ytr953 (nI n) (nI r) ymt954 (bs_i yp948) (gf_T n L) yyb956 yyn957 yyf958 yyl959 yyr960 (nI n) (nI x) yym961 (bs_i ys955) ybo963 (bs_i yw962) (nI 1) (nI n) ey ex (bs_i zk92) zrc82 zeg83 L zso84 zwi85 zew86 zlo87 zen88 zle89 zpi90 you964) := hD
        refine lv_istore (lv' := [(6, .int r80), (5, .int (nI 1)), (0, .ref b), (1, .ref h0), (2, .ref h3), (3, .ref g5), (4, .int (nI i))]) hx hb d_L_law_570 hl (by decide) rfl (fun ls hl => ?_)
        refine lv_aload_n hx hb d_L_law_572 rfl (lv_at hl 4 rfl) ?_
        have hPc := (la_M hP hD hS hA).1
        refine vp_callSi (va_Run.run (va_runV (C := "FlowNestModel") (b := h3) (As := []) (rest := []) ⟨hx, hb, hml, hown, hts⟩ (c_M_thrown l dC dI cJ cI h3 k3 o3 w3 v3 p3 e3 f3 q3 (nI 1) (nI n) ey ex (bs_i zk92) zrc82 zeg83 L zso84 zwi85 zew86 zlo87 zen88 zle89 zpi90) (cwV 0 hts (nm_gV nm_460 nm_461 nm_462 nm_4 nm_c_M_thrown) rfl rfl rfl (by decide +kernel) ⟨Nat.le_of_ble_eq_true rfl, Nat.le_of_ble_eq_true rfl⟩) ⟨cw_blind, va_recv hK hPc (ci := 3) rfl (q0 := 0) rfl, cw_pre hPc hK hNw⟩ rfl rfl hl.1 rfl (lv_room (Nat.le_of_ble_eq_true rfl)) d_L_law_573 ⟨rm_c (by omega), rm_s (by omega)⟩)) (fun r93 hr94 => ?_)
        clear hPc
        subst hr94
        refine lv_iload hx hb d_L_law_576 (lv_at hl 1 rfl) ?_
        refine wl_ieq (tgt := 583) hx hb (by omega) (by omega) d_L_law_578 (by decide) (fun hc578 => ?_) (fun hc578 => ?_)
        · refine lv_iload hx hb d_L_law_583 (lv_at hl 1 rfl) ?_
          refine wl_ifnen (tgt := 607) hx hb (by omega) d_L_law_585 (by decide) (fun hc585 => ?_) (fun hc585 => ?_)
          · refine lv_goto (tgt := 1239) hx hb d_L_law_607 (by decide) ?_
            refine W.widen (k := cells + 2) (n := slots + 12) (by omega) (by omega) ?_
            exact back _ _ _ ⟨n, r, x, L, nI (sp_lc n L), gf_T n L, yp948, ys955, yw962, yab949, yen950, ylf951, ybl952, ytr953, ymt954, yyb956, yyn957, yyf958, yyl959, yyr960, yym961, ybo963, nI 1, ey, ex, zk92, zrc82, zeg83, zso84, zwi85, zew86, zlo87, zen88, zle89, zpi90, you964, hn, hL, hJ1, hJ2, hJ4, rfl, rfl, hz, hz0, hq2, hP, hD⟩ hS (lv_sub hl [2, 3, 4, 5, 6] rfl)
          · exact absurd hc585 (by decide)
        · exact absurd rfl hc578
set_option maxHeartbeats 4000000 in
set_option maxRecDepth 100000 in
theorem law_7 {p : Program} {l : Launch} {e : Env} {s : State} {m : MethodId} {below : List Frame} {meth : Method} {c : Code} {b Ln : Nat} {xs : Nat → Int32} {A : Nat → Prop} {Q : State → Prop} {dC : Nat → ClassId} {dI : Nat → Nat → Nat} {cJ cI : ClassId} {h0 h1 n1 a1 e1 l1 b1 t1 h2 n2 a2 e2 l2 b2 t2 h4 c4 h3 k3 o3 w3 v3 p3 e3 f3 q3 g5 sa sb : Nat} (C9 : lw_C p l s m c b Ln xs A dC dI cJ cI sa sb) {cells slots i : Nat} (hi : i + 4 ≤ Ln) (hc9 : cells + 2 ≤ 1053) (hs9 : slots + 12 ≤ 9256) (back : ∀ (H : Heap) (locs : List Loc) (ls : Array Slot), lw_J A dC dI cJ cI h0 h1 n1 a1 e1 l1 b1 t1 h2 n2 a2 e2 l2 b2 t2 h4 c4 h3 k3 o3 w3 v3 p3 e3 f3 q3 g5 H → va_S A s.heap H locs → lv_has ls 8 [(0, .ref b), (1, .ref h0), (2, .ref h3), (3, .ref g5), (4, .int (nI i))] → W p l e room_1 s m #[Value.ref b] below meth c H locs (cells + 2) (slots + 12) Q (F0 m 1239 ls [])) {H : Heap} {locs : List Loc} {ls : Array Slot} (hJ : lw_J A dC dI cJ cI h0 h1 n1 a1 e1 l1 b1 t1 h2 n2 a2 e2 l2 b2 t2 h4 c4 h3 k3 o3 w3 v3 p3 e3 f3 q3 g5 H) (hS : va_S A s.heap H locs) (hl : lv_has ls 8 [(0, .ref b), (1, .ref h0), (2, .ref h3), (3, .ref g5), (4, .int (nI i))]) : W p l e room_1 s m #[Value.ref b] below meth c H locs cells slots Q (F0 m 666 ls []) := by
  obtain ⟨hx, hb, hml, hown, hts, hNw, hK, hX0, hA1, hl9, hscr, hbl, hLn⟩ := C9
  have hA : ∀ q : Nat, s.heap.size ≤ q → A q := fun q h => (hA1 q).mpr h
  have hbA : ¬ A b := fun z => absurd ((hA1 b).mp z) (by omega)
  obtain ⟨n, r, x, L, fc, M, q1, q2, q4, ab, en, lf, bl, tr, mt, ab2, en2, lf2, bl2, tr2, mt2, bo, cd, ey, ex, q, rc, eg, so, wi, ew, lo, men, le, pi, ou, hn, hL, hI1, hI2, hI4, hfc, hM, hz, hz0, hq, hP, hD⟩ := hJ
  subst hfc
  subst hM
  have hP : va_P (dC, dI) vwCl (la_ws cJ cI h0 h1 n1 a1 e1 l1 b1 t1 h2 n2 a2 e2 l2 b2 t2 h4 c4 h3 k3 o3 w3 v3 p3 e3 f3 q3 g5 (nI n) (nI (sp_lc n L)) L ab en lf bl tr (nI n) (nI r) mt (bs_i q1) (gf_T n L) ab2 en2 lf2 bl2 tr2 (nI n) (nI x) mt2 (bs_i q2) bo (bs_i q4) cd (nI n) ey ex (bs_i q) rc eg L so wi ew lo men le pi ou) H := hP
  have hD : va_D A (la_ws cJ cI h0 h1 n1 a1 e1 l1 b1 t1 h2 n2 a2 e2 l2 b2 t2 h4 c4 h3 k3 o3 w3 v3 p3 e3 f3 q3 g5 (nI n) (nI (sp_lc n L)) L ab en lf bl tr (nI n) (nI r) mt (bs_i q1) (gf_T n L) ab2 en2 lf2 bl2 tr2 (nI n) (nI x) mt2 (bs_i q2) bo (bs_i q4) cd (nI n) ey ex (bs_i q) rc eg L so wi ew lo men le pi ou) := hD
  refine lv_aload_n hx hb d_L_law_666 rfl (lv_at hl 1 rfl) ?_
  refine lv_aload_n hx hb d_L_law_667 rfl (lv_at hl 0 rfl) ?_
  refine lv_iload hx hb d_L_law_668 (lv_at hl 4 rfl) ?_
  refine lv_iconst (v := nI 1) hx hb d_L_law_670 (by decide) ?_
  refine wl_iaddn hx hb d_L_law_671 ?_
  refine wl_sld hx hb hscr hbl hbA hS (i := (i + 1)) (by omega) hLn d_L_law_672 ?_
  refine lv_aload_n hx hb d_L_law_673 rfl (lv_at hl 3 rfl) ?_
  obtain ⟨hPc, hDc, hFc⟩ := la_L hP hD hS hA
  have hX := tx_kept hX0 hS.1 (fun q hq9 => hS.2.1 q hq9 (fun z => absurd ((hA1 q).mp z) (by omega)))
  refine va_calli (vx_runSW (As := [.ref h0, .int (xs (i + 1)), .ref g5]) (rest := []) ⟨hx, hb, hml, hown, hts⟩ (c_L_frontier l hl9 dC dI cJ cI h0 h1 n1 a1 e1 l1 b1 t1 h2 n2 a2 e2 l2 b2 t2 h4 c4 g5 H.size sa sb ab en lf bl tr mt ab2 en2 lf2 bl2 tr2 mt2 bo ou n r x L q1 q2 q4 (xs (i + 1)) hn hL hI1 hI2 hI4) (vx_cwSW 3 hts (nm_gS nm_349 nm_350 nm_0 nm_c_L_frontier) rfl rfl rfl (by decide +kernel) ⟨Nat.le_of_ble_eq_true rfl, Nat.le_of_ble_eq_true rfl⟩) ⟨cw_blindT, cw_preT hPc hDc hK hNw hX⟩ rfl rfl hl.1 rfl (lv_room (Nat.le_of_ble_eq_true rfl)) d_L_law_674 ⟨rm_c (by omega), rm_s (by omega)⟩) hS (fun q _ h => hFc q h) hFc (fun r1 u9 t H1 locs ht hvm hw hB hz1 hk1 hS => ?_)
  obtain ⟨yp91, yab92, yen93, ylf94, ybl95, ytr96, ymt97, ys98, yyb99, yyn910, yyf911, yyl912, yyr913, yym914, yw915, ybo916, you917⟩ := u9
  obtain ⟨hP1, hD1⟩ := hB
  rw [ht] at hP1
  obtain ⟨hP, hD⟩ := la_jL hP hD hk1 hFc hP1 hD1
  clear hPc hDc hFc hX hP1 hD1 hk1 hz1 ht
  generalize H1 = H at hP hS ⊢
  obtain ⟨⟨hJ1, hJ2, hJ4⟩, hw⟩ := hw
  rcases hw with ⟨hr1, k, hk_k, hk_v, hou⟩ | ⟨hr1, hval⟩
  · replace hr1 := hr1.symm
    subst hr1
    have hval : ∃ k, k < n ∧ xs (i + 1) = nI k := ⟨k, hk_k, hk_v⟩
    refine lv_istore (lv' := [(5, .int (nI 0)), (0, .ref b), (1, .ref h0), (2, .ref h3), (3, .ref g5), (4, .int (nI i))]) hx hb d_L_law_677 hl (by decide) rfl (fun ls hl => ?_)
    refine lv_aload_n hx hb d_L_law_679 rfl (lv_at hl 3 rfl) ?_
    refine lv_aload_n hx hb d_L_law_680 rfl (lv_at hl 1 rfl) ?_
    refine lv_iload hx hb d_L_law_681 (lv_at hl 5 rfl) ?_
    refine lv_iconst (v := nI 1) hx hb d_L_law_683 (by decide) ?_
    refine wl_iaddn hx hb d_L_law_684 ?_
    refine wl_sld hx hb hscr hbl hbA hS (i := (i + 1)) (by omega) hLn d_L_law_685 ?_
    obtain ⟨hPc, hDc, hFc⟩ := la_M hP hD hS hA
    refine va_calll (va_runV (C := "FlowNestModel") (b := h3) (As := [.int (xs (i + 1))]) (rest := []) ⟨hx, hb, hml, hown, hts⟩ (c_M_frontier l dC dI cJ cI h3 k3 o3 w3 v3 p3 e3 f3 q3 H.size cd ey ex rc eg L so wi ew lo men le pi n r x q (xs (i + 1)) hn hz hL hq) (cwV 1 hts (nm_gV nm_532 nm_533 nm_534 nm_4 nm_c_M_frontier) rfl rfl rfl (by decide +kernel) ⟨Nat.le_of_ble_eq_true rfl, Nat.le_of_ble_eq_true rfl⟩) ⟨cw_blindM, va_recv hK hPc (ci := 3) rfl (q0 := 0) rfl, cw_preM hPc hDc hK hNw⟩ rfl rfl hl.1 rfl (lv_room (Nat.le_of_ble_eq_true rfl)) d_L_law_686 ⟨rm_c (by omega), rm_s (by omega)⟩) hS (fun q _ h => hFc q h) hFc (fun r18 u9 t H1 locs ht hvm hw19 hB hz1 hk1 hS => ?_)
    obtain ⟨zrc20, zeg21, zso22, zwi23, zew24, zlo25, zen26, zle27, zpi28, zb29, zk30⟩ := u9
    obtain ⟨hP1, hD1⟩ := hB
    rw [ht] at hP1
    obtain ⟨hP, hD⟩ := la_jM hP hD hk1 hFc hP1 hD1
    clear hPc hDc hFc hP1 hD1 hk1 hz1 ht
    generalize H1 = H at hP hS ⊢
    obtain ⟨hv2, hq2, ha2⟩ := hw19
    have hzb : zb29 = true := hv2.mpr hval
    replace hzb := hzb.symm
    subst hzb
    have hP : va_P (dC, dI) vwCl (la_ws cJ cI h0 h1 n1 a1 e1 l1 b1 t1 h2 n2 a2 e2 l2 b2 t2 h4 c4 h3 k3 o3 w3 v3 p3 e3 f3 q3 g5 (nI n) (nI (sp_lc n L)) L yab92 yen93 ylf94 ybl95 ytr96 (nI n) (nI r) ymt97 (bs_i yp91) (gf_T n L) yyb99 yyn910 yyf911 yyl912 yyr913 (nI n) (nI x) yym914 (bs_i ys98) ybo916 (bs_i yw915) (nI 0) (nI n) ey ex (bs_i zk30) zrc20 zeg21 L zso22 zwi23 zew24 zlo25 zen26 zle27 zpi28 you917) H := hP
    have hD : va_D A (la_ws cJ cI h0 h1 n1 a1 e1 l1 b1 t1 h2 n2 a2 e2 l2 b2 t2 h4 c4 h3 k3 o3 w3 v3 p3 e3 f3 q3 g5 (nI n) (nI (sp_lc n L)) L yab92 yen93 ylf94 ybl95 ytr96 (nI n) (nI r) ymt97 (bs_i yp91) (gf_T n L) yyb99 yyn910 yyf911 yyl912 yyr913 (nI n) (nI x) yym914 (bs_i ys98) ybo916 (bs_i yw915) (nI 0) (nI n) ey ex (bs_i zk30) zrc20 zeg21 L zso22 zwi23 zew24 zlo25 zen26 zle27 zpi28 you917) := hD
    obtain ⟨k2, hk2, hv3, ha3⟩ := ha2 rfl
    have ek := nI_i (by omega) (by omega) (hk_v.symm.trans hv3)
    subst ek
    refine lv_lstore (lv' := [(6, .long r18), (5, .int (nI 0)), (0, .ref b), (1, .ref h0), (2, .ref h3), (3, .ref g5), (4, .int (nI i))]) hx hb d_L_law_689 hl (by decide) rfl (fun ls hl => ?_)
    refine lv_aload_n hx hb d_L_law_691 rfl (lv_at hl 4 rfl) ?_
    have hPc := (la_M hP hD hS hA).1
    refine vp_callSi (va_Run.run (va_runV (C := "FlowNestModel") (b := h3) (As := []) (rest := []) ⟨hx, hb, hml, hown, hts⟩ (c_M_thrown l dC dI cJ cI h3 k3 o3 w3 v3 p3 e3 f3 q3 (nI 0) (nI n) ey ex (bs_i zk30) zrc20 zeg21 L zso22 zwi23 zew24 zlo25 zen26 zle27 zpi28) (cwV 0 hts (nm_gV nm_460 nm_461 nm_462 nm_4 nm_c_M_thrown) rfl rfl rfl (by decide +kernel) ⟨Nat.le_of_ble_eq_true rfl, Nat.le_of_ble_eq_true rfl⟩) ⟨cw_blind, va_recv hK hPc (ci := 3) rfl (q0 := 0) rfl, cw_pre hPc hK hNw⟩ rfl rfl hl.1 rfl (lv_room (Nat.le_of_ble_eq_true rfl)) d_L_law_692 ⟨rm_c (by omega), rm_s (by omega)⟩)) (fun r31 hr32 => ?_)
    clear hPc
    subst hr32
    refine lv_iload hx hb d_L_law_695 (lv_at hl 1 rfl) ?_
    refine wl_ieq (tgt := 702) hx hb (by omega) (by omega) d_L_law_697 (by decide) (fun hc697 => ?_) (fun hc697 => ?_)
    · refine lv_iload hx hb d_L_law_702 (lv_at hl 1 rfl) ?_
      refine wl_ifnen (tgt := 718) hx hb (by omega) d_L_law_704 (by decide) (fun hc704 => ?_) (fun hc704 => ?_)
      · exact absurd hc704 (by decide)
      · refine lv_aload_n hx hb d_L_law_707 rfl (lv_at hl 5 rfl) ?_
        refine lv_iconst (v := nI 0) hx hb d_L_law_708 (by decide) ?_
        refine wl_lald (i := 0) hx hb hK hP 26 0 rfl rfl (by omega) (by decide) d_L_law_709 ?_
        refine lv_lload hx hb d_L_law_710 (lv_at hl 0 rfl) ?_
        refine wl_lcmpeq (tgt := 718) hx hb d_L_law_712 d_L_law_713 (by decide) (fun hc712 => ?_) (fun hc712 => ?_)
        · refine lv_goto (tgt := 1239) hx hb d_L_law_718 (by decide) ?_
          refine W.widen (k := cells + 2) (n := slots + 12) (by omega) (by omega) ?_
          exact back _ _ _ ⟨n, r, x, L, nI (sp_lc n L), gf_T n L, yp91, ys98, yw915, yab92, yen93, ylf94, ybl95, ytr96, ymt97, yyb99, yyn910, yyf911, yyl912, yyr913, yym914, ybo916, nI 0, ey, ex, zk30, zrc20, zeg21, zso22, zwi23, zew24, zlo25, zen26, zle27, zpi28, you917, hn, hL, hJ1, hJ2, hJ4, rfl, rfl, hz, hz0, hq2, hP, hD⟩ hS (lv_sub hl [2, 3, 4, 5, 6] rfl)
        · exact absurd (hou.trans ha3.symm) hc712
    · exact absurd rfl hc697
  · replace hr1 := hr1.symm
    subst hr1
    refine lv_istore (lv' := [(5, .int (nI 1)), (0, .ref b), (1, .ref h0), (2, .ref h3), (3, .ref g5), (4, .int (nI i))]) hx hb d_L_law_677 hl (by decide) rfl (fun ls hl => ?_)
    refine lv_aload_n hx hb d_L_law_679 rfl (lv_at hl 3 rfl) ?_
    refine lv_aload_n hx hb d_L_law_680 rfl (lv_at hl 1 rfl) ?_
    refine lv_iload hx hb d_L_law_681 (lv_at hl 5 rfl) ?_
    refine lv_iconst (v := nI 1) hx hb d_L_law_683 (by decide) ?_
    refine wl_iaddn hx hb d_L_law_684 ?_
    refine wl_sld hx hb hscr hbl hbA hS (i := (i + 1)) (by omega) hLn d_L_law_685 ?_
    obtain ⟨hPc, hDc, hFc⟩ := la_M hP hD hS hA
    refine va_calll (va_runV (C := "FlowNestModel") (b := h3) (As := [.int (xs (i + 1))]) (rest := []) ⟨hx, hb, hml, hown, hts⟩ (c_M_frontier l dC dI cJ cI h3 k3 o3 w3 v3 p3 e3 f3 q3 H.size cd ey ex rc eg L so wi ew lo men le pi n r x q (xs (i + 1)) hn hz hL hq) (cwV 1 hts (nm_gV nm_532 nm_533 nm_534 nm_4 nm_c_M_frontier) rfl rfl rfl (by decide +kernel) ⟨Nat.le_of_ble_eq_true rfl, Nat.le_of_ble_eq_true rfl⟩) ⟨cw_blindM, va_recv hK hPc (ci := 3) rfl (q0 := 0) rfl, cw_preM hPc hDc hK hNw⟩ rfl rfl hl.1 rfl (lv_room (Nat.le_of_ble_eq_true rfl)) d_L_law_686 ⟨rm_c (by omega), rm_s (by omega)⟩) hS (fun q _ h => hFc q h) hFc (fun r33 u9 t H1 locs ht hvm hw34 hB hz1 hk1 hS => ?_)
    obtain ⟨zrc35, zeg36, zso37, zwi38, zew39, zlo40, zen41, zle42, zpi43, zb44, zk45⟩ := u9
    obtain ⟨hP1, hD1⟩ := hB
    rw [ht] at hP1
    obtain ⟨hP, hD⟩ := la_jM hP hD hk1 hFc hP1 hD1
    clear hPc hDc hFc hP1 hD1 hk1 hz1 ht
    generalize H1 = H at hP hS ⊢
    obtain ⟨hv2, hq2, ha2⟩ := hw34
    have hzb : zb44 = false := Bool.eq_false_iff.mpr (fun z => hval (hv2.mp z))
    replace hzb := hzb.symm
    subst hzb
    have hP : va_P (dC, dI) vwCl (la_ws cJ cI h0 h1 n1 a1 e1 l1 b1 t1 h2 n2 a2 e2 l2 b2 t2 h4 c4 h3 k3 o3 w3 v3 p3 e3 f3 q3 g5 (nI n) (nI (sp_lc n L)) L yab92 yen93 ylf94 ybl95 ytr96 (nI n) (nI r) ymt97 (bs_i yp91) (gf_T n L) yyb99 yyn910 yyf911 yyl912 yyr913 (nI n) (nI x) yym914 (bs_i ys98) ybo916 (bs_i yw915) (nI 1) (nI n) ey ex (bs_i zk45) zrc35 zeg36 L zso37 zwi38 zew39 zlo40 zen41 zle42 zpi43 you917) H := hP
    have hD : va_D A (la_ws cJ cI h0 h1 n1 a1 e1 l1 b1 t1 h2 n2 a2 e2 l2 b2 t2 h4 c4 h3 k3 o3 w3 v3 p3 e3 f3 q3 g5 (nI n) (nI (sp_lc n L)) L yab92 yen93 ylf94 ybl95 ytr96 (nI n) (nI r) ymt97 (bs_i yp91) (gf_T n L) yyb99 yyn910 yyf911 yyl912 yyr913 (nI n) (nI x) yym914 (bs_i ys98) ybo916 (bs_i yw915) (nI 1) (nI n) ey ex (bs_i zk45) zrc35 zeg36 L zso37 zwi38 zew39 zlo40 zen41 zle42 zpi43 you917) := hD
    refine lv_lstore (lv' := [(6, .long r33), (5, .int (nI 1)), (0, .ref b), (1, .ref h0), (2, .ref h3), (3, .ref g5), (4, .int (nI i))]) hx hb d_L_law_689 hl (by decide) rfl (fun ls hl => ?_)
    refine lv_aload_n hx hb d_L_law_691 rfl (lv_at hl 4 rfl) ?_
    have hPc := (la_M hP hD hS hA).1
    refine vp_callSi (va_Run.run (va_runV (C := "FlowNestModel") (b := h3) (As := []) (rest := []) ⟨hx, hb, hml, hown, hts⟩ (c_M_thrown l dC dI cJ cI h3 k3 o3 w3 v3 p3 e3 f3 q3 (nI 1) (nI n) ey ex (bs_i zk45) zrc35 zeg36 L zso37 zwi38 zew39 zlo40 zen41 zle42 zpi43) (cwV 0 hts (nm_gV nm_460 nm_461 nm_462 nm_4 nm_c_M_thrown) rfl rfl rfl (by decide +kernel) ⟨Nat.le_of_ble_eq_true rfl, Nat.le_of_ble_eq_true rfl⟩) ⟨cw_blind, va_recv hK hPc (ci := 3) rfl (q0 := 0) rfl, cw_pre hPc hK hNw⟩ rfl rfl hl.1 rfl (lv_room (Nat.le_of_ble_eq_true rfl)) d_L_law_692 ⟨rm_c (by omega), rm_s (by omega)⟩)) (fun r46 hr47 => ?_)
    clear hPc
    subst hr47
    refine lv_iload hx hb d_L_law_695 (lv_at hl 1 rfl) ?_
    refine wl_ieq (tgt := 702) hx hb (by omega) (by omega) d_L_law_697 (by decide) (fun hc697 => ?_) (fun hc697 => ?_)
    · refine lv_iload hx hb d_L_law_702 (lv_at hl 1 rfl) ?_
      refine wl_ifnen (tgt := 718) hx hb (by omega) d_L_law_704 (by decide) (fun hc704 => ?_) (fun hc704 => ?_)
      · refine lv_goto (tgt := 1239) hx hb d_L_law_718 (by decide) ?_
        refine W.widen (k := cells + 2) (n := slots + 12) (by omega) (by omega) ?_
        exact back _ _ _ ⟨n, r, x, L, nI (sp_lc n L), gf_T n L, yp91, ys98, yw915, yab92, yen93, ylf94, ybl95, ytr96, ymt97, yyb99, yyn910, yyf911, yyl912, yyr913, yym914, ybo916, nI 1, ey, ex, zk45, zrc35, zeg36, zso37, zwi38, zew39, zlo40, zen41, zle42, zpi43, you917, hn, hL, hJ1, hJ2, hJ4, rfl, rfl, hz, hz0, hq2, hP, hD⟩ hS (lv_sub hl [2, 3, 4, 5, 6] rfl)
      · exact absurd hc704 (by decide)
    · exact absurd rfl hc697
set_option maxHeartbeats 4000000 in
set_option maxRecDepth 100000 in
theorem law_9 {p : Program} {l : Launch} {e : Env} {s : State} {m : MethodId} {below : List Frame} {meth : Method} {c : Code} {b Ln : Nat} {xs : Nat → Int32} {A : Nat → Prop} {Q : State → Prop} {dC : Nat → ClassId} {dI : Nat → Nat → Nat} {cJ cI : ClassId} {h0 h1 n1 a1 e1 l1 b1 t1 h2 n2 a2 e2 l2 b2 t2 h4 c4 h3 k3 o3 w3 v3 p3 e3 f3 q3 g5 sa sb : Nat} (C9 : lw_C p l s m c b Ln xs A dC dI cJ cI sa sb) {cells slots i : Nat} (hi : i + 4 ≤ Ln) (hc9 : cells + 2 ≤ 1053) (hs9 : slots + 12 ≤ 9256) (back : ∀ (H : Heap) (locs : List Loc) (ls : Array Slot), lw_J A dC dI cJ cI h0 h1 n1 a1 e1 l1 b1 t1 h2 n2 a2 e2 l2 b2 t2 h4 c4 h3 k3 o3 w3 v3 p3 e3 f3 q3 g5 H → va_S A s.heap H locs → lv_has ls 8 [(0, .ref b), (1, .ref h0), (2, .ref h3), (3, .ref g5), (4, .int (nI i))] → W p l e room_1 s m #[Value.ref b] below meth c H locs (cells + 2) (slots + 12) Q (F0 m 1239 ls [])) {H : Heap} {locs : List Loc} {ls : Array Slot} (hJ : lw_J A dC dI cJ cI h0 h1 n1 a1 e1 l1 b1 t1 h2 n2 a2 e2 l2 b2 t2 h4 c4 h3 k3 o3 w3 v3 p3 e3 f3 q3 g5 H) (hS : va_S A s.heap H locs) (hl : lv_has ls 8 [(0, .ref b), (1, .ref h0), (2, .ref h3), (3, .ref g5), (4, .int (nI i))]) : W p l e room_1 s m #[Value.ref b] below meth c H locs cells slots Q (F0 m 779 ls []) := by
  obtain ⟨hx, hb, hml, hown, hts, hNw, hK, hX0, hA1, hl9, hscr, hbl, hLn⟩ := C9
  have hA : ∀ q : Nat, s.heap.size ≤ q → A q := fun q h => (hA1 q).mpr h
  have hbA : ¬ A b := fun z => absurd ((hA1 b).mp z) (by omega)
  obtain ⟨n, r, x, L, fc, M, q1, q2, q4, ab, en, lf, bl, tr, mt, ab2, en2, lf2, bl2, tr2, mt2, bo, cd, ey, ex, q, rc, eg, so, wi, ew, lo, men, le, pi, ou, hn, hL, hI1, hI2, hI4, hfc, hM, hz, hz0, hq, hP, hD⟩ := hJ
  subst hfc
  subst hM
  have hP : va_P (dC, dI) vwCl (la_ws cJ cI h0 h1 n1 a1 e1 l1 b1 t1 h2 n2 a2 e2 l2 b2 t2 h4 c4 h3 k3 o3 w3 v3 p3 e3 f3 q3 g5 (nI n) (nI (sp_lc n L)) L ab en lf bl tr (nI n) (nI r) mt (bs_i q1) (gf_T n L) ab2 en2 lf2 bl2 tr2 (nI n) (nI x) mt2 (bs_i q2) bo (bs_i q4) cd (nI n) ey ex (bs_i q) rc eg L so wi ew lo men le pi ou) H := hP
  have hD : va_D A (la_ws cJ cI h0 h1 n1 a1 e1 l1 b1 t1 h2 n2 a2 e2 l2 b2 t2 h4 c4 h3 k3 o3 w3 v3 p3 e3 f3 q3 g5 (nI n) (nI (sp_lc n L)) L ab en lf bl tr (nI n) (nI r) mt (bs_i q1) (gf_T n L) ab2 en2 lf2 bl2 tr2 (nI n) (nI x) mt2 (bs_i q2) bo (bs_i q4) cd (nI n) ey ex (bs_i q) rc eg L so wi ew lo men le pi ou) := hD
  refine lv_aload_n hx hb d_L_law_779 rfl (lv_at hl 1 rfl) ?_
  refine lv_aload_n hx hb d_L_law_780 rfl (lv_at hl 0 rfl) ?_
  refine lv_iload hx hb d_L_law_781 (lv_at hl 4 rfl) ?_
  refine lv_iconst (v := nI 1) hx hb d_L_law_783 (by decide) ?_
  refine wl_iaddn hx hb d_L_law_784 ?_
  refine wl_sld hx hb hscr hbl hbA hS (i := (i + 1)) (by omega) hLn d_L_law_785 ?_
  refine lv_aload_n hx hb d_L_law_786 rfl (lv_at hl 3 rfl) ?_
  obtain ⟨hPc, hDc, hFc⟩ := la_L hP hD hS hA
  have hX := tx_kept hX0 hS.1 (fun q hq9 => hS.2.1 q hq9 (fun z => absurd ((hA1 q).mp z) (by omega)))
  refine va_calli (vx_runSW (As := [.ref h0, .int (xs (i + 1)), .ref g5]) (rest := []) ⟨hx, hb, hml, hown, hts⟩ (c_L_controls l hl9 dC dI cJ cI h0 h1 n1 a1 e1 l1 b1 t1 h2 n2 a2 e2 l2 b2 t2 h4 c4 g5 H.size sa sb ab en lf bl tr mt ab2 en2 lf2 bl2 tr2 mt2 bo ou n r x L q1 q2 q4 (xs (i + 1)) hn hL hI1 hI2 hI4) (vx_cwSW 3 hts (nm_gS nm_357 nm_358 nm_0 nm_c_L_controls) rfl rfl rfl (by decide +kernel) ⟨Nat.le_of_ble_eq_true rfl, Nat.le_of_ble_eq_true rfl⟩) ⟨cw_blindT, cw_preT hPc hDc hK hNw hX⟩ rfl rfl hl.1 rfl (lv_room (Nat.le_of_ble_eq_true rfl)) d_L_law_787 ⟨rm_c (by omega), rm_s (by omega)⟩) hS (fun q _ h => hFc q h) hFc (fun r1 u9 t H1 locs ht hvm hw hB hz1 hk1 hS => ?_)
  obtain ⟨yp91, yab92, yen93, ylf94, ybl95, ytr96, ymt97, ys98, yyb99, yyn910, yyf911, yyl912, yyr913, yym914, yw915, ybo916, you917⟩ := u9
  obtain ⟨hP1, hD1⟩ := hB
  rw [ht] at hP1
  obtain ⟨hP, hD⟩ := la_jL hP hD hk1 hFc hP1 hD1
  clear hPc hDc hFc hX hP1 hD1 hk1 hz1 ht
  generalize H1 = H at hP hS ⊢
  obtain ⟨⟨hJ1, hJ2, hJ4⟩, hw⟩ := hw
  rcases hw with ⟨hr1, k, hk_k, hk_v, hou⟩ | ⟨hr1, hval⟩
  · replace hr1 := hr1.symm
    subst hr1
    have hval : ∃ k, k < n ∧ xs (i + 1) = nI k := ⟨k, hk_k, hk_v⟩
    refine lv_istore (lv' := [(5, .int (nI 0)), (0, .ref b), (1, .ref h0), (2, .ref h3), (3, .ref g5), (4, .int (nI i))]) hx hb d_L_law_790 hl (by decide) rfl (fun ls hl => ?_)
    refine lv_aload_n hx hb d_L_law_792 rfl (lv_at hl 3 rfl) ?_
    refine lv_aload_n hx hb d_L_law_793 rfl (lv_at hl 1 rfl) ?_
    refine lv_iload hx hb d_L_law_794 (lv_at hl 5 rfl) ?_
    refine lv_iconst (v := nI 1) hx hb d_L_law_796 (by decide) ?_
    refine wl_iaddn hx hb d_L_law_797 ?_
    refine wl_sld hx hb hscr hbl hbA hS (i := (i + 1)) (by omega) hLn d_L_law_798 ?_
    obtain ⟨hPc, hDc, hFc⟩ := la_M hP hD hS hA
    refine va_calll (va_runV (C := "FlowNestModel") (b := h3) (As := [.int (xs (i + 1))]) (rest := []) ⟨hx, hb, hml, hown, hts⟩ (c_M_controls l dC dI cJ cI h3 k3 o3 w3 v3 p3 e3 f3 q3 H.size cd ey ex rc eg L so wi ew lo men le pi n r x q (xs (i + 1)) hn hz hL hq) (cwV 1 hts (nm_gV nm_544 nm_545 nm_546 nm_4 nm_c_M_controls) rfl rfl rfl (by decide +kernel) ⟨Nat.le_of_ble_eq_true rfl, Nat.le_of_ble_eq_true rfl⟩) ⟨cw_blindM, va_recv hK hPc (ci := 3) rfl (q0 := 0) rfl, cw_preM hPc hDc hK hNw⟩ rfl rfl hl.1 rfl (lv_room (Nat.le_of_ble_eq_true rfl)) d_L_law_799 ⟨rm_c (by omega), rm_s (by omega)⟩) hS (fun q _ h => hFc q h) hFc (fun r18 u9 t H1 locs ht hvm hw19 hB hz1 hk1 hS => ?_)
    obtain ⟨zrc20, zeg21, zso22, zwi23, zew24, zlo25, zen26, zle27, zpi28, zb29, zk30⟩ := u9
    obtain ⟨hP1, hD1⟩ := hB
    rw [ht] at hP1
    obtain ⟨hP, hD⟩ := la_jM hP hD hk1 hFc hP1 hD1
    clear hPc hDc hFc hP1 hD1 hk1 hz1 ht
    generalize H1 = H at hP hS ⊢
    obtain ⟨hv2, hq2, ha2⟩ := hw19
    have hzb : zb29 = true := hv2.mpr hval
    replace hzb := hzb.symm
    subst hzb
    have hP : va_P (dC, dI) vwCl (la_ws cJ cI h0 h1 n1 a1 e1 l1 b1 t1 h2 n2 a2 e2 l2 b2 t2 h4 c4 h3 k3 o3 w3 v3 p3 e3 f3 q3 g5 (nI n) (nI (sp_lc n L)) L yab92 yen93 ylf94 ybl95 ytr96 (nI n) (nI r) ymt97 (bs_i yp91) (gf_T n L) yyb99 yyn910 yyf911 yyl912 yyr913 (nI n) (nI x) yym914 (bs_i ys98) ybo916 (bs_i yw915) (nI 0) (nI n) ey ex (bs_i zk30) zrc20 zeg21 L zso22 zwi23 zew24 zlo25 zen26 zle27 zpi28 you917) H := hP
    have hD : va_D A (la_ws cJ cI h0 h1 n1 a1 e1 l1 b1 t1 h2 n2 a2 e2 l2 b2 t2 h4 c4 h3 k3 o3 w3 v3 p3 e3 f3 q3 g5 (nI n) (nI (sp_lc n L)) L yab92 yen93 ylf94 ybl95 ytr96 (nI n) (nI r) ymt97 (bs_i yp91) (gf_T n L) yyb99 yyn910 yyf911 yyl912 yyr913 (nI n) (nI x) yym914 (bs_i ys98) ybo916 (bs_i yw915) (nI 0) (nI n) ey ex (bs_i zk30) zrc20 zeg21 L zso22 zwi23 zew24 zlo25 zen26 zle27 zpi28 you917) := hD
    obtain ⟨k2, hk2, hv3, ha3⟩ := ha2 rfl
    have ek := nI_i (by omega) (by omega) (hk_v.symm.trans hv3)
    subst ek
    refine lv_lstore (lv' := [(6, .long r18), (5, .int (nI 0)), (0, .ref b), (1, .ref h0), (2, .ref h3), (3, .ref g5), (4, .int (nI i))]) hx hb d_L_law_802 hl (by decide) rfl (fun ls hl => ?_)
    refine lv_aload_n hx hb d_L_law_804 rfl (lv_at hl 4 rfl) ?_
    have hPc := (la_M hP hD hS hA).1
    refine vp_callSi (va_Run.run (va_runV (C := "FlowNestModel") (b := h3) (As := []) (rest := []) ⟨hx, hb, hml, hown, hts⟩ (c_M_thrown l dC dI cJ cI h3 k3 o3 w3 v3 p3 e3 f3 q3 (nI 0) (nI n) ey ex (bs_i zk30) zrc20 zeg21 L zso22 zwi23 zew24 zlo25 zen26 zle27 zpi28) (cwV 0 hts (nm_gV nm_460 nm_461 nm_462 nm_4 nm_c_M_thrown) rfl rfl rfl (by decide +kernel) ⟨Nat.le_of_ble_eq_true rfl, Nat.le_of_ble_eq_true rfl⟩) ⟨cw_blind, va_recv hK hPc (ci := 3) rfl (q0 := 0) rfl, cw_pre hPc hK hNw⟩ rfl rfl hl.1 rfl (lv_room (Nat.le_of_ble_eq_true rfl)) d_L_law_805 ⟨rm_c (by omega), rm_s (by omega)⟩)) (fun r31 hr32 => ?_)
    clear hPc
    subst hr32
    refine lv_iload hx hb d_L_law_808 (lv_at hl 1 rfl) ?_
    refine wl_ieq (tgt := 815) hx hb (by omega) (by omega) d_L_law_810 (by decide) (fun hc810 => ?_) (fun hc810 => ?_)
    · refine lv_iload hx hb d_L_law_815 (lv_at hl 1 rfl) ?_
      refine wl_ifnen (tgt := 831) hx hb (by omega) d_L_law_817 (by decide) (fun hc817 => ?_) (fun hc817 => ?_)
      · exact absurd hc817 (by decide)
      · refine lv_aload_n hx hb d_L_law_820 rfl (lv_at hl 5 rfl) ?_
        refine lv_iconst (v := nI 0) hx hb d_L_law_821 (by decide) ?_
        refine wl_lald (i := 0) hx hb hK hP 26 0 rfl rfl (by omega) (by decide) d_L_law_822 ?_
        refine lv_lload hx hb d_L_law_823 (lv_at hl 0 rfl) ?_
        refine wl_lcmpeq (tgt := 831) hx hb d_L_law_825 d_L_law_826 (by decide) (fun hc825 => ?_) (fun hc825 => ?_)
        · refine lv_goto (tgt := 1239) hx hb d_L_law_831 (by decide) ?_
          refine W.widen (k := cells + 2) (n := slots + 12) (by omega) (by omega) ?_
          exact back _ _ _ ⟨n, r, x, L, nI (sp_lc n L), gf_T n L, yp91, ys98, yw915, yab92, yen93, ylf94, ybl95, ytr96, ymt97, yyb99, yyn910, yyf911, yyl912, yyr913, yym914, ybo916, nI 0, ey, ex, zk30, zrc20, zeg21, zso22, zwi23, zew24, zlo25, zen26, zle27, zpi28, you917, hn, hL, hJ1, hJ2, hJ4, rfl, rfl, hz, hz0, hq2, hP, hD⟩ hS (lv_sub hl [2, 3, 4, 5, 6] rfl)
        · exact absurd (hou.trans ha3.symm) hc825
    · exact absurd rfl hc810
  · replace hr1 := hr1.symm
    subst hr1
    refine lv_istore (lv' := [(5, .int (nI 1)), (0, .ref b), (1, .ref h0), (2, .ref h3), (3, .ref g5), (4, .int (nI i))]) hx hb d_L_law_790 hl (by decide) rfl (fun ls hl => ?_)
    refine lv_aload_n hx hb d_L_law_792 rfl (lv_at hl 3 rfl) ?_
    refine lv_aload_n hx hb d_L_law_793 rfl (lv_at hl 1 rfl) ?_
    refine lv_iload hx hb d_L_law_794 (lv_at hl 5 rfl) ?_
    refine lv_iconst (v := nI 1) hx hb d_L_law_796 (by decide) ?_
    refine wl_iaddn hx hb d_L_law_797 ?_
    refine wl_sld hx hb hscr hbl hbA hS (i := (i + 1)) (by omega) hLn d_L_law_798 ?_
    obtain ⟨hPc, hDc, hFc⟩ := la_M hP hD hS hA
    refine va_calll (va_runV (C := "FlowNestModel") (b := h3) (As := [.int (xs (i + 1))]) (rest := []) ⟨hx, hb, hml, hown, hts⟩ (c_M_controls l dC dI cJ cI h3 k3 o3 w3 v3 p3 e3 f3 q3 H.size cd ey ex rc eg L so wi ew lo men le pi n r x q (xs (i + 1)) hn hz hL hq) (cwV 1 hts (nm_gV nm_544 nm_545 nm_546 nm_4 nm_c_M_controls) rfl rfl rfl (by decide +kernel) ⟨Nat.le_of_ble_eq_true rfl, Nat.le_of_ble_eq_true rfl⟩) ⟨cw_blindM, va_recv hK hPc (ci := 3) rfl (q0 := 0) rfl, cw_preM hPc hDc hK hNw⟩ rfl rfl hl.1 rfl (lv_room (Nat.le_of_ble_eq_true rfl)) d_L_law_799 ⟨rm_c (by omega), rm_s (by omega)⟩) hS (fun q _ h => hFc q h) hFc (fun r33 u9 t H1 locs ht hvm hw34 hB hz1 hk1 hS => ?_)
    obtain ⟨zrc35, zeg36, zso37, zwi38, zew39, zlo40, zen41, zle42, zpi43, zb44, zk45⟩ := u9
    obtain ⟨hP1, hD1⟩ := hB
    rw [ht] at hP1
    obtain ⟨hP, hD⟩ := la_jM hP hD hk1 hFc hP1 hD1
    clear hPc hDc hFc hP1 hD1 hk1 hz1 ht
    generalize H1 = H at hP hS ⊢
    obtain ⟨hv2, hq2, ha2⟩ := hw34
    have hzb : zb44 = false := Bool.eq_false_iff.mpr (fun z => hval (hv2.mp z))
    replace hzb := hzb.symm
    subst hzb
    have hP : va_P (dC, dI) vwCl (la_ws cJ cI h0 h1 n1 a1 e1 l1 b1 t1 h2 n2 a2 e2 l2 b2 t2 h4 c4 h3 k3 o3 w3 v3 p3 e3 f3 q3 g5 (nI n) (nI (sp_lc n L)) L yab92 yen93 ylf94 ybl95 ytr96 (nI n) (nI r) ymt97 (bs_i yp91) (gf_T n L) yyb99 yyn910 yyf911 yyl912 yyr913 (nI n) (nI x) yym914 (bs_i ys98) ybo916 (bs_i yw915) (nI 1) (nI n) ey ex (bs_i zk45) zrc35 zeg36 L zso37 zwi38 zew39 zlo40 zen41 zle42 zpi43 you917) H := hP
    have hD : va_D A (la_ws cJ cI h0 h1 n1 a1 e1 l1 b1 t1 h2 n2 a2 e2 l2 b2 t2 h4 c4 h3 k3 o3 w3 v3 p3 e3 f3 q3 g5 (nI n) (nI (sp_lc n L)) L yab92 yen93 ylf94 ybl95 ytr96 (nI n) (nI r) ymt97 (bs_i yp91) (gf_T n L) yyb99 yyn910 yyf911 yyl912 yyr913 (nI n) (nI x) yym914 (bs_i ys98) ybo916 (bs_i yw915) (nI 1) (nI n) ey ex (bs_i zk45) zrc35 zeg36 L zso37 zwi38 zew39 zlo40 zen41 zle42 zpi43 you917) := hD
    refine lv_lstore (lv' := [(6, .long r33), (5, .int (nI 1)), (0, .ref b), (1, .ref h0), (2, .ref h3), (3, .ref g5), (4, .int (nI i))]) hx hb d_L_law_802 hl (by decide) rfl (fun ls hl => ?_)
    refine lv_aload_n hx hb d_L_law_804 rfl (lv_at hl 4 rfl) ?_
    have hPc := (la_M hP hD hS hA).1
    refine vp_callSi (va_Run.run (va_runV (C := "FlowNestModel") (b := h3) (As := []) (rest := []) ⟨hx, hb, hml, hown, hts⟩ (c_M_thrown l dC dI cJ cI h3 k3 o3 w3 v3 p3 e3 f3 q3 (nI 1) (nI n) ey ex (bs_i zk45) zrc35 zeg36 L zso37 zwi38 zew39 zlo40 zen41 zle42 zpi43) (cwV 0 hts (nm_gV nm_460 nm_461 nm_462 nm_4 nm_c_M_thrown) rfl rfl rfl (by decide +kernel) ⟨Nat.le_of_ble_eq_true rfl, Nat.le_of_ble_eq_true rfl⟩) ⟨cw_blind, va_recv hK hPc (ci := 3) rfl (q0 := 0) rfl, cw_pre hPc hK hNw⟩ rfl rfl hl.1 rfl (lv_room (Nat.le_of_ble_eq_true rfl)) d_L_law_805 ⟨rm_c (by omega), rm_s (by omega)⟩)) (fun r46 hr47 => ?_)
    clear hPc
    subst hr47
    refine lv_iload hx hb d_L_law_808 (lv_at hl 1 rfl) ?_
    refine wl_ieq (tgt := 815) hx hb (by omega) (by omega) d_L_law_810 (by decide) (fun hc810 => ?_) (fun hc810 => ?_)
    · refine lv_iload hx hb d_L_law_815 (lv_at hl 1 rfl) ?_
      refine wl_ifnen (tgt := 831) hx hb (by omega) d_L_law_817 (by decide) (fun hc817 => ?_) (fun hc817 => ?_)
      · refine lv_goto (tgt := 1239) hx hb d_L_law_831 (by decide) ?_
        refine W.widen (k := cells + 2) (n := slots + 12) (by omega) (by omega) ?_
        exact back _ _ _ ⟨n, r, x, L, nI (sp_lc n L), gf_T n L, yp91, ys98, yw915, yab92, yen93, ylf94, ybl95, ytr96, ymt97, yyb99, yyn910, yyf911, yyl912, yyr913, yym914, ybo916, nI 1, ey, ex, zk45, zrc35, zeg36, zso37, zwi38, zew39, zlo40, zen41, zle42, zpi43, you917, hn, hL, hJ1, hJ2, hJ4, rfl, rfl, hz, hz0, hq2, hP, hD⟩ hS (lv_sub hl [2, 3, 4, 5, 6] rfl)
      · exact absurd hc817 (by decide)
    · exact absurd rfl hc810
set_option maxHeartbeats 4000000 in
set_option maxRecDepth 100000 in
theorem law_10 {p : Program} {l : Launch} {e : Env} {s : State} {m : MethodId} {below : List Frame} {meth : Method} {c : Code} {b Ln : Nat} {xs : Nat → Int32} {A : Nat → Prop} {Q : State → Prop} {dC : Nat → ClassId} {dI : Nat → Nat → Nat} {cJ cI : ClassId} {h0 h1 n1 a1 e1 l1 b1 t1 h2 n2 a2 e2 l2 b2 t2 h4 c4 h3 k3 o3 w3 v3 p3 e3 f3 q3 g5 sa sb : Nat} (C9 : lw_C p l s m c b Ln xs A dC dI cJ cI sa sb) {cells slots i : Nat} (hi : i + 4 ≤ Ln) (hc9 : cells + 2 ≤ 1053) (hs9 : slots + 12 ≤ 9256) (back : ∀ (H : Heap) (locs : List Loc) (ls : Array Slot), lw_J A dC dI cJ cI h0 h1 n1 a1 e1 l1 b1 t1 h2 n2 a2 e2 l2 b2 t2 h4 c4 h3 k3 o3 w3 v3 p3 e3 f3 q3 g5 H → va_S A s.heap H locs → lv_has ls 8 [(0, .ref b), (1, .ref h0), (2, .ref h3), (3, .ref g5), (4, .int (nI i))] → W p l e room_1 s m #[Value.ref b] below meth c H locs (cells + 2) (slots + 12) Q (F0 m 1239 ls [])) {H : Heap} {locs : List Loc} {ls : Array Slot} (hJ : lw_J A dC dI cJ cI h0 h1 n1 a1 e1 l1 b1 t1 h2 n2 a2 e2 l2 b2 t2 h4 c4 h3 k3 o3 w3 v3 p3 e3 f3 q3 g5 H) (hS : va_S A s.heap H locs) (hl : lv_has ls 8 [(0, .ref b), (1, .ref h0), (2, .ref h3), (3, .ref g5), (4, .int (nI i))]) : W p l e room_1 s m #[Value.ref b] below meth c H locs cells slots Q (F0 m 834 ls []) := by
  obtain ⟨hx, hb, hml, hown, hts, hNw, hK, hX0, hA1, hl9, hscr, hbl, hLn⟩ := C9
  have hA : ∀ q : Nat, s.heap.size ≤ q → A q := fun q h => (hA1 q).mpr h
  have hbA : ¬ A b := fun z => absurd ((hA1 b).mp z) (by omega)
  obtain ⟨n, r, x, L, fc, M, q1, q2, q4, ab, en, lf, bl, tr, mt, ab2, en2, lf2, bl2, tr2, mt2, bo, cd, ey, ex, q, rc, eg, so, wi, ew, lo, men, le, pi, ou, hn, hL, hI1, hI2, hI4, hfc, hM, hz, hz0, hq, hP, hD⟩ := hJ
  subst hfc
  subst hM
  have hP : va_P (dC, dI) vwCl (la_ws cJ cI h0 h1 n1 a1 e1 l1 b1 t1 h2 n2 a2 e2 l2 b2 t2 h4 c4 h3 k3 o3 w3 v3 p3 e3 f3 q3 g5 (nI n) (nI (sp_lc n L)) L ab en lf bl tr (nI n) (nI r) mt (bs_i q1) (gf_T n L) ab2 en2 lf2 bl2 tr2 (nI n) (nI x) mt2 (bs_i q2) bo (bs_i q4) cd (nI n) ey ex (bs_i q) rc eg L so wi ew lo men le pi ou) H := hP
  have hD : va_D A (la_ws cJ cI h0 h1 n1 a1 e1 l1 b1 t1 h2 n2 a2 e2 l2 b2 t2 h4 c4 h3 k3 o3 w3 v3 p3 e3 f3 q3 g5 (nI n) (nI (sp_lc n L)) L ab en lf bl tr (nI n) (nI r) mt (bs_i q1) (gf_T n L) ab2 en2 lf2 bl2 tr2 (nI n) (nI x) mt2 (bs_i q2) bo (bs_i q4) cd (nI n) ey ex (bs_i q) rc eg L so wi ew lo men le pi ou) := hD
  refine lv_aload_n hx hb d_L_law_834 rfl (lv_at hl 1 rfl) ?_
  refine lv_aload_n hx hb d_L_law_835 rfl (lv_at hl 0 rfl) ?_
  refine lv_iload hx hb d_L_law_836 (lv_at hl 4 rfl) ?_
  refine lv_iconst (v := nI 1) hx hb d_L_law_838 (by decide) ?_
  refine wl_iaddn hx hb d_L_law_839 ?_
  refine wl_sld hx hb hscr hbl hbA hS (i := (i + 1)) (by omega) hLn d_L_law_840 ?_
  refine lv_aload_n hx hb d_L_law_841 rfl (lv_at hl 0 rfl) ?_
  refine lv_iload hx hb d_L_law_842 (lv_at hl 4 rfl) ?_
  refine lv_iconst (v := nI 2) hx hb d_L_law_844 (by decide) ?_
  refine wl_iaddn hx hb d_L_law_845 ?_
  refine wl_sld hx hb hscr hbl hbA hS (i := (i + 2)) (by omega) hLn d_L_law_846 ?_
  refine lv_aload_n hx hb d_L_law_847 rfl (lv_at hl 3 rfl) ?_
  obtain ⟨hPc, hDc, hFc⟩ := la_L hP hD hS hA
  have hX := tx_kept hX0 hS.1 (fun q hq9 => hS.2.1 q hq9 (fun z => absurd ((hA1 q).mp z) (by omega)))
  refine va_calli (vx_runSW (As := [.ref h0, .int (xs (i + 1)), .int (xs (i + 2)), .ref g5]) (rest := []) ⟨hx, hb, hml, hown, hts⟩ (c_L_isBack l hl9 dC dI cJ cI h0 h1 n1 a1 e1 l1 b1 t1 h2 n2 a2 e2 l2 b2 t2 h4 c4 g5 H.size sa sb ab en lf bl tr mt ab2 en2 lf2 bl2 tr2 mt2 bo ou n r x L q1 q2 q4 (xs (i + 1)) (xs (i + 2)) hn hL hI1 hI2 hI4) (vx_cwSW 4 hts (nm_gS nm_364 nm_365 nm_0 nm_c_L_isBack) rfl rfl rfl (by decide +kernel) ⟨Nat.le_of_ble_eq_true rfl, Nat.le_of_ble_eq_true rfl⟩) ⟨cw_blindT, cw_preT hPc hDc hK hNw hX⟩ rfl rfl hl.1 rfl (lv_room (Nat.le_of_ble_eq_true rfl)) d_L_law_848 ⟨rm_c (by omega), rm_s (by omega)⟩) hS (fun q _ h => hFc q h) hFc (fun r1 u9 t H1 locs ht hvm hw hB hz1 hk1 hS => ?_)
  obtain ⟨yp91, yab92, yen93, ylf94, ybl95, ytr96, ymt97, ys98, yyb99, yyn910, yyf911, yyl912, yyr913, yym914, yw915, ybo916, you917⟩ := u9
  obtain ⟨hP1, hD1⟩ := hB
  rw [ht] at hP1
  obtain ⟨hP, hD⟩ := la_jL hP hD hk1 hFc hP1 hD1
  clear hPc hDc hFc hX hP1 hD1 hk1 hz1 ht
  generalize H1 = H at hP hS ⊢
  obtain ⟨⟨hJ1, hJ2, hJ4⟩, hw⟩ := hw
  rcases hw with ⟨hr1, k, j, hk_k, hk_j, hk_v, hk_w, hou⟩ | ⟨hr1, hval⟩
  · replace hr1 := hr1.symm
    subst hr1
    have hval : (∃ k, k < n ∧ xs (i + 1) = nI k) ∧ ∃ j, j < n ∧ xs (i + 2) = nI j := ⟨⟨k, hk_k, hk_v⟩, j, hk_j, hk_w⟩
    refine lv_istore (lv' := [(5, .int (nI 0)), (0, .ref b), (1, .ref h0), (2, .ref h3), (3, .ref g5), (4, .int (nI i))]) hx hb d_L_law_851 hl (by decide) rfl (fun ls hl => ?_)
    refine lv_aload_n hx hb d_L_law_853 rfl (lv_at hl 3 rfl) ?_
    refine lv_aload_n hx hb d_L_law_854 rfl (lv_at hl 1 rfl) ?_
    refine lv_iload hx hb d_L_law_855 (lv_at hl 5 rfl) ?_
    refine lv_iconst (v := nI 1) hx hb d_L_law_857 (by decide) ?_
    refine wl_iaddn hx hb d_L_law_858 ?_
    refine wl_sld hx hb hscr hbl hbA hS (i := (i + 1)) (by omega) hLn d_L_law_859 ?_
    refine lv_aload_n hx hb d_L_law_860 rfl (lv_at hl 1 rfl) ?_
    refine lv_iload hx hb d_L_law_861 (lv_at hl 5 rfl) ?_
    refine lv_iconst (v := nI 2) hx hb d_L_law_863 (by decide) ?_
    refine wl_iaddn hx hb d_L_law_864 ?_
    refine wl_sld hx hb hscr hbl hbA hS (i := (i + 2)) (by omega) hLn d_L_law_865 ?_
    obtain ⟨hPc, hDc, hFc⟩ := la_M hP hD hS hA
    refine va_calli (va_runV (C := "FlowNestModel") (b := h3) (As := [.int (xs (i + 1)), .int (xs (i + 2))]) (rest := []) ⟨hx, hb, hml, hown, hts⟩ (c_M_isBack l dC dI cJ cI h3 k3 o3 w3 v3 p3 e3 f3 q3 H.size cd ey ex rc eg L so wi ew lo men le pi n r x q (xs (i + 1)) (xs (i + 2)) hn hz hL hq) (cwV 2 hts (nm_gV nm_548 nm_549 nm_550 nm_4 nm_c_M_isBack) rfl rfl rfl (by decide +kernel) ⟨Nat.le_of_ble_eq_true rfl, Nat.le_of_ble_eq_true rfl⟩) ⟨cw_blindM, va_recv hK hPc (ci := 3) rfl (q0 := 0) rfl, cw_preM hPc hDc hK hNw⟩ rfl rfl hl.1 rfl (lv_room (Nat.le_of_ble_eq_true rfl)) d_L_law_866 ⟨rm_c (by omega), rm_s (by omega)⟩) hS (fun q _ h => hFc q h) hFc (fun r18 u9 t H1 locs ht hvm hw19 hB hz1 hk1 hS => ?_)
    obtain ⟨zrc20, zeg21, zso22, zwi23, zew24, zlo25, zen26, zle27, zpi28, zb29, zk30⟩ := u9
    obtain ⟨hP1, hD1⟩ := hB
    rw [ht] at hP1
    obtain ⟨hP, hD⟩ := la_jM hP hD hk1 hFc hP1 hD1
    clear hPc hDc hFc hP1 hD1 hk1 hz1 ht
    generalize H1 = H at hP hS ⊢
    obtain ⟨hv2, hq2, ha2⟩ := hw19
    have hzb : zb29 = true := hv2.mpr hval
    replace hzb := hzb.symm
    subst hzb
    have hP : va_P (dC, dI) vwCl (la_ws cJ cI h0 h1 n1 a1 e1 l1 b1 t1 h2 n2 a2 e2 l2 b2 t2 h4 c4 h3 k3 o3 w3 v3 p3 e3 f3 q3 g5 (nI n) (nI (sp_lc n L)) L yab92 yen93 ylf94 ybl95 ytr96 (nI n) (nI r) ymt97 (bs_i yp91) (gf_T n L) yyb99 yyn910 yyf911 yyl912 yyr913 (nI n) (nI x) yym914 (bs_i ys98) ybo916 (bs_i yw915) (nI 0) (nI n) ey ex (bs_i zk30) zrc20 zeg21 L zso22 zwi23 zew24 zlo25 zen26 zle27 zpi28 you917) H := hP
    have hD : va_D A (la_ws cJ cI h0 h1 n1 a1 e1 l1 b1 t1 h2 n2 a2 e2 l2 b2 t2 h4 c4 h3 k3 o3 w3 v3 p3 e3 f3 q3 g5 (nI n) (nI (sp_lc n L)) L yab92 yen93 ylf94 ybl95 ytr96 (nI n) (nI r) ymt97 (bs_i yp91) (gf_T n L) yyb99 yyn910 yyf911 yyl912 yyr913 (nI n) (nI x) yym914 (bs_i ys98) ybo916 (bs_i yw915) (nI 0) (nI n) ey ex (bs_i zk30) zrc20 zeg21 L zso22 zwi23 zew24 zlo25 zen26 zle27 zpi28 you917) := hD
    obtain ⟨k2, j2, hk2, hj2, hv3, hw3, ha3⟩ := ha2 rfl
    have ek := nI_i (by omega) (by omega) (hk_v.symm.trans hv3)
    have ej := nI_i (by omega) (by omega) (hk_w.symm.trans hw3)
    subst ek
    subst ej
    subst ha3
    refine lv_istore (lv' := [(6, .int (bs_i (gf_d (sp_Bk n L r k j)))), (5, .int (nI 0)), (0, .ref b), (1, .ref h0), (2, .ref h3), (3, .ref g5), (4, .int (nI i))]) hx hb d_L_law_869 hl (by decide) rfl (fun ls hl => ?_)
    refine lv_aload_n hx hb d_L_law_871 rfl (lv_at hl 4 rfl) ?_
    have hPc := (la_M hP hD hS hA).1
    refine vp_callSi (va_Run.run (va_runV (C := "FlowNestModel") (b := h3) (As := []) (rest := []) ⟨hx, hb, hml, hown, hts⟩ (c_M_thrown l dC dI cJ cI h3 k3 o3 w3 v3 p3 e3 f3 q3 (nI 0) (nI n) ey ex (bs_i zk30) zrc20 zeg21 L zso22 zwi23 zew24 zlo25 zen26 zle27 zpi28) (cwV 0 hts (nm_gV nm_460 nm_461 nm_462 nm_4 nm_c_M_thrown) rfl rfl rfl (by decide +kernel) ⟨Nat.le_of_ble_eq_true rfl, Nat.le_of_ble_eq_true rfl⟩) ⟨cw_blind, va_recv hK hPc (ci := 3) rfl (q0 := 0) rfl, cw_pre hPc hK hNw⟩ rfl rfl hl.1 rfl (lv_room (Nat.le_of_ble_eq_true rfl)) d_L_law_872 ⟨rm_c (by omega), rm_s (by omega)⟩)) (fun r31 hr32 => ?_)
    clear hPc
    subst hr32
    refine lv_iload hx hb d_L_law_875 (lv_at hl 1 rfl) ?_
    refine wl_ieq (tgt := 882) hx hb (by omega) (by omega) d_L_law_877 (by decide) (fun hc877 => ?_) (fun hc877 => ?_)
    · refine lv_iload hx hb d_L_law_882 (lv_at hl 1 rfl) ?_
      refine wl_ifnen (tgt := 906) hx hb (by omega) d_L_law_884 (by decide) (fun hc884 => ?_) (fun hc884 => ?_)
      · exact absurd hc884 (by decide)
      · refine lv_aload_n hx hb d_L_law_887 rfl (lv_at hl 5 rfl) ?_
        refine lv_iconst (v := nI 0) hx hb d_L_law_888 (by decide) ?_
        refine wl_lald (i := 0) hx hb hK hP 26 0 rfl rfl (by omega) (by decide) d_L_law_889 ?_
        refine lv_iload hx hb d_L_law_890 (lv_at hl 0 rfl) ?_
        refine wl_ifeqb (tgt := 899) hx hb d_L_law_892 (by decide) (fun hc892 => ?_) (fun hc892 => ?_)
        · refine lv_lconst (v := 0) hx hb d_L_law_899 (by decide) ?_
          refine wl_lcmpeq (tgt := 906) hx hb d_L_law_900 d_L_law_901 (by decide) (fun hc900 => ?_) (fun hc900 => ?_)
          · refine lv_goto (tgt := 1239) hx hb d_L_law_906 (by decide) ?_
            refine W.widen (k := cells + 2) (n := slots + 12) (by omega) (by omega) ?_
            exact back _ _ _ ⟨n, r, x, L, nI (sp_lc n L), gf_T n L, yp91, ys98, yw915, yab92, yen93, ylf94, ybl95, ytr96, ymt97, yyb99, yyn910, yyf911, yyl912, yyr913, yym914, ybo916, nI 0, ey, ex, zk30, zrc20, zeg21, zso22, zwi23, zew24, zlo25, zen26, zle27, zpi28, you917, hn, hL, hJ1, hJ2, hJ4, rfl, rfl, hz, hz0, hq2, hP, hD⟩ hS (lv_sub hl [2, 3, 4, 5, 6] rfl)
          · exact absurd (hou.trans (by rw [hc892]; rfl)) hc900
        · refine lv_lconst (v := 1) hx hb d_L_law_895 (by decide) ?_
          refine lv_goto (tgt := 900) hx hb d_L_law_896 (by decide) ?_
          refine wl_lcmpeq (tgt := 906) hx hb d_L_law_900 d_L_law_901 (by decide) (fun hc900 => ?_) (fun hc900 => ?_)
          · refine lv_goto (tgt := 1239) hx hb d_L_law_906 (by decide) ?_
            refine W.widen (k := cells + 2) (n := slots + 12) (by omega) (by omega) ?_
            exact back _ _ _ ⟨n, r, x, L, nI (sp_lc n L), gf_T n L, yp91, ys98, yw915, yab92, yen93, ylf94, ybl95, ytr96, ymt97, yyb99, yyn910, yyf911, yyl912, yyr913, yym914, ybo916, nI 0, ey, ex, zk30, zrc20, zeg21, zso22, zwi23, zew24, zlo25, zen26, zle27, zpi28, you917, hn, hL, hJ1, hJ2, hJ4, rfl, rfl, hz, hz0, hq2, hP, hD⟩ hS (lv_sub hl [2, 3, 4, 5, 6] rfl)
          · exact absurd (hou.trans (by rw [hc892]; rfl)) hc900
    · exact absurd rfl hc877
  · replace hr1 := hr1.symm
    subst hr1
    refine lv_istore (lv' := [(5, .int (nI 1)), (0, .ref b), (1, .ref h0), (2, .ref h3), (3, .ref g5), (4, .int (nI i))]) hx hb d_L_law_851 hl (by decide) rfl (fun ls hl => ?_)
    refine lv_aload_n hx hb d_L_law_853 rfl (lv_at hl 3 rfl) ?_
    refine lv_aload_n hx hb d_L_law_854 rfl (lv_at hl 1 rfl) ?_
    refine lv_iload hx hb d_L_law_855 (lv_at hl 5 rfl) ?_
    refine lv_iconst (v := nI 1) hx hb d_L_law_857 (by decide) ?_
    refine wl_iaddn hx hb d_L_law_858 ?_
    refine wl_sld hx hb hscr hbl hbA hS (i := (i + 1)) (by omega) hLn d_L_law_859 ?_
    refine lv_aload_n hx hb d_L_law_860 rfl (lv_at hl 1 rfl) ?_
    refine lv_iload hx hb d_L_law_861 (lv_at hl 5 rfl) ?_
    refine lv_iconst (v := nI 2) hx hb d_L_law_863 (by decide) ?_
    refine wl_iaddn hx hb d_L_law_864 ?_
    refine wl_sld hx hb hscr hbl hbA hS (i := (i + 2)) (by omega) hLn d_L_law_865 ?_
    obtain ⟨hPc, hDc, hFc⟩ := la_M hP hD hS hA
    refine va_calli (va_runV (C := "FlowNestModel") (b := h3) (As := [.int (xs (i + 1)), .int (xs (i + 2))]) (rest := []) ⟨hx, hb, hml, hown, hts⟩ (c_M_isBack l dC dI cJ cI h3 k3 o3 w3 v3 p3 e3 f3 q3 H.size cd ey ex rc eg L so wi ew lo men le pi n r x q (xs (i + 1)) (xs (i + 2)) hn hz hL hq) (cwV 2 hts (nm_gV nm_548 nm_549 nm_550 nm_4 nm_c_M_isBack) rfl rfl rfl (by decide +kernel) ⟨Nat.le_of_ble_eq_true rfl, Nat.le_of_ble_eq_true rfl⟩) ⟨cw_blindM, va_recv hK hPc (ci := 3) rfl (q0 := 0) rfl, cw_preM hPc hDc hK hNw⟩ rfl rfl hl.1 rfl (lv_room (Nat.le_of_ble_eq_true rfl)) d_L_law_866 ⟨rm_c (by omega), rm_s (by omega)⟩) hS (fun q _ h => hFc q h) hFc (fun r33 u9 t H1 locs ht hvm hw34 hB hz1 hk1 hS => ?_)
    obtain ⟨zrc35, zeg36, zso37, zwi38, zew39, zlo40, zen41, zle42, zpi43, zb44, zk45⟩ := u9
    obtain ⟨hP1, hD1⟩ := hB
    rw [ht] at hP1
    obtain ⟨hP, hD⟩ := la_jM hP hD hk1 hFc hP1 hD1
    clear hPc hDc hFc hP1 hD1 hk1 hz1 ht
    generalize H1 = H at hP hS ⊢
    obtain ⟨hv2, hq2, ha2⟩ := hw34
    have hzb : zb44 = false := Bool.eq_false_iff.mpr (fun z => hval (hv2.mp z))
    replace hzb := hzb.symm
    subst hzb
    have hP : va_P (dC, dI) vwCl (la_ws cJ cI h0 h1 n1 a1 e1 l1 b1 t1 h2 n2 a2 e2 l2 b2 t2 h4 c4 h3 k3 o3 w3 v3 p3 e3 f3 q3 g5 (nI n) (nI (sp_lc n L)) L yab92 yen93 ylf94 ybl95 ytr96 (nI n) (nI r) ymt97 (bs_i yp91) (gf_T n L) yyb99 yyn910 yyf911 yyl912 yyr913 (nI n) (nI x) yym914 (bs_i ys98) ybo916 (bs_i yw915) (nI 1) (nI n) ey ex (bs_i zk45) zrc35 zeg36 L zso37 zwi38 zew39 zlo40 zen41 zle42 zpi43 you917) H := hP
    have hD : va_D A (la_ws cJ cI h0 h1 n1 a1 e1 l1 b1 t1 h2 n2 a2 e2 l2 b2 t2 h4 c4 h3 k3 o3 w3 v3 p3 e3 f3 q3 g5 (nI n) (nI (sp_lc n L)) L yab92 yen93 ylf94 ybl95 ytr96 (nI n) (nI r) ymt97 (bs_i yp91) (gf_T n L) yyb99 yyn910 yyf911 yyl912 yyr913 (nI n) (nI x) yym914 (bs_i ys98) ybo916 (bs_i yw915) (nI 1) (nI n) ey ex (bs_i zk45) zrc35 zeg36 L zso37 zwi38 zew39 zlo40 zen41 zle42 zpi43 you917) := hD
    refine lv_istore (lv' := [(6, .int r33), (5, .int (nI 1)), (0, .ref b), (1, .ref h0), (2, .ref h3), (3, .ref g5), (4, .int (nI i))]) hx hb d_L_law_869 hl (by decide) rfl (fun ls hl => ?_)
    refine lv_aload_n hx hb d_L_law_871 rfl (lv_at hl 4 rfl) ?_
    have hPc := (la_M hP hD hS hA).1
    refine vp_callSi (va_Run.run (va_runV (C := "FlowNestModel") (b := h3) (As := []) (rest := []) ⟨hx, hb, hml, hown, hts⟩ (c_M_thrown l dC dI cJ cI h3 k3 o3 w3 v3 p3 e3 f3 q3 (nI 1) (nI n) ey ex (bs_i zk45) zrc35 zeg36 L zso37 zwi38 zew39 zlo40 zen41 zle42 zpi43) (cwV 0 hts (nm_gV nm_460 nm_461 nm_462 nm_4 nm_c_M_thrown) rfl rfl rfl (by decide +kernel) ⟨Nat.le_of_ble_eq_true rfl, Nat.le_of_ble_eq_true rfl⟩) ⟨cw_blind, va_recv hK hPc (ci := 3) rfl (q0 := 0) rfl, cw_pre hPc hK hNw⟩ rfl rfl hl.1 rfl (lv_room (Nat.le_of_ble_eq_true rfl)) d_L_law_872 ⟨rm_c (by omega), rm_s (by omega)⟩)) (fun r46 hr47 => ?_)
    clear hPc
    subst hr47
    refine lv_iload hx hb d_L_law_875 (lv_at hl 1 rfl) ?_
    refine wl_ieq (tgt := 882) hx hb (by omega) (by omega) d_L_law_877 (by decide) (fun hc877 => ?_) (fun hc877 => ?_)
    · refine lv_iload hx hb d_L_law_882 (lv_at hl 1 rfl) ?_
      refine wl_ifnen (tgt := 906) hx hb (by omega) d_L_law_884 (by decide) (fun hc884 => ?_) (fun hc884 => ?_)
      · refine lv_goto (tgt := 1239) hx hb d_L_law_906 (by decide) ?_
        refine W.widen (k := cells + 2) (n := slots + 12) (by omega) (by omega) ?_
        exact back _ _ _ ⟨n, r, x, L, nI (sp_lc n L), gf_T n L, yp91, ys98, yw915, yab92, yen93, ylf94, ybl95, ytr96, ymt97, yyb99, yyn910, yyf911, yyl912, yyr913, yym914, ybo916, nI 1, ey, ex, zk45, zrc35, zeg36, zso37, zwi38, zew39, zlo40, zen41, zle42, zpi43, you917, hn, hL, hJ1, hJ2, hJ4, rfl, rfl, hz, hz0, hq2, hP, hD⟩ hS (lv_sub hl [2, 3, 4, 5, 6] rfl)
      · exact absurd hc884 (by decide)
    · exact absurd rfl hc877
