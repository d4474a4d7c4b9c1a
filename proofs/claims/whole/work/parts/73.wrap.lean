/-! contracts of the law's wrappers (laid by wip/gen/wrap.py) -/
set_option maxHeartbeats 4000000 in
set_option maxRecDepth 100000 in
theorem c_L_isReached (l : Launch) (hl9 : l.stackTraces = false) (dC : Nat → ClassId) (dI : Nat → Nat → Nat) (cJ cI : ClassId) (h0 h1 n1 a1 e1 l1 b1 t1 h2 n2 a2 e2 l2 b2 t2 h4 c4 g5 hs sa sb : Nat) (ab : Nat → Int64) (en : Nat → Int32) (lf : Nat → Int32) (bl : Nat → Int32) (tr : Nat → Int32) (mt : Int64) (ab2 : Nat → Int64) (en2 : Nat → Int32) (lf2 : Nat → Int32) (bl2 : Nat → Int32) (tr2 : Nat → Int32) (mt2 : Int64) (bo : Nat → Int64) (ou : Nat → Int64) (n r x : Nat) (L : Nat → Int64) (q1 q2 q4 : Bool) (v0 : Int32) (cv : Bool) (hn : n ≤ 48) (hL : ∀ u v, gf_E n L u v → v < n) (hI1 : fv_S n r L q1 ab en lf bl mt) (hI2 : fv_S n x (gf_T n L) q2 ab2 en2 lf2 bl2 mt2) (hI4 : fv_N n r L q4 bo) : Met l y_L_isReached w_L_isReached ({ frames := 8, cells := 1, slots := 6, locals := 160 }) (va_Pc [.ref h0, .int v0, .int (bs_i cv), .ref g5] (cw_T (dC, dI) cJ cI (lx_ws cJ cI h0 h1 n1 a1 e1 l1 b1 t1 h2 n2 a2 e2 l2 b2 t2 h4 c4 g5 (nI n) (nI (sp_lc n L)) L ab en lf bl tr (nI n) (nI r) mt (bs_i q1) (gf_T n L) ab2 en2 lf2 bl2 tr2 (nI n) (nI x) mt2 (bs_i q2) bo (bs_i q4) ou) hs sa sb)) (va_Qi (fun (r9 : Int32) (u9 : Bool × (Nat → Int64) × (Nat → Int32) × (Nat → Int32) × (Nat → Int32) × (Nat → Int32) × Int64 × Bool × (Nat → Int64) × (Nat → Int32) × (Nat → Int32) × (Nat → Int32) × (Nat → Int32) × Int64 × Bool × (Nat → Int64) × (Nat → Int64)) => match u9 with | (p9, ab9, en9, lf9, bl9, tr9, mt9, s9, yb9, yn9, yf9, yl9, yr9, ym9, w9, bo9, ou9) => (fv_S n r L p9 ab9 en9 lf9 bl9 mt9 ∧ fv_S n x (gf_T n L) s9 yb9 yn9 yf9 yl9 ym9 ∧ fv_N n r L w9 bo9) ∧ ((r9 = nI 0 ∧ ∃ k, k < n ∧ v0 = nI k ∧ ou9 0 = bs_l (gf_d (gf_R (gf_E n (gg_L cv n L)) (gg_r cv r x) k))) ∨ (r9 = nI 1 ∧ ¬ ∃ k, k < n ∧ v0 = nI k))) (fun (u9 : Bool × (Nat → Int64) × (Nat → Int32) × (Nat → Int32) × (Nat → Int32) × (Nat → Int32) × Int64 × Bool × (Nat → Int64) × (Nat → Int32) × (Nat → Int32) × (Nat → Int32) × (Nat → Int32) × Int64 × Bool × (Nat → Int64) × (Nat → Int64)) (t : State) => match u9 with | (p9, ab9, en9, lf9, bl9, tr9, mt9, s9, yb9, yn9, yf9, yl9, yr9, ym9, w9, bo9, ou9) => va_P (dC, dI) vwCl (lx_ws cJ cI h0 h1 n1 a1 e1 l1 b1 t1 h2 n2 a2 e2 l2 b2 t2 h4 c4 g5 (nI n) (nI (sp_lc n L)) L ab9 en9 lf9 bl9 tr9 (nI n) (nI r) mt9 (bs_i p9) (gf_T n L) yb9 yn9 yf9 yl9 yr9 (nI n) (nI x) ym9 (bs_i s9) bo9 (bs_i w9) ou9) t.heap ∧ va_D (va_A (lx_ws cJ cI h0 h1 n1 a1 e1 l1 b1 t1 h2 n2 a2 e2 l2 b2 t2 h4 c4 g5 (nI n) (nI (sp_lc n L)) L ab en lf bl tr (nI n) (nI r) mt (bs_i q1) (gf_T n L) ab2 en2 lf2 bl2 tr2 (nI n) (nI x) mt2 (bs_i q2) bo (bs_i q4) ou) hs) (lx_ws cJ cI h0 h1 n1 a1 e1 l1 b1 t1 h2 n2 a2 e2 l2 b2 t2 h4 c4 g5 (nI n) (nI (sp_lc n L)) L ab9 en9 lf9 bl9 tr9 (nI n) (nI r) mt9 (bs_i p9) (gf_T n L) yb9 yn9 yf9 yl9 yr9 (nI n) (nI x) ym9 (bs_i s9) bo9 (bs_i w9) ou9)) (va_A (lx_ws cJ cI h0 h1 n1 a1 e1 l1 b1 t1 h2 n2 a2 e2 l2 b2 t2 h4 c4 g5 (nI n) (nI (sp_lc n L)) L ab en lf bl tr (nI n) (nI r) mt (bs_i q1) (gf_T n L) ab2 en2 lf2 bl2 tr2 (nI n) (nI x) mt2 (bs_i q2) bo (bs_i q4) ou) hs)) 1 6 (va_A (lx_ws cJ cI h0 h1 n1 a1 e1 l1 b1 t1 h2 n2 a2 e2 l2 b2 t2 h4 c4 g5 (nI n) (nI (sp_lc n L)) L ab en lf bl tr (nI n) (nI r) mt (bs_i q1) (gf_T n L) ab2 en2 lf2 bl2 tr2 (nI n) (nI x) mt2 (bs_i q2) bo (bs_i q4) ou) hs) := by
  refine mt_ofWH (cc := b_L_isReached) (maxL := 5) (ret := (some .int)) (hh := [(0, 17, 20, 19)]) (by decide) rfl ?_
  intro p e s m args below meth c s₁ B hml hv9
  obtain ⟨rfl, ⟨hsz, ⟨hP, hK, hNw⟩, hD0⟩, hX⟩ := hv9
  have hx := B.exec
  have hb := B.bytes
  have hr := B.returns
  have hts := atoms_spec (ws := w_L_isReached) B.pre
  have hown : s.vm.findClass "FlowNestLaw" = some m.cls := findClass_of_methodNamed B.named
  have hlocks := B.notSynchronized
  have htb : c.exceptionTable.toList = tableOf [(0, 17, 20, 19)] := vx_table (x := y_L_isReached) B (hts _ List.mem_cons_self)
  subst hsz
  have hD := hD0.self (sz := s.heap.size)
  generalize hAe : va_A (lx_ws cJ cI h0 h1 n1 a1 e1 l1 b1 t1 h2 n2 a2 e2 l2 b2 t2 h4 c4 g5 (nI n) (nI (sp_lc n L)) L ab en lf bl tr (nI n) (nI r) mt (bs_i q1) (gf_T n L) ab2 en2 lf2 bl2 tr2 (nI n) (nI x) mt2 (bs_i q2) bo (bs_i q4) ou) s.heap.size = A at hD ⊢
  have hA : ∀ q : Nat, s.heap.size ≤ q → A q := fun q h => by rw [← hAe]; exact Or.inr h
  have hS : va_S A s.heap s.heap [] := va_S.rf
  have hP : va_P (dC, dI) vwCl (lx_ws cJ cI h0 h1 n1 a1 e1 l1 b1 t1 h2 n2 a2 e2 l2 b2 t2 h4 c4 g5 (nI n) (nI (sp_lc n L)) L ab en lf bl tr (nI n) (nI r) mt (bs_i q1) (gf_T n L) ab2 en2 lf2 bl2 tr2 (nI n) (nI x) mt2 (bs_i q2) bo (bs_i q4) ou) s.heap := hP
  have hl := lv_entry ([.ref h0, .int v0, .int (bs_i cv), .ref g5]) (n := 5) (Nat.le_of_ble_eq_true rfl)
  rw [lg_entry_eq]
  generalize (lg_sl ([.ref h0, .int v0, .int (bs_i cv), .ref g5]) ++ List.replicate (5 - (lg_sl ([.ref h0, .int v0, .int (bs_i cv), .ref g5])).length) Slot.unset).toArray = ls at hl ⊢
  have hl : lv_has ls 5 [(0, .ref h0), (1, .int v0), (2, .int (bs_i cv)), (3, .ref g5)] := hl
  refine lv_aload_n hx hb d_L_isReached_0 rfl (lv_at hl 3 rfl) ?_
  refine lv_iconst (v := nI 0) hx hb d_L_isReached_1 (by decide) ?_
  refine lv_aload_n hx hb d_L_isReached_2 rfl (lv_at hl 0 rfl) ?_
  refine lv_iload_n hx hb d_L_isReached_3 rfl (lv_at hl 1 rfl) ?_
  refine lv_iload_n hx hb d_L_isReached_4 rfl (lv_at hl 2 rfl) ?_
  have hPc := hP.sub (ws' := fn_ws cJ cI h0 h1 n1 a1 e1 l1 b1 t1 h2 n2 a2 e2 l2 b2 t2 h4 c4 (nI n) (nI (sp_lc n L)) L ab en lf bl tr (nI n) (nI r) mt (bs_i q1) (gf_T n L) ab2 en2 lf2 bl2 tr2 (nI n) (nI x) mt2 (bs_i q2) bo (bs_i q4)) [0, 1, 2, 3, 4, 5, 6, 7, 8, 9, 10, 11, 12, 13, 14, 15, 16] rfl
  have hDc := hD.sub (ws' := fn_ws cJ cI h0 h1 n1 a1 e1 l1 b1 t1 h2 n2 a2 e2 l2 b2 t2 h4 c4 (nI n) (nI (sp_lc n L)) L ab en lf bl tr (nI n) (nI r) mt (bs_i q1) (gf_T n L) ab2 en2 lf2 bl2 tr2 (nI n) (nI x) mt2 (bs_i q2) bo (bs_i q4)) [0, 1, 2, 3, 4, 5, 6, 7, 8, 9, 10, 11, 12, 13, 14, 15, 16] (by decide) rfl
  have hFc := va_free (wc := fn_ws cJ cI h0 h1 n1 a1 e1 l1 b1 t1 h2 n2 a2 e2 l2 b2 t2 h4 c4 (nI n) (nI (sp_lc n L)) L ab en lf bl tr (nI n) (nI r) mt (bs_i q1) (gf_T n L) ab2 en2 lf2 bl2 tr2 (nI n) (nI x) mt2 (bs_i q2) bo (bs_i q4)) hD hS hA [0, 1, 2, 3, 4, 5, 6, 7, 8, 9, 10, 11, 12, 13, 14, 15, 16] rfl
  refine vx_calli (vx_runV (C := "FlowNest") (b := h0) (As := [.int v0, .int (bs_i cv)]) (rest := [.int (nI 0), .ref g5]) ⟨hx, hb, hml, hown, hts⟩ (c_F_isReached l hl9 dC dI cJ cI h0 h1 n1 a1 e1 l1 b1 t1 h2 n2 a2 e2 l2 b2 t2 h4 c4 s.heap.size sa sb ab en lf bl tr mt ab2 en2 lf2 bl2 tr2 mt2 bo n r x L q1 q2 q4 v0 cv hn hL hI1 hI2 hI4) (cwV 2 hts (nm_gV nm_320 nm_321 nm_322 nm_1 nm_c_F_isReached) rfl rfl rfl (by decide +kernel) ⟨Nat.le_of_ble_eq_true rfl, Nat.le_of_ble_eq_true rfl⟩) ⟨cw_blindT, va_recv hK hP (ci := 2) rfl (q0 := 0) rfl, cw_preT hPc hDc hK hNw hX⟩ rfl rfl hl.1 rfl (lv_room (Nat.le_of_ble_eq_true rfl)) d_L_isReached_5 ⟨Nat.le_of_ble_eq_true rfl, Nat.le_of_ble_eq_true rfl⟩) hS (fun q _ h => hFc q h) hFc (fun q h1 h2 => absurd h2 (by omega)) (fun E ce q9 u t H1 locs ht hvm hpx hbx hz1 hk1 hS hce hcv hcl => ?_) (fun r1 u9 t H1 locs ht hvm hw hB hz1 hk1 hS => ?_)
  · have hkk : ∀ q : Nat, q < s.heap.size → H1[q]? = s.heap[q]? := fun q h => hk1 q h (by omega)
    have hP := va_Pk hP hkk
    clear hkk hk1 hz1 hPc hDc ht
    generalize H1 = H at hP hS hce ⊢
    subst hbx
    refine vx_catch (own := "FlowNestLaw") (name := "java/lang/IndexOutOfBoundsException") hown [] ⟨0, 17, 20, 19⟩ [] htb (fun z hz => nomatch hz) (by decide) (by decide) (hts _ (List.mem_cons_of_mem _ nm_276)) (xw_cI hX.1) hce hcv hcl ?_
    refine W.eq (g2 := F0 m 20 ls [.ref q9]) rfl ?_
    refine lv_astore (lv' := [(4, .ref q9), (0, .ref h0), (1, .int v0), (2, .int (bs_i cv)), (3, .ref g5)]) hx hb d_L_isReached_20 hl (by decide) rfl (fun ls hl => ?_)
    refine lv_iconst (v := nI 1) hx hb d_L_isReached_22 (by decide) ?_
    exact W.widen (k := 1) (n := 6) (Nat.le_of_ble_eq_true rfl) (Nat.le_of_ble_eq_true rfl) (W.iret (v := nI 1) hx hb hr (fun t ht hW => ⟨⟨(nI 1), (q1, ab, en, lf, bl, tr, mt, q2, ab2, en2, lf2, bl2, tr2, mt2, q4, bo, ou), rfl, ⟨⟨hI1, hI2, hI4⟩, Or.inr ⟨rfl, hpx⟩⟩, by rw [ht]; exact hP, hD⟩, hS.F ht⟩) hS.2.2 d_L_isReached_23)
  · obtain ⟨p91, ab92, en93, lf94, bl95, tr96, mt97, s98, yb99, yn910, yf911, yl912, yr913, ym914, w915, bo916⟩ := u9
    obtain ⟨hP1, hD1⟩ := hB
    rw [ht] at hP1
    obtain ⟨hP, hD⟩ := va_join (wr := ([17] : List Nat).filterMap (fun (i : Nat) => (lx_ws cJ cI h0 h1 n1 a1 e1 l1 b1 t1 h2 n2 a2 e2 l2 b2 t2 h4 c4 g5 (nI n) (nI (sp_lc n L)) L ab en lf bl tr (nI n) (nI r) mt (bs_i q1) (gf_T n L) ab2 en2 lf2 bl2 tr2 (nI n) (nI x) mt2 (bs_i q2) bo (bs_i q4) ou)[i]?)) (w1 := fn_ws cJ cI h0 h1 n1 a1 e1 l1 b1 t1 h2 n2 a2 e2 l2 b2 t2 h4 c4 (nI n) (nI (sp_lc n L)) L ab92 en93 lf94 bl95 tr96 (nI n) (nI r) mt97 (bs_i p91) (gf_T n L) yb99 yn910 yf911 yl912 yr913 (nI n) (nI x) ym914 (bs_i s98) bo916 (bs_i w915)) hP hD [0, 1, 2, 3, 4, 5, 6, 7, 8, 9, 10, 11, 12, 13, 14, 15, 16] [17] rfl rfl (by decide) (by decide) hk1 hFc hP1 hD1
    generalize H1 = H at hP hS ⊢
    have hP : va_P (dC, dI) vwCl (lx_ws cJ cI h0 h1 n1 a1 e1 l1 b1 t1 h2 n2 a2 e2 l2 b2 t2 h4 c4 g5 (nI n) (nI (sp_lc n L)) L ab92 en93 lf94 bl95 tr96 (nI n) (nI r) mt97 (bs_i p91) (gf_T n L) yb99 yn910 yf911 yl912 yr913 (nI n) (nI x) ym914 (bs_i s98) bo916 (bs_i w915) ou) H := hP.sub (ws' := lx_ws cJ cI h0 h1 n1 a1 e1 l1 b1 t1 h2 n2 a2 e2 l2 b2 t2 h4 c4 g5 (nI n) (nI (sp_lc n L)) L ab92 en93 lf94 bl95 tr96 (nI n) (nI r) mt97 (bs_i p91) (gf_T n L) yb99 yn910 yf911 yl912 yr913 (nI n) (nI x) ym914 (bs_i s98) bo916 (bs_i w915) ou) [1, 2, 3, 4, 5, 6, 7, 8, 9, 10, 11, 12, 13, 14, 15, 16, 17, 0] rfl
    have hD : va_D A (lx_ws cJ cI h0 h1 n1 a1 e1 l1 b1 t1 h2 n2 a2 e2 l2 b2 t2 h4 c4 g5 (nI n) (nI (sp_lc n L)) L ab92 en93 lf94 bl95 tr96 (nI n) (nI r) mt97 (bs_i p91) (gf_T n L) yb99 yn910 yf911 yl912 yr913 (nI n) (nI x) ym914 (bs_i s98) bo916 (bs_i w915) ou) := hD.sub (ws' := lx_ws cJ cI h0 h1 n1 a1 e1 l1 b1 t1 h2 n2 a2 e2 l2 b2 t2 h4 c4 g5 (nI n) (nI (sp_lc n L)) L ab92 en93 lf94 bl95 tr96 (nI n) (nI r) mt97 (bs_i p91) (gf_T n L) yb99 yn910 yf911 yl912 yr913 (nI n) (nI x) ym914 (bs_i s98) bo916 (bs_i w915) ou) [1, 2, 3, 4, 5, 6, 7, 8, 9, 10, 11, 12, 13, 14, 15, 16, 17, 0] (by decide) rfl
    obtain ⟨g1, g2, g4, k, hk_k, rfl, ha9⟩ := hw
    have hi9 := And.intro g1 (And.intro g2 g4)
    subst ha9
    refine wl_ifeqb (tgt := 15) hx hb d_L_isReached_8 (by decide) (fun hc8 => ?_) (fun hc8 => ?_)
    · refine lv_lconst (v := 0) hx hb d_L_isReached_15 (by decide) ?_
      refine wl_last (i := 0) hx hb hK hP hD hS 17 0 rfl rfl (by omega) (by decide) d_L_isReached_16 (fun H locs hP hD hS => ?_)
      have hP : va_P (dC, dI) vwCl (lx_ws cJ cI h0 h1 n1 a1 e1 l1 b1 t1 h2 n2 a2 e2 l2 b2 t2 h4 c4 g5 (nI n) (nI (sp_lc n L)) L ab92 en93 lf94 bl95 tr96 (nI n) (nI r) mt97 (bs_i p91) (gf_T n L) yb99 yn910 yf911 yl912 yr913 (nI n) (nI x) ym914 (bs_i s98) bo916 (bs_i w915) (vp_updL ou 0 0)) H := hP
      have hD : va_D A (lx_ws cJ cI h0 h1 n1 a1 e1 l1 b1 t1 h2 n2 a2 e2 l2 b2 t2 h4 c4 g5 (nI n) (nI (sp_lc n L)) L ab92 en93 lf94 bl95 tr96 (nI n) (nI r) mt97 (bs_i p91) (gf_T n L) yb99 yn910 yf911 yl912 yr913 (nI n) (nI x) ym914 (bs_i s98) bo916 (bs_i w915) (vp_updL ou 0 0)) := hD
      refine lv_goto (tgt := 24) hx hb d_L_isReached_17 (by decide) ?_
      refine lv_iconst (v := nI 0) hx hb d_L_isReached_24 (by decide) ?_
      exact W.widen (k := 1) (n := 6) (Nat.le_of_ble_eq_true rfl) (Nat.le_of_ble_eq_true rfl) (W.iret (v := nI 0) hx hb hr (fun t ht hW => ⟨⟨(nI 0), (p91, ab92, en93, lf94, bl95, tr96, mt97, s98, yb99, yn910, yf911, yl912, yr913, ym914, w915, bo916, vp_updL ou 0 0), rfl, ⟨hi9, Or.inl ⟨rfl, k, hk_k, rfl, pk_uLs.trans (by rw [hc8]; rfl)⟩⟩, by rw [ht]; exact hP, hD⟩, hS.F ht⟩) hS.2.2 d_L_isReached_25)
    · refine lv_lconst (v := 1) hx hb d_L_isReached_11 (by decide) ?_
      refine lv_goto (tgt := 16) hx hb d_L_isReached_12 (by decide) ?_
      refine wl_last (i := 0) hx hb hK hP hD hS 17 0 rfl rfl (by omega) (by decide) d_L_isReached_16 (fun H locs hP hD hS => ?_)
      have hP : va_P (dC, dI) vwCl (lx_ws cJ cI h0 h1 n1 a1 e1 l1 b1 t1 h2 n2 a2 e2 l2 b2 t2 h4 c4 g5 (nI n) (nI (sp_lc n L)) L ab92 en93 lf94 bl95 tr96 (nI n) (nI r) mt97 (bs_i p91) (gf_T n L) yb99 yn910 yf911 yl912 yr913 (nI n) (nI x) ym914 (bs_i s98) bo916 (bs_i w915) (vp_updL ou 0 1)) H := hP
      have hD : va_D A (lx_ws cJ cI h0 h1 n1 a1 e1 l1 b1 t1 h2 n2 a2 e2 l2 b2 t2 h4 c4 g5 (nI n) (nI (sp_lc n L)) L ab92 en93 lf94 bl95 tr96 (nI n) (nI r) mt97 (bs_i p91) (gf_T n L) yb99 yn910 yf911 yl912 yr913 (nI n) (nI x) ym914 (bs_i s98) bo916 (bs_i w915) (vp_updL ou 0 1)) := hD
      refine lv_goto (tgt := 24) hx hb d_L_isReached_17 (by decide) ?_
      refine lv_iconst (v := nI 0) hx hb d_L_isReached_24 (by decide) ?_
      exact W.widen (k := 1) (n := 6) (Nat.le_of_ble_eq_true rfl) (Nat.le_of_ble_eq_true rfl) (W.iret (v := nI 0) hx hb hr (fun t ht hW => ⟨⟨(nI 0), (p91, ab92, en93, lf94, bl95, tr96, mt97, s98, yb99, yn910, yf911, yl912, yr913, ym914, w915, bo916, vp_updL ou 0 1), rfl, ⟨hi9, Or.inl ⟨rfl, k, hk_k, rfl, pk_uLs.trans (by rw [hc8]; rfl)⟩⟩, by rw [ht]; exact hP, hD⟩, hS.F ht⟩) hS.2.2 d_L_isReached_25)
set_option maxHeartbeats 4000000 in
set_option maxRecDepth 100000 in
theorem c_L_dominator (l : Launch) (hl9 : l.stackTraces = false) (dC : Nat → ClassId) (dI : Nat → Nat → Nat) (cJ cI : ClassId) (h0 h1 n1 a1 e1 l1 b1 t1 h2 n2 a2 e2 l2 b2 t2 h4 c4 g5 hs sa sb : Nat) (ab : Nat → Int64) (en : Nat → Int32) (lf : Nat → Int32) (bl : Nat → Int32) (tr : Nat → Int32) (mt : Int64) (ab2 : Nat → Int64) (en2 : Nat → Int32) (lf2 : Nat → Int32) (bl2 : Nat → Int32) (tr2 : Nat → Int32) (mt2 : Int64) (bo : Nat → Int64) (ou : Nat → Int64) (n r x : Nat) (L : Nat → Int64) (q1 q2 q4 : Bool) (v0 : Int32) (cv : Bool) (hn : n ≤ 48) (hL : ∀ u v, gf_E n L u v → v < n) (hI1 : fv_S n r L q1 ab en lf bl mt) (hI2 : fv_S n x (gf_T n L) q2 ab2 en2 lf2 bl2 mt2) (hI4 : fv_N n r L q4 bo) : Met l y_L_dominator w_L_dominator ({ frames := 8, cells := 1, slots := 6, locals := 160 }) (va_Pc [.ref h0, .int v0, .int (bs_i cv), .ref g5] (cw_T (dC, dI) cJ cI (lx_ws cJ cI h0 h1 n1 a1 e1 l1 b1 t1 h2 n2 a2 e2 l2 b2 t2 h4 c4 g5 (nI n) (nI (sp_lc n L)) L ab en lf bl tr (nI n) (nI r) mt (bs_i q1) (gf_T n L) ab2 en2 lf2 bl2 tr2 (nI n) (nI x) mt2 (bs_i q2) bo (bs_i q4) ou) hs sa sb)) (va_Qi (fun (r9 : Int32) (u9 : Bool × (Nat → Int64) × (Nat → Int32) × (Nat → Int32) × (Nat → Int32) × (Nat → Int32) × Int64 × Bool × (Nat → Int64) × (Nat → Int32) × (Nat → Int32) × (Nat → Int32) × (Nat → Int32) × Int64 × Bool × (Nat → Int64) × (Nat → Int64)) => match u9 with | (p9, ab9, en9, lf9, bl9, tr9, mt9, s9, yb9, yn9, yf9, yl9, yr9, ym9, w9, bo9, ou9) => (fv_S n r L p9 ab9 en9 lf9 bl9 mt9 ∧ fv_S n x (gf_T n L) s9 yb9 yn9 yf9 yl9 ym9 ∧ fv_N n r L w9 bo9) ∧ ((r9 = nI 0 ∧ ∃ k, k < n ∧ v0 = nI k ∧ ∃ z9 : Int32, ou9 0 = z9.toInt64 ∧ sp_Dm n (gg_L cv n L) (gg_r cv r x) k z9) ∨ (r9 = nI 1 ∧ ¬ ∃ k, k < n ∧ v0 = nI k))) (fun (u9 : Bool × (Nat → Int64) × (Nat → Int32) × (Nat → Int32) × (Nat → Int32) × (Nat → Int32) × Int64 × Bool × (Nat → Int64) × (Nat → Int32) × (Nat → Int32) × (Nat → Int32) × (Nat → Int32) × Int64 × Bool × (Nat → Int64) × (Nat → Int64)) (t : State) => match u9 with | (p9, ab9, en9, lf9, bl9, tr9, mt9, s9, yb9, yn9, yf9, yl9, yr9, ym9, w9, bo9, ou9) => va_P (dC, dI) vwCl (lx_ws cJ cI h0 h1 n1 a1 e1 l1 b1 t1 h2 n2 a2 e2 l2 b2 t2 h4 c4 g5 (nI n) (nI (sp_lc n L)) L ab9 en9 lf9 bl9 tr9 (nI n) (nI r) mt9 (bs_i p9) (gf_T n L) yb9 yn9 yf9 yl9 yr9 (nI n) (nI x) ym9 (bs_i s9) bo9 (bs_i w9) ou9) t.heap ∧ va_D (va_A (lx_ws cJ cI h0 h1 n1 a1 e1 l1 b1 t1 h2 n2 a2 e2 l2 b2 t2 h4 c4 g5 (nI n) (nI (sp_lc n L)) L ab en lf bl tr (nI n) (nI r) mt (bs_i q1) (gf_T n L) ab2 en2 lf2 bl2 tr2 (nI n) (nI x) mt2 (bs_i q2) bo (bs_i q4) ou) hs) (lx_ws cJ cI h0 h1 n1 a1 e1 l1 b1 t1 h2 n2 a2 e2 l2 b2 t2 h4 c4 g5 (nI n) (nI (sp_lc n L)) L ab9 en9 lf9 bl9 tr9 (nI n) (nI r) mt9 (bs_i p9) (gf_T n L) yb9 yn9 yf9 yl9 yr9 (nI n) (nI x) ym9 (bs_i s9) bo9 (bs_i w9) ou9)) (va_A (lx_ws cJ cI h0 h1 n1 a1 e1 l1 b1 t1 h2 n2 a2 e2 l2 b2 t2 h4 c4 g5 (nI n) (nI (sp_lc n L)) L ab en lf bl tr (nI n) (nI r) mt (bs_i q1) (gf_T n L) ab2 en2 lf2 bl2 tr2 (nI n) (nI x) mt2 (bs_i q2) bo (bs_i q4) ou) hs)) 1 6 (va_A (lx_ws cJ cI h0 h1 n1 a1 e1 l1 b1 t1 h2 n2 a2 e2 l2 b2 t2 h4 c4 g5 (nI n) (nI (sp_lc n L)) L ab en lf bl tr (nI n) (nI r) mt (bs_i q1) (gf_T n L) ab2 en2 lf2 bl2 tr2 (nI n) (nI x) mt2 (bs_i q2) bo (bs_i q4) ou) hs) := by
  refine mt_ofWH (cc := b_L_dominator) (maxL := 5) (ret := (some .int)) (hh := [(0, 10, 13, 19)]) (by decide) rfl ?_
  intro p e s m args below meth c s₁ B hml hv9
  obtain ⟨rfl, ⟨hsz, ⟨hP, hK, hNw⟩, hD0⟩, hX⟩ := hv9
  have hx := B.exec
  have hb := B.bytes
  have hr := B.returns
  have hts := atoms_spec (ws := w_L_dominator) B.pre
  have hown : s.vm.findClass "FlowNestLaw" = some m.cls := findClass_of_methodNamed B.named
  have hlocks := B.notSynchronized
  have htb : c.exceptionTable.toList = tableOf [(0, 10, 13, 19)] := vx_table (x := y_L_dominator) B (hts _ List.mem_cons_self)
  subst hsz
  have hD := hD0.self (sz := s.heap.size)
  generalize hAe : va_A (lx_ws cJ cI h0 h1 n1 a1 e1 l1 b1 t1 h2 n2 a2 e2 l2 b2 t2 h4 c4 g5 (nI n) (nI (sp_lc n L)) L ab en lf bl tr (nI n) (nI r) mt (bs_i q1) (gf_T n L) ab2 en2 lf2 bl2 tr2 (nI n) (nI x) mt2 (bs_i q2) bo (bs_i q4) ou) s.heap.size = A at hD ⊢
  have hA : ∀ q : Nat, s.heap.size ≤ q → A q := fun q h => by rw [← hAe]; exact Or.inr h
  have hS : va_S A s.heap s.heap [] := va_S.rf
  have hP : va_P (dC, dI) vwCl (lx_ws cJ cI h0 h1 n1 a1 e1 l1 b1 t1 h2 n2 a2 e2 l2 b2 t2 h4 c4 g5 (nI n) (nI (sp_lc n L)) L ab en lf bl tr (nI n) (nI r) mt (bs_i q1) (gf_T n L) ab2 en2 lf2 bl2 tr2 (nI n) (nI x) mt2 (bs_i q2) bo (bs_i q4) ou) s.heap := hP
  have hl := lv_entry ([.ref h0, .int v0, .int (bs_i cv), .ref g5]) (n := 5) (Nat.le_of_ble_eq_true rfl)
  rw [lg_entry_eq]
  generalize (lg_sl ([.ref h0, .int v0, .int (bs_i cv), .ref g5]) ++ List.replicate (5 - (lg_sl ([.ref h0, .int v0, .int (bs_i cv), .ref g5])).length) Slot.unset).toArray = ls at hl ⊢
  have hl : lv_has ls 5 [(0, .ref h0), (1, .int v0), (2, .int (bs_i cv)), (3, .ref g5)] := hl
  refine lv_aload_n hx hb d_L_dominator_0 rfl (lv_at hl 3 rfl) ?_
  refine lv_iconst (v := nI 0) hx hb d_L_dominator_1 (by decide) ?_
  refine lv_aload_n hx hb d_L_dominator_2 rfl (lv_at hl 0 rfl) ?_
  refine lv_iload_n hx hb d_L_dominator_3 rfl (lv_at hl 1 rfl) ?_
  refine lv_iload_n hx hb d_L_dominator_4 rfl (lv_at hl 2 rfl) ?_
  have hPc := hP.sub (ws' := fn_ws cJ cI h0 h1 n1 a1 e1 l1 b1 t1 h2 n2 a2 e2 l2 b2 t2 h4 c4 (nI n) (nI (sp_lc n L)) L ab en lf bl tr (nI n) (nI r) mt (bs_i q1) (gf_T n L) ab2 en2 lf2 bl2 tr2 (nI n) (nI x) mt2 (bs_i q2) bo (bs_i q4)) [0, 1, 2, 3, 4, 5, 6, 7, 8, 9, 10, 11, 12, 13, 14, 15, 16] rfl
  have hDc := hD.sub (ws' := fn_ws cJ cI h0 h1 n1 a1 e1 l1 b1 t1 h2 n2 a2 e2 l2 b2 t2 h4 c4 (nI n) (nI (sp_lc n L)) L ab en lf bl tr (nI n) (nI r) mt (bs_i q1) (gf_T n L) ab2 en2 lf2 bl2 tr2 (nI n) (nI x) mt2 (bs_i q2) bo (bs_i q4)) [0, 1, 2, 3, 4, 5, 6, 7, 8, 9, 10, 11, 12, 13, 14, 15, 16] (by decide) rfl
  have hFc := va_free (wc := fn_ws cJ cI h0 h1 n1 a1 e1 l1 b1 t1 h2 n2 a2 e2 l2 b2 t2 h4 c4 (nI n) (nI (sp_lc n L)) L ab en lf bl tr (nI n) (nI r) mt (bs_i q1) (gf_T n L) ab2 en2 lf2 bl2 tr2 (nI n) (nI x) mt2 (bs_i q2) bo (bs_i q4)) hD hS hA [0, 1, 2, 3, 4, 5, 6, 7, 8, 9, 10, 11, 12, 13, 14, 15, 16] rfl
  refine vx_calli (vx_runV (C := "FlowNest") (b := h0) (As := [.int v0, .int (bs_i cv)]) (rest := [.int (nI 0), .ref g5]) ⟨hx, hb, hml, hown, hts⟩ (c_F_dominator l hl9 dC dI cJ cI h0 h1 n1 a1 e1 l1 b1 t1 h2 n2 a2 e2 l2 b2 t2 h4 c4 s.heap.size sa sb ab en lf bl tr mt ab2 en2 lf2 bl2 tr2 mt2 bo n r x L q1 q2 q4 v0 cv hn hL hI1 hI2 hI4) (cwV 2 hts (nm_gV nm_327 nm_328 nm_329 nm_1 nm_c_F_dominator) rfl rfl rfl (by decide +kernel) ⟨Nat.le_of_ble_eq_true rfl, Nat.le_of_ble_eq_true rfl⟩) ⟨cw_blindT, va_recv hK hP (ci := 2) rfl (q0 := 0) rfl, cw_preT hPc hDc hK hNw hX⟩ rfl rfl hl.1 rfl (lv_room (Nat.le_of_ble_eq_true rfl)) d_L_dominator_5 ⟨Nat.le_of_ble_eq_true rfl, Nat.le_of_ble_eq_true rfl⟩) hS (fun q _ h => hFc q h) hFc (fun q h1 h2 => absurd h2 (by omega)) (fun E ce q9 u t H1 locs ht hvm hpx hbx hz1 hk1 hS hce hcv hcl => ?_) (fun r1 u9 t H1 locs ht hvm hw hB hz1 hk1 hS => ?_)
  · have hkk : ∀ q : Nat, q < s.heap.size → H1[q]? = s.heap[q]? := fun q h => hk1 q h (by omega)
    have hP := va_Pk hP hkk
    clear hkk hk1 hz1 hPc hDc ht
    generalize H1 = H at hP hS hce ⊢
    subst hbx
    refine vx_catch (own := "FlowNestLaw") (name := "java/lang/IndexOutOfBoundsException") hown [] ⟨0, 10, 13, 19⟩ [] htb (fun z hz => nomatch hz) (by decide) (by decide) (hts _ (List.mem_cons_of_mem _ nm_276)) (xw_cI hX.1) hce hcv hcl ?_
    refine W.eq (g2 := F0 m 13 ls [.ref q9]) rfl ?_
    refine lv_astore (lv' := [(4, .ref q9), (0, .ref h0), (1, .int v0), (2, .int (bs_i cv)), (3, .ref g5)]) hx hb d_L_dominator_13 hl (by decide) rfl (fun ls hl => ?_)
    refine lv_iconst (v := nI 1) hx hb d_L_dominator_15 (by decide) ?_
    exact W.widen (k := 1) (n := 6) (Nat.le_of_ble_eq_true rfl) (Nat.le_of_ble_eq_true rfl) (W.iret (v := nI 1) hx hb hr (fun t ht hW => ⟨⟨(nI 1), (q1, ab, en, lf, bl, tr, mt, q2, ab2, en2, lf2, bl2, tr2, mt2, q4, bo, ou), rfl, ⟨⟨hI1, hI2, hI4⟩, Or.inr ⟨rfl, hpx⟩⟩, by rw [ht]; exact hP, hD⟩, hS.F ht⟩) hS.2.2 d_L_dominator_16)
  · obtain ⟨p91, ab92, en93, lf94, bl95, tr96, mt97, s98, yb99, yn910, yf911, yl912, yr913, ym914, w915, bo916⟩ := u9
    obtain ⟨hP1, hD1⟩ := hB
    rw [ht] at hP1
    obtain ⟨hP, hD⟩ := va_join (wr := ([17] : List Nat).filterMap (fun (i : Nat) => (lx_ws cJ cI h0 h1 n1 a1 e1 l1 b1 t1 h2 n2 a2 e2 l2 b2 t2 h4 c4 g5 (nI n) (nI (sp_lc n L)) L ab en lf bl tr (nI n) (nI r) mt (bs_i q1) (gf_T n L) ab2 en2 lf2 bl2 tr2 (nI n) (nI x) mt2 (bs_i q2) bo (bs_i q4) ou)[i]?)) (w1 := fn_ws cJ cI h0 h1 n1 a1 e1 l1 b1 t1 h2 n2 a2 e2 l2 b2 t2 h4 c4 (nI n) (nI (sp_lc n L)) L ab92 en93 lf94 bl95 tr96 (nI n) (nI r) mt97 (bs_i p91) (gf_T n L) yb99 yn910 yf911 yl912 yr913 (nI n) (nI x) ym914 (bs_i s98) bo916 (bs_i w915)) hP hD [0, 1, 2, 3, 4, 5, 6, 7, 8, 9, 10, 11, 12, 13, 14, 15, 16] [17] rfl rfl (by decide) (by decide) hk1 hFc hP1 hD1
    generalize H1 = H at hP hS ⊢
    have hP : va_P (dC, dI) vwCl (lx_ws cJ cI h0 h1 n1 a1 e1 l1 b1 t1 h2 n2 a2 e2 l2 b2 t2 h4 c4 g5 (nI n) (nI (sp_lc n L)) L ab92 en93 lf94 bl95 tr96 (nI n) (nI r) mt97 (bs_i p91) (gf_T n L) yb99 yn910 yf911 yl912 yr913 (nI n) (nI x) ym914 (bs_i s98) bo916 (bs_i w915) ou) H := hP.sub (ws' := lx_ws cJ cI h0 h1 n1 a1 e1 l1 b1 t1 h2 n2 a2 e2 l2 b2 t2 h4 c4 g5 (nI n) (nI (sp_lc n L)) L ab92 en93 lf94 bl95 tr96 (nI n) (nI r) mt97 (bs_i p91) (gf_T n L) yb99 yn910 yf911 yl912 yr913 (nI n) (nI x) ym914 (bs_i s98) bo916 (bs_i w915) ou) [1, 2, 3, 4, 5, 6, 7, 8, 9, 10, 11, 12, 13, 14, 15, 16, 17, 0] rfl
    have hD : va_D A (lx_ws cJ cI h0 h1 n1 a1 e1 l1 b1 t1 h2 n2 a2 e2 l2 b2 t2 h4 c4 g5 (nI n) (nI (sp_lc n L)) L ab92 en93 lf94 bl95 tr96 (nI n) (nI r) mt97 (bs_i p91) (gf_T n L) yb99 yn910 yf911 yl912 yr913 (nI n) (nI x) ym914 (bs_i s98) bo916 (bs_i w915) ou) := hD.sub (ws' := lx_ws cJ cI h0 h1 n1 a1 e1 l1 b1 t1 h2 n2 a2 e2 l2 b2 t2 h4 c4 g5 (nI n) (nI (sp_lc n L)) L ab92 en93 lf94 bl95 tr96 (nI n) (nI r) mt97 (bs_i p91) (gf_T n L) yb99 yn910 yf911 yl912 yr913 (nI n) (nI x) ym914 (bs_i s98) bo916 (bs_i w915) ou) [1, 2, 3, 4, 5, 6, 7, 8, 9, 10, 11, 12, 13, 14, 15, 16, 17, 0] (by decide) rfl
    obtain ⟨g1, g2, g4, k, hk_k, rfl, ha9⟩ := hw
    have hi9 := And.intro g1 (And.intro g2 g4)
    refine lv_i2l (v := r1.toInt64) hx hb d_L_dominator_8 rfl ?_
    refine wl_last (i := 0) hx hb hK hP hD hS 17 0 rfl rfl (by omega) (by decide) d_L_dominator_9 (fun H locs hP hD hS => ?_)
    have hP : va_P (dC, dI) vwCl (lx_ws cJ cI h0 h1 n1 a1 e1 l1 b1 t1 h2 n2 a2 e2 l2 b2 t2 h4 c4 g5 (nI n) (nI (sp_lc n L)) L ab92 en93 lf94 bl95 tr96 (nI n) (nI r) mt97 (bs_i p91) (gf_T n L) yb99 yn910 yf911 yl912 yr913 (nI n) (nI x) ym914 (bs_i s98) bo916 (bs_i w915) (vp_updL ou 0 r1.toInt64)) H := hP
    have hD : va_D A (lx_ws cJ cI h0 h1 n1 a1 e1 l1 b1 t1 h2 n2 a2 e2 l2 b2 t2 h4 c4 g5 (nI n) (nI (sp_lc n L)) L ab92 en93 lf94 bl95 tr96 (nI n) (nI r) mt97 (bs_i p91) (gf_T n L) yb99 yn910 yf911 yl912 yr913 (nI n) (nI x) ym914 (bs_i s98) bo916 (bs_i w915) (vp_updL ou 0 r1.toInt64)) := hD
    refine lv_goto (tgt := 17) hx hb d_L_dominator_10 (by decide) ?_
    refine lv_iconst (v := nI 0) hx hb d_L_dominator_17 (by decide) ?_
    exact W.widen (k := 1) (n := 6) (Nat.le_of_ble_eq_true rfl) (Nat.le_of_ble_eq_true rfl) (W.iret (v := nI 0) hx hb hr (fun t ht hW => ⟨⟨(nI 0), (p91, ab92, en93, lf94, bl95, tr96, mt97, s98, yb99, yn910, yf911, yl912, yr913, ym914, w915, bo916, vp_updL ou 0 r1.toInt64), rfl, ⟨hi9, Or.inl ⟨rfl, k, hk_k, rfl, r1, pk_uLs, ha9⟩⟩, by rw [ht]; exact hP, hD⟩, hS.F ht⟩) hS.2.2 d_L_dominator_18)
set_option maxHeartbeats 4000000 in
set_option maxRecDepth 100000 in
theorem c_L_dominates (l : Launch) (hl9 : l.stackTraces = false) (dC : Nat → ClassId) (dI : Nat → Nat → Nat) (cJ cI : ClassId) (h0 h1 n1 a1 e1 l1 b1 t1 h2 n2 a2 e2 l2 b2 t2 h4 c4 g5 hs sa sb : Nat) (ab : Nat → Int64) (en : Nat → Int32) (lf : Nat → Int32) (bl : Nat → Int32) (tr : Nat → Int32) (mt : Int64) (ab2 : Nat → Int64) (en2 : Nat → Int32) (lf2 : Nat → Int32) (bl2 : Nat → Int32) (tr2 : Nat → Int32) (mt2 : Int64) (bo : Nat → Int64) (ou : Nat → Int64) (n r x : Nat) (L : Nat → Int64) (q1 q2 q4 : Bool) (u0 v0 : Int32) (cv : Bool) (hn : n ≤ 48) (hL : ∀ u v, gf_E n L u v → v < n) (hI1 : fv_S n r L q1 ab en lf bl mt) (hI2 : fv_S n x (gf_T n L) q2 ab2 en2 lf2 bl2 mt2) (hI4 : fv_N n r L q4 bo) : Met l y_L_dominates w_L_dominates ({ frames := 8, cells := 2, slots := 12, locals := 161 }) (va_Pc [.ref h0, .int u0, .int v0, .int (bs_i cv), .ref g5] (cw_T (dC, dI) cJ cI (lx_ws cJ cI h0 h1 n1 a1 e1 l1 b1 t1 h2 n2 a2 e2 l2 b2 t2 h4 c4 g5 (nI n) (nI (sp_lc n L)) L ab en lf bl tr (nI n) (nI r) mt (bs_i q1) (gf_T n L) ab2 en2 lf2 bl2 tr2 (nI n) (nI x) mt2 (bs_i q2) bo (bs_i q4) ou) hs sa sb)) (va_Qi (fun (r9 : Int32) (u9 : Bool × (Nat → Int64) × (Nat → Int32) × (Nat → Int32) × (Nat → Int32) × (Nat → Int32) × Int64 × Bool × (Nat → Int64) × (Nat → Int32) × (Nat → Int32) × (Nat → Int32) × (Nat → Int32) × Int64 × Bool × (Nat → Int64) × (Nat → Int64)) => match u9 with | (p9, ab9, en9, lf9, bl9, tr9, mt9, s9, yb9, yn9, yf9, yl9, yr9, ym9, w9, bo9, ou9) => (fv_S n r L p9 ab9 en9 lf9 bl9 mt9 ∧ fv_S n x (gf_T n L) s9 yb9 yn9 yf9 yl9 ym9 ∧ fv_N n r L w9 bo9) ∧ ((r9 = nI 0 ∧ ∃ k j, k < n ∧ j < n ∧ u0 = nI k ∧ v0 = nI j ∧ ou9 0 = bs_l (gf_d (dm_D (gf_E n (gg_L cv n L)) (gg_r cv r x) k j))) ∨ (r9 = nI 1 ∧ ¬ ((∃ k, k < n ∧ u0 = nI k) ∧ ∃ j, j < n ∧ v0 = nI j)))) (fun (u9 : Bool × (Nat → Int64) × (Nat → Int32) × (Nat → Int32) × (Nat → Int32) × (Nat → Int32) × Int64 × Bool × (Nat → Int64) × (Nat → Int32) × (Nat → Int32) × (Nat → Int32) × (Nat → Int32) × Int64 × Bool × (Nat → Int64) × (Nat → Int64)) (t : State) => match u9 with | (p9, ab9, en9, lf9, bl9, tr9, mt9, s9, yb9, yn9, yf9, yl9, yr9, ym9, w9, bo9, ou9) => va_P (dC, dI) vwCl (lx_ws cJ cI h0 h1 n1 a1 e1 l1 b1 t1 h2 n2 a2 e2 l2 b2 t2 h4 c4 g5 (nI n) (nI (sp_lc n L)) L ab9 en9 lf9 bl9 tr9 (nI n) (nI r) mt9 (bs_i p9) (gf_T n L) yb9 yn9 yf9 yl9 yr9 (nI n) (nI x) ym9 (bs_i s9) bo9 (bs_i w9) ou9) t.heap ∧ va_D (va_A (lx_ws cJ cI h0 h1 n1 a1 e1 l1 b1 t1 h2 n2 a2 e2 l2 b2 t2 h4 c4 g5 (nI n) (nI (sp_lc n L)) L ab en lf bl tr (nI n) (nI r) mt (bs_i q1) (gf_T n L) ab2 en2 lf2 bl2 tr2 (nI n) (nI x) mt2 (bs_i q2) bo (bs_i q4) ou) hs) (lx_ws cJ cI h0 h1 n1 a1 e1 l1 b1 t1 h2 n2 a2 e2 l2 b2 t2 h4 c4 g5 (nI n) (nI (sp_lc n L)) L ab9 en9 lf9 bl9 tr9 (nI n) (nI r) mt9 (bs_i p9) (gf_T n L) yb9 yn9 yf9 yl9 yr9 (nI n) (nI x) ym9 (bs_i s9) bo9 (bs_i w9) ou9)) (va_A (lx_ws cJ cI h0 h1 n1 a1 e1 l1 b1 t1 h2 n2 a2 e2 l2 b2 t2 h4 c4 g5 (nI n) (nI (sp_lc n L)) L ab en lf bl tr (nI n) (nI r) mt (bs_i q1) (gf_T n L) ab2 en2 lf2 bl2 tr2 (nI n) (nI x) mt2 (bs_i q2) bo (bs_i q4) ou) hs)) 2 12 (va_A (lx_ws cJ cI h0 h1 n1 a1 e1 l1 b1 t1 h2 n2 a2 e2 l2 b2 t2 h4 c4 g5 (nI n) (nI (sp_lc n L)) L ab en lf bl tr (nI n) (nI r) mt (bs_i q1) (gf_T n L) ab2 en2 lf2 bl2 tr2 (nI n) (nI x) mt2 (bs_i q2) bo (bs_i q4) ou) hs) := by
  refine mt_ofWH (cc := b_L_dominates) (maxL := 6) (ret := (some .int)) (hh := [(0, 19, 22, 19)]) (by decide) rfl ?_
  intro p e s m args below meth c s₁ B hml hv9
  obtain ⟨rfl, ⟨hsz, ⟨hP, hK, hNw⟩, hD0⟩, hX⟩ := hv9
  have hx := B.exec
  have hb := B.bytes
  have hr := B.returns
  have hts := atoms_spec (ws := w_L_dominates) B.pre
  have hown : s.vm.findClass "FlowNestLaw" = some m.cls := findClass_of_methodNamed B.named
  have hlocks := B.notSynchronized
  have htb : c.exceptionTable.toList = tableOf [(0, 19, 22, 19)] := vx_table (x := y_L_dominates) B (hts _ List.mem_cons_self)
  subst hsz
  have hD := hD0.self (sz := s.heap.size)
  generalize hAe : va_A (lx_ws cJ cI h0 h1 n1 a1 e1 l1 b1 t1 h2 n2 a2 e2 l2 b2 t2 h4 c4 g5 (nI n) (nI (sp_lc n L)) L ab en lf bl tr (nI n) (nI r) mt (bs_i q1) (gf_T n L) ab2 en2 lf2 bl2 tr2 (nI n) (nI x) mt2 (bs_i q2) bo (bs_i q4) ou) s.heap.size = A at hD ⊢
  have hA : ∀ q : Nat, s.heap.size ≤ q → A q := fun q h => by rw [← hAe]; exact Or.inr h
  have hS : va_S A s.heap s.heap [] := va_S.rf
  have hP : va_P (dC, dI) vwCl (lx_ws cJ cI h0 h1 n1 a1 e1 l1 b1 t1 h2 n2 a2 e2 l2 b2 t2 h4 c4 g5 (nI n) (nI (sp_lc n L)) L ab en lf bl tr (nI n) (nI r) mt (bs_i q1) (gf_T n L) ab2 en2 lf2 bl2 tr2 (nI n) (nI x) mt2 (bs_i q2) bo (bs_i q4) ou) s.heap := hP
  have hl := lv_entry ([.ref h0, .int u0, .int v0, .int (bs_i cv), .ref g5]) (n := 6) (Nat.le_of_ble_eq_true rfl)
  rw [lg_entry_eq]
  generalize (lg_sl ([.ref h0, .int u0, .int v0, .int (bs_i cv), .ref g5]) ++ List.replicate (6 - (lg_sl ([.ref h0, .int u0, .int v0, .int (bs_i cv), .ref g5])).length) Slot.unset).toArray = ls at hl ⊢
  have hl : lv_has ls 6 [(0, .ref h0), (1, .int u0), (2, .int v0), (3, .int (bs_i cv)), (4, .ref g5)] := hl
  refine lv_aload hx hb d_L_dominates_0 (lv_at hl 4 rfl) ?_
  refine lv_iconst (v := nI 0) hx hb d_L_dominates_2 (by decide) ?_
  refine lv_aload_n hx hb d_L_dominates_3 rfl (lv_at hl 0 rfl) ?_
  refine lv_iload_n hx hb d_L_dominates_4 rfl (lv_at hl 1 rfl) ?_
  refine lv_iload_n hx hb d_L_dominates_5 rfl (lv_at hl 2 rfl) ?_
  refine lv_iload_n hx hb d_L_dominates_6 rfl (lv_at hl 3 rfl) ?_
  have hPc := hP.sub (ws' := fn_ws cJ cI h0 h1 n1 a1 e1 l1 b1 t1 h2 n2 a2 e2 l2 b2 t2 h4 c4 (nI n) (nI (sp_lc n L)) L ab en lf bl tr (nI n) (nI r) mt (bs_i q1) (gf_T n L) ab2 en2 lf2 bl2 tr2 (nI n) (nI x) mt2 (bs_i q2) bo (bs_i q4)) [0, 1, 2, 3, 4, 5, 6, 7, 8, 9, 10, 11, 12, 13, 14, 15, 16] rfl
  have hDc := hD.sub (ws' := fn_ws cJ cI h0 h1 n1 a1 e1 l1 b1 t1 h2 n2 a2 e2 l2 b2 t2 h4 c4 (nI n) (nI (sp_lc n L)) L ab en lf bl tr (nI n) (nI r) mt (bs_i q1) (gf_T n L) ab2 en2 lf2 bl2 tr2 (nI n) (nI x) mt2 (bs_i q2) bo (bs_i q4)) [0, 1, 2, 3, 4, 5, 6, 7, 8, 9, 10, 11, 12, 13, 14, 15, 16] (by decide) rfl
  have hFc := va_free (wc := fn_ws cJ cI h0 h1 n1 a1 e1 l1 b1 t1 h2 n2 a2 e2 l2 b2 t2 h4 c4 (nI n) (nI (sp_lc n L)) L ab en lf bl tr (nI n) (nI r) mt (bs_i q1) (gf_T n L) ab2 en2 lf2 bl2 tr2 (nI n) (nI x) mt2 (bs_i q2) bo (bs_i q4)) hD hS hA [0, 1, 2, 3, 4, 5, 6, 7, 8, 9, 10, 11, 12, 13, 14, 15, 16] rfl
  refine vx_calli (vx_runV (C := "FlowNest") (b := h0) (As := [.int u0, .int v0, .int (bs_i cv)]) (rest := [.int (nI 0), .ref g5]) ⟨hx, hb, hml, hown, hts⟩ (c_F_dominates l hl9 dC dI cJ cI h0 h1 n1 a1 e1 l1 b1 t1 h2 n2 a2 e2 l2 b2 t2 h4 c4 s.heap.size sa sb ab en lf bl tr mt ab2 en2 lf2 bl2 tr2 mt2 bo n r x L q1 q2 q4 u0 v0 cv hn hL hI1 hI2 hI4) (cwV 3 hts (nm_gV nm_338 nm_339 nm_340 nm_1 nm_c_F_dominates) rfl rfl rfl (by decide +kernel) ⟨Nat.le_of_ble_eq_true rfl, Nat.le_of_ble_eq_true rfl⟩) ⟨cw_blindT, va_recv hK hP (ci := 2) rfl (q0 := 0) rfl, cw_preT hPc hDc hK hNw hX⟩ rfl rfl hl.1 rfl (lv_room (Nat.le_of_ble_eq_true rfl)) d_L_dominates_7 ⟨Nat.le_of_ble_eq_true rfl, Nat.le_of_ble_eq_true rfl⟩) hS (fun q _ h => hFc q h) hFc (fun q h1 h2 => absurd h2 (by omega)) (fun E ce q9 u t H1 locs ht hvm hpx hbx hz1 hk1 hS hce hcv hcl => ?_) (fun r1 u9 t H1 locs ht hvm hw hB hz1 hk1 hS => ?_)
  · have hkk : ∀ q : Nat, q < s.heap.size → H1[q]? = s.heap[q]? := fun q h => hk1 q h (by omega)
    have hP := va_Pk hP hkk
    clear hkk hk1 hz1 hPc hDc ht
    generalize H1 = H at hP hS hce ⊢
    subst hbx
    refine vx_catch (own := "FlowNestLaw") (name := "java/lang/IndexOutOfBoundsException") hown [] ⟨0, 19, 22, 19⟩ [] htb (fun z hz => nomatch hz) (by decide) (by decide) (hts _ (List.mem_cons_of_mem _ nm_276)) (xw_cI hX.1) hce hcv hcl ?_
    refine W.eq (g2 := F0 m 22 ls [.ref q9]) rfl ?_
    refine lv_astore (lv' := [(5, .ref q9), (0, .ref h0), (1, .int u0), (2, .int v0), (3, .int (bs_i cv)), (4, .ref g5)]) hx hb d_L_dominates_22 hl (by decide) rfl (fun ls hl => ?_)
    refine lv_iconst (v := nI 1) hx hb d_L_dominates_24 (by decide) ?_
    exact W.widen (k := 2) (n := 12) (Nat.le_of_ble_eq_true rfl) (Nat.le_of_ble_eq_true rfl) (W.iret (v := nI 1) hx hb hr (fun t ht hW => ⟨⟨(nI 1), (q1, ab, en, lf, bl, tr, mt, q2, ab2, en2, lf2, bl2, tr2, mt2, q4, bo, ou), rfl, ⟨⟨hI1, hI2, hI4⟩, Or.inr ⟨rfl, hpx⟩⟩, by rw [ht]; exact hP, hD⟩, hS.F ht⟩) hS.2.2 d_L_dominates_25)
  · obtain ⟨p91, ab92, en93, lf94, bl95, tr96, mt97, s98, yb99, yn910, yf911, yl912, yr913, ym914, w915, bo916⟩ := u9
    obtain ⟨hP1, hD1⟩ := hB
    rw [ht] at hP1
    obtain ⟨hP, hD⟩ := va_join (wr := ([17] : List Nat).filterMap (fun (i : Nat) => (lx_ws cJ cI h0 h1 n1 a1 e1 l1 b1 t1 h2 n2 a2 e2 l2 b2 t2 h4 c4 g5 (nI n) (nI (sp_lc n L)) L ab en lf bl tr (nI n) (nI r) mt (bs_i q1) (gf_T n L) ab2 en2 lf2 bl2 tr2 (nI n) (nI x) mt2 (bs_i q2) bo (bs_i q4) ou)[i]?)) (w1 := fn_ws cJ cI h0 h1 n1 a1 e1 l1 b1 t1 h2 n2 a2 e2 l2 b2 t2 h4 c4 (nI n) (nI (sp_lc n L)) L ab92 en93 lf94 bl95 tr96 (nI n) (nI r) mt97 (bs_i p91) (gf_T n L) yb99 yn910 yf911 yl912 yr913 (nI n) (nI x) ym914 (bs_i s98) bo916 (bs_i w915)) hP hD [0, 1, 2, 3, 4, 5, 6, 7, 8, 9, 10, 11, 12, 13, 14, 15, 16] [17] rfl rfl (by decide) (by decide) hk1 hFc hP1 hD1
    generalize H1 = H at hP hS ⊢
    have hP : va_P (dC, dI) vwCl (lx_ws cJ cI h0 h1 n1 a1 e1 l1 b1 t1 h2 n2 a2 e2 l2 b2 t2 h4 c4 g5 (nI n) (nI (sp_lc n L)) L ab92 en93 lf94 bl95 tr96 (nI n) (nI r) mt97 (bs_i p91) (gf_T n L) yb99 yn910 yf911 yl912 yr913 (nI n) (nI x) ym914 (bs_i s98) bo916 (bs_i w915) ou) H := hP.sub (ws' := lx_ws cJ cI h0 h1 n1 a1 e1 l1 b1 t1 h2 n2 a2 e2 l2 b2 t2 h4 c4 g5 (nI n) (nI (sp_lc n L)) L ab92 en93 lf94 bl95 tr96 (nI n) (nI r) mt97 (bs_i p91) (gf_T n L) yb99 yn910 yf911 yl912 yr913 (nI n) (nI x) ym914 (bs_i s98) bo916 (bs_i w915) ou) [1, 2, 3, 4, 5, 6, 7, 8, 9, 10, 11, 12, 13, 14, 15, 16, 17, 0] rfl
    have hD : va_D A (lx_ws cJ cI h0 h1 n1 a1 e1 l1 b1 t1 h2 n2 a2 e2 l2 b2 t2 h4 c4 g5 (nI n) (nI (sp_lc n L)) L ab92 en93 lf94 bl95 tr96 (nI n) (nI r) mt97 (bs_i p91) (gf_T n L) yb99 yn910 yf911 yl912 yr913 (nI n) (nI x) ym914 (bs_i s98) bo916 (bs_i w915) ou) := hD.sub (ws' := lx_ws cJ cI h0 h1 n1 a1 e1 l1 b1 t1 h2 n2 a2 e2 l2 b2 t2 h4 c4 g5 (nI n) (nI (sp_lc n L)) L ab92 en93 lf94 bl95 tr96 (nI n) (nI r) mt97 (bs_i p91) (gf_T n L) yb99 yn910 yf911 yl912 yr913 (nI n) (nI x) ym914 (bs_i s98) bo916 (bs_i w915) ou) [1, 2, 3, 4, 5, 6, 7, 8, 9, 10, 11, 12, 13, 14, 15, 16, 17, 0] (by decide) rfl
    obtain ⟨g1, g2, g4, k, j, hk_k, hk_j, rfl, rfl, ha9⟩ := hw
    have hi9 := And.intro g1 (And.intro g2 g4)
    subst ha9
    refine wl_ifeqb (tgt := 17) hx hb d_L_dominates_10 (by decide) (fun hc10 => ?_) (fun hc10 => ?_)
    · refine lv_lconst (v := 0) hx hb d_L_dominates_17 (by decide) ?_
      refine wl_last (i := 0) hx hb hK hP hD hS 17 0 rfl rfl (by omega) (by decide) d_L_dominates_18 (fun H locs hP hD hS => ?_)
      have hP : va_P (dC, dI) vwCl (lx_ws cJ cI h0 h1 n1 a1 e1 l1 b1 t1 h2 n2 a2 e2 l2 b2 t2 h4 c4 g5 (nI n) (nI (sp_lc n L)) L ab92 en93 lf94 bl95 tr96 (nI n) (nI r) mt97 (bs_i p91) (gf_T n L) yb99 yn910 yf911 yl912 yr913 (nI n) (nI x) ym914 (bs_i s98) bo916 (bs_i w915) (vp_updL ou 0 0)) H := hP
      have hD : va_D A (lx_ws cJ cI h0 h1 n1 a1 e1 l1 b1 t1 h2 n2 a2 e2 l2 b2 t2 h4 c4 g5 (nI n) (nI (sp_lc n L)) L ab92 en93 lf94 bl95 tr96 (nI n) (nI r) mt97 (bs_i p91) (gf_T n L) yb99 yn910 yf911 yl912 yr913 (nI n) (nI x) ym914 (bs_i s98) bo916 (bs_i w915) (vp_updL ou 0 0)) := hD
      refine lv_goto (tgt := 26) hx hb d_L_dominates_19 (by decide) ?_
      refine lv_iconst (v := nI 0) hx hb d_L_dominates_26 (by decide) ?_
      exact W.widen (k := 2) (n := 12) (Nat.le_of_ble_eq_true rfl) (Nat.le_of_ble_eq_true rfl) (W.iret (v := nI 0) hx hb hr (fun t ht hW => ⟨⟨(nI 0), (p91, ab92, en93, lf94, bl95, tr96, mt97, s98, yb99, yn910, yf911, yl912, yr913, ym914, w915, bo916, vp_updL ou 0 0), rfl, ⟨hi9, Or.inl ⟨rfl, k, j, hk_k, hk_j, rfl, rfl, pk_uLs.trans (by rw [hc10]; rfl)⟩⟩, by rw [ht]; exact hP, hD⟩, hS.F ht⟩) hS.2.2 d_L_dominates_27)
    · refine lv_lconst (v := 1) hx hb d_L_dominates_13 (by decide) ?_
      refine lv_goto (tgt := 18) hx hb d_L_dominates_14 (by decide) ?_
      refine wl_last (i := 0) hx hb hK hP hD hS 17 0 rfl rfl (by omega) (by decide) d_L_dominates_18 (fun H locs hP hD hS => ?_)
      have hP : va_P (dC, dI) vwCl (lx_ws cJ cI h0 h1 n1 a1 e1 l1 b1 t1 h2 n2 a2 e2 l2 b2 t2 h4 c4 g5 (nI n) (nI (sp_lc n L)) L ab92 en93 lf94 bl95 tr96 (nI n) (nI r) mt97 (bs_i p91) (gf_T n L) yb99 yn910 yf911 yl912 yr913 (nI n) (nI x) ym914 (bs_i s98) bo916 (bs_i w915) (vp_updL ou 0 1)) H := hP
      have hD : va_D A (lx_ws cJ cI h0 h1 n1 a1 e1 l1 b1 t1 h2 n2 a2 e2 l2 b2 t2 h4 c4 g5 (nI n) (nI (sp_lc n L)) L ab92 en93 lf94 bl95 tr96 (nI n) (nI r) mt97 (bs_i p91) (gf_T n L) yb99 yn910 yf911 yl912 yr913 (nI n) (nI x) ym914 (bs_i s98) bo916 (bs_i w915) (vp_updL ou 0 1)) := hD
      refine lv_goto (tgt := 26) hx hb d_L_dominates_19 (by decide) ?_
      refine lv_iconst (v := nI 0) hx hb d_L_dominates_26 (by decide) ?_
      exact W.widen (k := 2) (n := 12) (Nat.le_of_ble_eq_true rfl) (Nat.le_of_ble_eq_true rfl) (W.iret (v := nI 0) hx hb hr (fun t ht hW => ⟨⟨(nI 0), (p91, ab92, en93, lf94, bl95, tr96, mt97, s98, yb99, yn910, yf911, yl912, yr913, ym914, w915, bo916, vp_updL ou 0 1), rfl, ⟨hi9, Or.inl ⟨rfl, k, j, hk_k, hk_j, rfl, rfl, pk_uLs.trans (by rw [hc10]; rfl)⟩⟩, by rw [ht]; exact hP, hD⟩, hS.F ht⟩) hS.2.2 d_L_dominates_27)
set_option maxHeartbeats 4000000 in
set_option maxRecDepth 100000 in
theorem c_L_level (l : Launch) (hl9 : l.stackTraces = false) (dC : Nat → ClassId) (dI : Nat → Nat → Nat) (cJ cI : ClassId) (h0 h1 n1 a1 e1 l1 b1 t1 h2 n2 a2 e2 l2 b2 t2 h4 c4 g5 hs sa sb : Nat) (ab : Nat → Int64) (en : Nat → Int32) (lf : Nat → Int32) (bl : Nat → Int32) (tr : Nat → Int32) (mt : Int64) (ab2 : Nat → Int64) (en2 : Nat → Int32) (lf2 : Nat → Int32) (bl2 : Nat → Int32) (tr2 : Nat → Int32) (mt2 : Int64) (bo : Nat → Int64) (ou : Nat → Int64) (n r x : Nat) (L : Nat → Int64) (q1 q2 q4 : Bool) (v0 : Int32)  (hn : n ≤ 48) (hL : ∀ u v, gf_E n L u v → v < n) (hI1 : fv_S n r L q1 ab en lf bl mt) (hI2 : fv_S n x (gf_T n L) q2 ab2 en2 lf2 bl2 mt2) (hI4 : fv_N n r L q4 bo) : Met l y_L_level w_L_level ({ frames := 8, cells := 1, slots := 6, locals := 160 }) (va_Pc [.ref h0, .int v0, .ref g5] (cw_T (dC, dI) cJ cI (lx_ws cJ cI h0 h1 n1 a1 e1 l1 b1 t1 h2 n2 a2 e2 l2 b2 t2 h4 c4 g5 (nI n) (nI (sp_lc n L)) L ab en lf bl tr (nI n) (nI r) mt (bs_i q1) (gf_T n L) ab2 en2 lf2 bl2 tr2 (nI n) (nI x) mt2 (bs_i q2) bo (bs_i q4) ou) hs sa sb)) (va_Qi (fun (r9 : Int32) (u9 : Bool × (Nat → Int64) × (Nat → Int32) × (Nat → Int32) × (Nat → Int32) × (Nat → Int32) × Int64 × Bool × (Nat → Int64) × (Nat → Int32) × (Nat → Int32) × (Nat → Int32) × (Nat → Int32) × Int64 × Bool × (Nat → Int64) × (Nat → Int64)) => match u9 with | (p9, ab9, en9, lf9, bl9, tr9, mt9, s9, yb9, yn9, yf9, yl9, yr9, ym9, w9, bo9, ou9) => (fv_S n r L p9 ab9 en9 lf9 bl9 mt9 ∧ fv_S n x (gf_T n L) s9 yb9 yn9 yf9 yl9 ym9 ∧ fv_N n r L w9 bo9) ∧ ((r9 = nI 0 ∧ ∃ k, k < n ∧ v0 = nI k ∧ ∃ z9 : Int32, ou9 0 = z9.toInt64 ∧ z9 = @ite _ (gf_R (gf_E n L) r k) (Classical.propDecidable _) (nI (sp_rk n L r k) - nI 1) (-1)) ∨ (r9 = nI 1 ∧ ¬ ∃ k, k < n ∧ v0 = nI k))) (fun (u9 : Bool × (Nat → Int64) × (Nat → Int32) × (Nat → Int32) × (Nat → Int32) × (Nat → Int32) × Int64 × Bool × (Nat → Int64) × (Nat → Int32) × (Nat → Int32) × (Nat → Int32) × (Nat → Int32) × Int64 × Bool × (Nat → Int64) × (Nat → Int64)) (t : State) => match u9 with | (p9, ab9, en9, lf9, bl9, tr9, mt9, s9, yb9, yn9, yf9, yl9, yr9, ym9, w9, bo9, ou9) => va_P (dC, dI) vwCl (lx_ws cJ cI h0 h1 n1 a1 e1 l1 b1 t1 h2 n2 a2 e2 l2 b2 t2 h4 c4 g5 (nI n) (nI (sp_lc n L)) L ab9 en9 lf9 bl9 tr9 (nI n) (nI r) mt9 (bs_i p9) (gf_T n L) yb9 yn9 yf9 yl9 yr9 (nI n) (nI x) ym9 (bs_i s9) bo9 (bs_i w9) ou9) t.heap ∧ va_D (va_A (lx_ws cJ cI h0 h1 n1 a1 e1 l1 b1 t1 h2 n2 a2 e2 l2 b2 t2 h4 c4 g5 (nI n) (nI (sp_lc n L)) L ab en lf bl tr (nI n) (nI r) mt (bs_i q1) (gf_T n L) ab2 en2 lf2 bl2 tr2 (nI n) (nI x) mt2 (bs_i q2) bo (bs_i q4) ou) hs) (lx_ws cJ cI h0 h1 n1 a1 e1 l1 b1 t1 h2 n2 a2 e2 l2 b2 t2 h4 c4 g5 (nI n) (nI (sp_lc n L)) L ab9 en9 lf9 bl9 tr9 (nI n) (nI r) mt9 (bs_i p9) (gf_T n L) yb9 yn9 yf9 yl9 yr9 (nI n) (nI x) ym9 (bs_i s9) bo9 (bs_i w9) ou9)) (va_A (lx_ws cJ cI h0 h1 n1 a1 e1 l1 b1 t1 h2 n2 a2 e2 l2 b2 t2 h4 c4 g5 (nI n) (nI (sp_lc n L)) L ab en lf bl tr (nI n) (nI r) mt (bs_i q1) (gf_T n L) ab2 en2 lf2 bl2 tr2 (nI n) (nI x) mt2 (bs_i q2) bo (bs_i q4) ou) hs)) 1 6 (va_A (lx_ws cJ cI h0 h1 n1 a1 e1 l1 b1 t1 h2 n2 a2 e2 l2 b2 t2 h4 c4 g5 (nI n) (nI (sp_lc n L)) L ab en lf bl tr (nI n) (nI r) mt (bs_i q1) (gf_T n L) ab2 en2 lf2 bl2 tr2 (nI n) (nI x) mt2 (bs_i q2) bo (bs_i q4) ou) hs) := by
  refine mt_ofWH (cc := b_L_level) (maxL := 4) (ret := (some .int)) (hh := [(0, 9, 12, 19)]) (by decide) rfl ?_
  intro p e s m args below meth c s₁ B hml hv9
  obtain ⟨rfl, ⟨hsz, ⟨hP, hK, hNw⟩, hD0⟩, hX⟩ := hv9
  have hx := B.exec
  have hb := B.bytes
  have hr := B.returns
  have hts := atoms_spec (ws := w_L_level) B.pre
  have hown : s.vm.findClass "FlowNestLaw" = some m.cls := findClass_of_methodNamed B.named
  have hlocks := B.notSynchronized
  have htb : c.exceptionTable.toList = tableOf [(0, 9, 12, 19)] := vx_table (x := y_L_level) B (hts _ List.mem_cons_self)
  subst hsz
  have hD := hD0.self (sz := s.heap.size)
  generalize hAe : va_A (lx_ws cJ cI h0 h1 n1 a1 e1 l1 b1 t1 h2 n2 a2 e2 l2 b2 t2 h4 c4 g5 (nI n) (nI (sp_lc n L)) L ab en lf bl tr (nI n) (nI r) mt (bs_i q1) (gf_T n L) ab2 en2 lf2 bl2 tr2 (nI n) (nI x) mt2 (bs_i q2) bo (bs_i q4) ou) s.heap.size = A at hD ⊢
  have hA : ∀ q : Nat, s.heap.size ≤ q → A q := fun q h => by rw [← hAe]; exact Or.inr h
  have hS : va_S A s.heap s.heap [] := va_S.rf
  have hP : va_P (dC, dI) vwCl (lx_ws cJ cI h0 h1 n1 a1 e1 l1 b1 t1 h2 n2 a2 e2 l2 b2 t2 h4 c4 g5 (nI n) (nI (sp_lc n L)) L ab en lf bl tr (nI n) (nI r) mt (bs_i q1) (gf_T n L) ab2 en2 lf2 bl2 tr2 (nI n) (nI x) mt2 (bs_i q2) bo (bs_i q4) ou) s.heap := hP
  have hl := lv_entry ([.ref h0, .int v0, .ref g5]) (n := 4) (Nat.le_of_ble_eq_true rfl)
  rw [lg_entry_eq]
  generalize (lg_sl ([.ref h0, .int v0, .ref g5]) ++ List.replicate (4 - (lg_sl ([.ref h0, .int v0, .ref g5])).length) Slot.unset).toArray = ls at hl ⊢
  have hl : lv_has ls 4 [(0, .ref h0), (1, .int v0), (2, .ref g5)] := hl
  refine lv_aload_n hx hb d_L_level_0 rfl (lv_at hl 2 rfl) ?_
  refine lv_iconst (v := nI 0) hx hb d_L_level_1 (by decide) ?_
  refine lv_aload_n hx hb d_L_level_2 rfl (lv_at hl 0 rfl) ?_
  refine lv_iload_n hx hb d_L_level_3 rfl (lv_at hl 1 rfl) ?_
  have hPc := hP.sub (ws' := fn_ws cJ cI h0 h1 n1 a1 e1 l1 b1 t1 h2 n2 a2 e2 l2 b2 t2 h4 c4 (nI n) (nI (sp_lc n L)) L ab en lf bl tr (nI n) (nI r) mt (bs_i q1) (gf_T n L) ab2 en2 lf2 bl2 tr2 (nI n) (nI x) mt2 (bs_i q2) bo (bs_i q4)) [0, 1, 2, 3, 4, 5, 6, 7, 8, 9, 10, 11, 12, 13, 14, 15, 16] rfl
  have hDc := hD.sub (ws' := fn_ws cJ cI h0 h1 n1 a1 e1 l1 b1 t1 h2 n2 a2 e2 l2 b2 t2 h4 c4 (nI n) (nI (sp_lc n L)) L ab en lf bl tr (nI n) (nI r) mt (bs_i q1) (gf_T n L) ab2 en2 lf2 bl2 tr2 (nI n) (nI x) mt2 (bs_i q2) bo (bs_i q4)) [0, 1, 2, 3, 4, 5, 6, 7, 8, 9, 10, 11, 12, 13, 14, 15, 16] (by decide) rfl
  have hFc := va_free (wc := fn_ws cJ cI h0 h1 n1 a1 e1 l1 b1 t1 h2 n2 a2 e2 l2 b2 t2 h4 c4 (nI n) (nI (sp_lc n L)) L ab en lf bl tr (nI n) (nI r) mt (bs_i q1) (gf_T n L) ab2 en2 lf2 bl2 tr2 (nI n) (nI x) mt2 (bs_i q2) bo (bs_i q4)) hD hS hA [0, 1, 2, 3, 4, 5, 6, 7, 8, 9, 10, 11, 12, 13, 14, 15, 16] rfl
  refine vx_calli (vx_runV (C := "FlowNest") (b := h0) (As := [.int v0]) (rest := [.int (nI 0), .ref g5]) ⟨hx, hb, hml, hown, hts⟩ (c_F_level l hl9 dC dI cJ cI h0 h1 n1 a1 e1 l1 b1 t1 h2 n2 a2 e2 l2 b2 t2 h4 c4 s.heap.size sa sb ab en lf bl tr mt ab2 en2 lf2 bl2 tr2 mt2 bo n r x L q1 q2 q4 v0 hn hL hI1 hI2 hI4) (cwV 1 hts (nm_gV nm_345 nm_346 nm_347 nm_1 nm_c_F_level) rfl rfl rfl (by decide +kernel) ⟨Nat.le_of_ble_eq_true rfl, Nat.le_of_ble_eq_true rfl⟩) ⟨cw_blindT, va_recv hK hP (ci := 2) rfl (q0 := 0) rfl, cw_preT hPc hDc hK hNw hX⟩ rfl rfl hl.1 rfl (lv_room (Nat.le_of_ble_eq_true rfl)) d_L_level_4 ⟨Nat.le_of_ble_eq_true rfl, Nat.le_of_ble_eq_true rfl⟩) hS (fun q _ h => hFc q h) hFc (fun q h1 h2 => absurd h2 (by omega)) (fun E ce q9 u t H1 locs ht hvm hpx hbx hz1 hk1 hS hce hcv hcl => ?_) (fun r1 u9 t H1 locs ht hvm hw hB hz1 hk1 hS => ?_)
  · have hkk : ∀ q : Nat, q < s.heap.size → H1[q]? = s.heap[q]? := fun q h => hk1 q h (by omega)
    have hP := va_Pk hP hkk
    clear hkk hk1 hz1 hPc hDc ht
    generalize H1 = H at hP hS hce ⊢
    subst hbx
    refine vx_catch (own := "FlowNestLaw") (name := "java/lang/IndexOutOfBoundsException") hown [] ⟨0, 9, 12, 19⟩ [] htb (fun z hz => nomatch hz) (by decide) (by decide) (hts _ (List.mem_cons_of_mem _ nm_276)) (xw_cI hX.1) hce hcv hcl ?_
    refine W.eq (g2 := F0 m 12 ls [.ref q9]) rfl ?_
    refine lv_astore_n (lv' := [(3, .ref q9), (0, .ref h0), (1, .int v0), (2, .ref g5)]) hx hb d_L_level_12 rfl hl (by decide) rfl (fun ls hl => ?_)
    refine lv_iconst (v := nI 1) hx hb d_L_level_13 (by decide) ?_
    exact W.widen (k := 1) (n := 6) (Nat.le_of_ble_eq_true rfl) (Nat.le_of_ble_eq_true rfl) (W.iret (v := nI 1) hx hb hr (fun t ht hW => ⟨⟨(nI 1), (q1, ab, en, lf, bl, tr, mt, q2, ab2, en2, lf2, bl2, tr2, mt2, q4, bo, ou), rfl, ⟨⟨hI1, hI2, hI4⟩, Or.inr ⟨rfl, hpx⟩⟩, by rw [ht]; exact hP, hD⟩, hS.F ht⟩) hS.2.2 d_L_level_14)
  · obtain ⟨p91, ab92, en93, lf94, bl95, tr96, mt97, s98, yb99, yn910, yf911, yl912, yr913, ym914, w915, bo916⟩ := u9
    obtain ⟨hP1, hD1⟩ := hB
    rw [ht] at hP1
    obtain ⟨hP, hD⟩ := va_join (wr := ([17] : List Nat).filterMap (fun (i : Nat) => (lx_ws cJ cI h0 h1 n1 a1 e1 l1 b1 t1 h2 n2 a2 e2 l2 b2 t2 h4 c4 g5 (nI n) (nI (sp_lc n L)) L ab en lf bl tr (nI n) (nI r) mt (bs_i q1) (gf_T n L) ab2 en2 lf2 bl2 tr2 (nI n) (nI x) mt2 (bs_i q2) bo (bs_i q4) ou)[i]?)) (w1 := fn_ws cJ cI h0 h1 n1 a1 e1 l1 b1 t1 h2 n2 a2 e2 l2 b2 t2 h4 c4 (nI n) (nI (sp_lc n L)) L ab92 en93 lf94 bl95 tr96 (nI n) (nI r) mt97 (bs_i p91) (gf_T n L) yb99 yn910 yf911 yl912 yr913 (nI n) (nI x) ym914 (bs_i s98) bo916 (bs_i w915)) hP hD [0, 1, 2, 3, 4, 5, 6, 7, 8, 9, 10, 11, 12, 13, 14, 15, 16] [17] rfl rfl (by decide) (by decide) hk1 hFc hP1 hD1
    generalize H1 = H at hP hS ⊢
    have hP : va_P (dC, dI) vwCl (lx_ws cJ cI h0 h1 n1 a1 e1 l1 b1 t1 h2 n2 a2 e2 l2 b2 t2 h4 c4 g5 (nI n) (nI (sp_lc n L)) L ab92 en93 lf94 bl95 tr96 (nI n) (nI r) mt97 (bs_i p91) (gf_T n L) yb99 yn910 yf911 yl912 yr913 (nI n) (nI x) ym914 (bs_i s98) bo916 (bs_i w915) ou) H := hP.sub (ws' := lx_ws cJ cI h0 h1 n1 a1 e1 l1 b1 t1 h2 n2 a2 e2 l2 b2 t2 h4 c4 g5 (nI n) (nI (sp_lc n L)) L ab92 en93 lf94 bl95 tr96 (nI n) (nI r) mt97 (bs_i p91) (gf_T n L) yb99 yn910 yf911 yl912 yr913 (nI n) (nI x) ym914 (bs_i s98) bo916 (bs_i w915) ou) [1, 2, 3, 4, 5, 6, 7, 8, 9, 10, 11, 12, 13, 14, 15, 16, 17, 0] rfl
    have hD : va_D A (lx_ws cJ cI h0 h1 n1 a1 e1 l1 b1 t1 h2 n2 a2 e2 l2 b2 t2 h4 c4 g5 (nI n) (nI (sp_lc n L)) L ab92 en93 lf94 bl95 tr96 (nI n) (nI r) mt97 (bs_i p91) (gf_T n L) yb99 yn910 yf911 yl912 yr913 (nI n) (nI x) ym914 (bs_i s98) bo916 (bs_i w915) ou) := hD.sub (ws' := lx_ws cJ cI h0 h1 n1 a1 e1 l1 b1 t1 h2 n2 a2 e2 l2 b2 t2 h4 c4 g5 (nI n) (nI (sp_lc n L)) L ab92 en93 lf94 bl95 tr96 (nI n) (nI r) mt97 (bs_i p91) (gf_T n L) yb99 yn910 yf911 yl912 yr913 (nI n) (nI x) ym914 (bs_i s98) bo916 (bs_i w915) ou) [1, 2, 3, 4, 5, 6, 7, 8, 9, 10, 11, 12, 13, 14, 15, 16, 17, 0] (by decide) rfl
    obtain ⟨g1, g2, g4, k, hk_k, rfl, ha9⟩ := hw
    have hi9 := And.intro g1 (And.intro g2 g4)
    refine lv_i2l (v := r1.toInt64) hx hb d_L_level_7 rfl ?_
    refine wl_last (i := 0) hx hb hK hP hD hS 17 0 rfl rfl (by omega) (by decide) d_L_level_8 (fun H locs hP hD hS => ?_)
    have hP : va_P (dC, dI) vwCl (lx_ws cJ cI h0 h1 n1 a1 e1 l1 b1 t1 h2 n2 a2 e2 l2 b2 t2 h4 c4 g5 (nI n) (nI (sp_lc n L)) L ab92 en93 lf94 bl95 tr96 (nI n) (nI r) mt97 (bs_i p91) (gf_T n L) yb99 yn910 yf911 yl912 yr913 (nI n) (nI x) ym914 (bs_i s98) bo916 (bs_i w915) (vp_updL ou 0 r1.toInt64)) H := hP
    have hD : va_D A (lx_ws cJ cI h0 h1 n1 a1 e1 l1 b1 t1 h2 n2 a2 e2 l2 b2 t2 h4 c4 g5 (nI n) (nI (sp_lc n L)) L ab92 en93 lf94 bl95 tr96 (nI n) (nI r) mt97 (bs_i p91) (gf_T n L) yb99 yn910 yf911 yl912 yr913 (nI n) (nI x) ym914 (bs_i s98) bo916 (bs_i w915) (vp_updL ou 0 r1.toInt64)) := hD
    refine lv_goto (tgt := 15) hx hb d_L_level_9 (by decide) ?_
    refine lv_iconst (v := nI 0) hx hb d_L_level_15 (by decide) ?_
    exact W.widen (k := 1) (n := 6) (Nat.le_of_ble_eq_true rfl) (Nat.le_of_ble_eq_true rfl) (W.iret (v := nI 0) hx hb hr (fun t ht hW => ⟨⟨(nI 0), (p91, ab92, en93, lf94, bl95, tr96, mt97, s98, yb99, yn910, yf911, yl912, yr913, ym914, w915, bo916, vp_updL ou 0 r1.toInt64), rfl, ⟨hi9, Or.inl ⟨rfl, k, hk_k, rfl, r1, pk_uLs, ha9⟩⟩, by rw [ht]; exact hP, hD⟩, hS.F ht⟩) hS.2.2 d_L_level_16)
set_option maxHeartbeats 4000000 in
set_option maxRecDepth 100000 in
theorem c_L_frontier (l : Launch) (hl9 : l.stackTraces = false) (dC : Nat → ClassId) (dI : Nat → Nat → Nat) (cJ cI : ClassId) (h0 h1 n1 a1 e1 l1 b1 t1 h2 n2 a2 e2 l2 b2 t2 h4 c4 g5 hs sa sb : Nat) (ab : Nat → Int64) (en : Nat → Int32) (lf : Nat → Int32) (bl : Nat → Int32) (tr : Nat → Int32) (mt : Int64) (ab2 : Nat → Int64) (en2 : Nat → Int32) (lf2 : Nat → Int32) (bl2 : Nat → Int32) (tr2 : Nat → Int32) (mt2 : Int64) (bo : Nat → Int64) (ou : Nat → Int64) (n r x : Nat) (L : Nat → Int64) (q1 q2 q4 : Bool) (v0 : Int32)  (hn : n ≤ 48) (hL : ∀ u v, gf_E n L u v → v < n) (hI1 : fv_S n r L q1 ab en lf bl mt) (hI2 : fv_S n x (gf_T n L) q2 ab2 en2 lf2 bl2 mt2) (hI4 : fv_N n r L q4 bo) : Met l y_L_frontier w_L_frontier ({ frames := 8, cells := 1, slots := 6, locals := 159 }) (va_Pc [.ref h0, .int v0, .ref g5] (cw_T (dC, dI) cJ cI (lx_ws cJ cI h0 h1 n1 a1 e1 l1 b1 t1 h2 n2 a2 e2 l2 b2 t2 h4 c4 g5 (nI n) (nI (sp_lc n L)) L ab en lf bl tr (nI n) (nI r) mt (bs_i q1) (gf_T n L) ab2 en2 lf2 bl2 tr2 (nI n) (nI x) mt2 (bs_i q2) bo (bs_i q4) ou) hs sa sb)) (va_Qi (fun (r9 : Int32) (u9 : Bool × (Nat → Int64) × (Nat → Int32) × (Nat → Int32) × (Nat → Int32) × (Nat → Int32) × Int64 × Bool × (Nat → Int64) × (Nat → Int32) × (Nat → Int32) × (Nat → Int32) × (Nat → Int32) × Int64 × Bool × (Nat → Int64) × (Nat → Int64)) => match u9 with | (p9, ab9, en9, lf9, bl9, tr9, mt9, s9, yb9, yn9, yf9, yl9, yr9, ym9, w9, bo9, ou9) => (fv_S n r L p9 ab9 en9 lf9 bl9 mt9 ∧ fv_S n x (gf_T n L) s9 yb9 yn9 yf9 yl9 ym9 ∧ fv_N n r L w9 bo9) ∧ ((r9 = nI 0 ∧ ∃ k, k < n ∧ v0 = nI k ∧ ou9 0 = sp_fr n L r k) ∨ (r9 = nI 1 ∧ ¬ ∃ k, k < n ∧ v0 = nI k))) (fun (u9 : Bool × (Nat → Int64) × (Nat → Int32) × (Nat → Int32) × (Nat → Int32) × (Nat → Int32) × Int64 × Bool × (Nat → Int64) × (Nat → Int32) × (Nat → Int32) × (Nat → Int32) × (Nat → Int32) × Int64 × Bool × (Nat → Int64) × (Nat → Int64)) (t : State) => match u9 with | (p9, ab9, en9, lf9, bl9, tr9, mt9, s9, yb9, yn9, yf9, yl9, yr9, ym9, w9, bo9, ou9) => va_P (dC, dI) vwCl (lx_ws cJ cI h0 h1 n1 a1 e1 l1 b1 t1 h2 n2 a2 e2 l2 b2 t2 h4 c4 g5 (nI n) (nI (sp_lc n L)) L ab9 en9 lf9 bl9 tr9 (nI n) (nI r) mt9 (bs_i p9) (gf_T n L) yb9 yn9 yf9 yl9 yr9 (nI n) (nI x) ym9 (bs_i s9) bo9 (bs_i w9) ou9) t.heap ∧ va_D (va_A (lx_ws cJ cI h0 h1 n1 a1 e1 l1 b1 t1 h2 n2 a2 e2 l2 b2 t2 h4 c4 g5 (nI n) (nI (sp_lc n L)) L ab en lf bl tr (nI n) (nI r) mt (bs_i q1) (gf_T n L) ab2 en2 lf2 bl2 tr2 (nI n) (nI x) mt2 (bs_i q2) bo (bs_i q4) ou) hs) (lx_ws cJ cI h0 h1 n1 a1 e1 l1 b1 t1 h2 n2 a2 e2 l2 b2 t2 h4 c4 g5 (nI n) (nI (sp_lc n L)) L ab9 en9 lf9 bl9 tr9 (nI n) (nI r) mt9 (bs_i p9) (gf_T n L) yb9 yn9 yf9 yl9 yr9 (nI n) (nI x) ym9 (bs_i s9) bo9 (bs_i w9) ou9)) (va_A (lx_ws cJ cI h0 h1 n1 a1 e1 l1 b1 t1 h2 n2 a2 e2 l2 b2 t2 h4 c4 g5 (nI n) (nI (sp_lc n L)) L ab en lf bl tr (nI n) (nI r) mt (bs_i q1) (gf_T n L) ab2 en2 lf2 bl2 tr2 (nI n) (nI x) mt2 (bs_i q2) bo (bs_i q4) ou) hs)) 1 6 (va_A (lx_ws cJ cI h0 h1 n1 a1 e1 l1 b1 t1 h2 n2 a2 e2 l2 b2 t2 h4 c4 g5 (nI n) (nI (sp_lc n L)) L ab en lf bl tr (nI n) (nI r) mt (bs_i q1) (gf_T n L) ab2 en2 lf2 bl2 tr2 (nI n) (nI x) mt2 (bs_i q2) bo (bs_i q4) ou) hs) := by
  refine mt_ofWH (cc := b_L_frontier) (maxL := 4) (ret := (some .int)) (hh := [(0, 8, 11, 19)]) (by decide) rfl ?_
  intro p e s m args below meth c s₁ B hml hv9
  obtain ⟨rfl, ⟨hsz, ⟨hP, hK, hNw⟩, hD0⟩, hX⟩ := hv9
  have hx := B.exec
  have hb := B.bytes
  have hr := B.returns
  have hts := atoms_spec (ws := w_L_frontier) B.pre
  have hown : s.vm.findClass "FlowNestLaw" = some m.cls := findClass_of_methodNamed B.named
  have hlocks := B.notSynchronized
  have htb : c.exceptionTable.toList = tableOf [(0, 8, 11, 19)] := vx_table (x := y_L_frontier) B (hts _ List.mem_cons_self)
  subst hsz
  have hD := hD0.self (sz := s.heap.size)
  generalize hAe : va_A (lx_ws cJ cI h0 h1 n1 a1 e1 l1 b1 t1 h2 n2 a2 e2 l2 b2 t2 h4 c4 g5 (nI n) (nI (sp_lc n L)) L ab en lf bl tr (nI n) (nI r) mt (bs_i q1) (gf_T n L) ab2 en2 lf2 bl2 tr2 (nI n) (nI x) mt2 (bs_i q2) bo (bs_i q4) ou) s.heap.size = A at hD ⊢
  have hA : ∀ q : Nat, s.heap.size ≤ q → A q := fun q h => by rw [← hAe]; exact Or.inr h
  have hS : va_S A s.heap s.heap [] := va_S.rf
  have hP : va_P (dC, dI) vwCl (lx_ws cJ cI h0 h1 n1 a1 e1 l1 b1 t1 h2 n2 a2 e2 l2 b2 t2 h4 c4 g5 (nI n) (nI (sp_lc n L)) L ab en lf bl tr (nI n) (nI r) mt (bs_i q1) (gf_T n L) ab2 en2 lf2 bl2 tr2 (nI n) (nI x) mt2 (bs_i q2) bo (bs_i q4) ou) s.heap := hP
  have hl := lv_entry ([.ref h0, .int v0, .ref g5]) (n := 4) (Nat.le_of_ble_eq_true rfl)
  rw [lg_entry_eq]
  generalize (lg_sl ([.ref h0, .int v0, .ref g5]) ++ List.replicate (4 - (lg_sl ([.ref h0, .int v0, .ref g5])).length) Slot.unset).toArray = ls at hl ⊢
  have hl : lv_has ls 4 [(0, .ref h0), (1, .int v0), (2, .ref g5)] := hl
  refine lv_aload_n hx hb d_L_frontier_0 rfl (lv_at hl 2 rfl) ?_
  refine lv_iconst (v := nI 0) hx hb d_L_frontier_1 (by decide) ?_
  refine lv_aload_n hx hb d_L_frontier_2 rfl (lv_at hl 0 rfl) ?_
  refine lv_iload_n hx hb d_L_frontier_3 rfl (lv_at hl 1 rfl) ?_
  have hPc := hP.sub (ws' := fn_ws cJ cI h0 h1 n1 a1 e1 l1 b1 t1 h2 n2 a2 e2 l2 b2 t2 h4 c4 (nI n) (nI (sp_lc n L)) L ab en lf bl tr (nI n) (nI r) mt (bs_i q1) (gf_T n L) ab2 en2 lf2 bl2 tr2 (nI n) (nI x) mt2 (bs_i q2) bo (bs_i q4)) [0, 1, 2, 3, 4, 5, 6, 7, 8, 9, 10, 11, 12, 13, 14, 15, 16] rfl
  have hDc := hD.sub (ws' := fn_ws cJ cI h0 h1 n1 a1 e1 l1 b1 t1 h2 n2 a2 e2 l2 b2 t2 h4 c4 (nI n) (nI (sp_lc n L)) L ab en lf bl tr (nI n) (nI r) mt (bs_i q1) (gf_T n L) ab2 en2 lf2 bl2 tr2 (nI n) (nI x) mt2 (bs_i q2) bo (bs_i q4)) [0, 1, 2, 3, 4, 5, 6, 7, 8, 9, 10, 11, 12, 13, 14, 15, 16] (by decide) rfl
  have hFc := va_free (wc := fn_ws cJ cI h0 h1 n1 a1 e1 l1 b1 t1 h2 n2 a2 e2 l2 b2 t2 h4 c4 (nI n) (nI (sp_lc n L)) L ab en lf bl tr (nI n) (nI r) mt (bs_i q1) (gf_T n L) ab2 en2 lf2 bl2 tr2 (nI n) (nI x) mt2 (bs_i q2) bo (bs_i q4)) hD hS hA [0, 1, 2, 3, 4, 5, 6, 7, 8, 9, 10, 11, 12, 13, 14, 15, 16] rfl
  refine vx_calll (vx_runV (C := "FlowNest") (b := h0) (As := [.int v0]) (rest := [.int (nI 0), .ref g5]) ⟨hx, hb, hml, hown, hts⟩ (c_F_frontier l hl9 dC dI cJ cI h0 h1 n1 a1 e1 l1 b1 t1 h2 n2 a2 e2 l2 b2 t2 h4 c4 s.heap.size sa sb ab en lf bl tr mt ab2 en2 lf2 bl2 tr2 mt2 bo n r x L q1 q2 q4 v0 hn hL hI1 hI2 hI4) (cwV 1 hts (nm_gV nm_352 nm_353 nm_354 nm_1 nm_c_F_frontier) rfl rfl rfl (by decide +kernel) ⟨Nat.le_of_ble_eq_true rfl, Nat.le_of_ble_eq_true rfl⟩) ⟨cw_blindT, va_recv hK hP (ci := 2) rfl (q0 := 0) rfl, cw_preT hPc hDc hK hNw hX⟩ rfl rfl hl.1 rfl (lv_room (Nat.le_of_ble_eq_true rfl)) d_L_frontier_4 ⟨Nat.le_of_ble_eq_true rfl, Nat.le_of_ble_eq_true rfl⟩) hS (fun q _ h => hFc q h) hFc (fun q h1 h2 => absurd h2 (by omega)) (fun E ce q9 u t H1 locs ht hvm hpx hbx hz1 hk1 hS hce hcv hcl => ?_) (fun r1 u9 t H1 locs ht hvm hw hB hz1 hk1 hS => ?_)
  · have hkk : ∀ q : Nat, q < s.heap.size → H1[q]? = s.heap[q]? := fun q h => hk1 q h (by omega)
    have hP := va_Pk hP hkk
    clear hkk hk1 hz1 hPc hDc ht
    generalize H1 = H at hP hS hce ⊢
    subst hbx
    refine vx_catch (own := "FlowNestLaw") (name := "java/lang/IndexOutOfBoundsException") hown [] ⟨0, 8, 11, 19⟩ [] htb (fun z hz => nomatch hz) (by decide) (by decide) (hts _ (List.mem_cons_of_mem _ nm_276)) (xw_cI hX.1) hce hcv hcl ?_
    refine W.eq (g2 := F0 m 11 ls [.ref q9]) rfl ?_
    refine lv_astore_n (lv' := [(3, .ref q9), (0, .ref h0), (1, .int v0), (2, .ref g5)]) hx hb d_L_frontier_11 rfl hl (by decide) rfl (fun ls hl => ?_)
    refine lv_iconst (v := nI 1) hx hb d_L_frontier_12 (by decide) ?_
    exact W.widen (k := 1) (n := 6) (Nat.le_of_ble_eq_true rfl) (Nat.le_of_ble_eq_true rfl) (W.iret (v := nI 1) hx hb hr (fun t ht hW => ⟨⟨(nI 1), (q1, ab, en, lf, bl, tr, mt, q2, ab2, en2, lf2, bl2, tr2, mt2, q4, bo, ou), rfl, ⟨⟨hI1, hI2, hI4⟩, Or.inr ⟨rfl, hpx⟩⟩, by rw [ht]; exact hP, hD⟩, hS.F ht⟩) hS.2.2 d_L_frontier_13)
  · obtain ⟨p91, ab92, en93, lf94, bl95, tr96, mt97, s98, yb99, yn910, yf911, yl912, yr913, ym914, w915, bo916⟩ := u9
    obtain ⟨hP1, hD1⟩ := hB
    rw [ht] at hP1
    obtain ⟨hP, hD⟩ := va_join (wr := ([17] : List Nat).filterMap (fun (i : Nat) => (lx_ws cJ cI h0 h1 n1 a1 e1 l1 b1 t1 h2 n2 a2 e2 l2 b2 t2 h4 c4 g5 (nI n) (nI (sp_lc n L)) L ab en lf bl tr (nI n) (nI r) mt (bs_i q1) (gf_T n L) ab2 en2 lf2 bl2 tr2 (nI n) (nI x) mt2 (bs_i q2) bo (bs_i q4) ou)[i]?)) (w1 := fn_ws cJ cI h0 h1 n1 a1 e1 l1 b1 t1 h2 n2 a2 e2 l2 b2 t2 h4 c4 (nI n) (nI (sp_lc n L)) L ab92 en93 lf94 bl95 tr96 (nI n) (nI r) mt97 (bs_i p91) (gf_T n L) yb99 yn910 yf911 yl912 yr913 (nI n) (nI x) ym914 (bs_i s98) bo916 (bs_i w915)) hP hD [0, 1, 2, 3, 4, 5, 6, 7, 8, 9, 10, 11, 12, 13, 14, 15, 16] [17] rfl rfl (by decide) (by decide) hk1 hFc hP1 hD1
    generalize H1 = H at hP hS ⊢
    have hP : va_P (dC, dI) vwCl (lx_ws cJ cI h0 h1 n1 a1 e1 l1 b1 t1 h2 n2 a2 e2 l2 b2 t2 h4 c4 g5 (nI n) (nI (sp_lc n L)) L ab92 en93 lf94 bl95 tr96 (nI n) (nI r) mt97 (bs_i p91) (gf_T n L) yb99 yn910 yf911 yl912 yr913 (nI n) (nI x) ym914 (bs_i s98) bo916 (bs_i w915) ou) H := hP.sub (ws' := lx_ws cJ cI h0 h1 n1 a1 e1 l1 b1 t1 h2 n2 a2 e2 l2 b2 t2 h4 c4 g5 (nI n) (nI (sp_lc n L)) L ab92 en93 lf94 bl95 tr96 (nI n) (nI r) mt97 (bs_i p91) (gf_T n L) yb99 yn910 yf911 yl912 yr913 (nI n) (nI x) ym914 (bs_i s98) bo916 (bs_i w915) ou) [1, 2, 3, 4, 5, 6, 7, 8, 9, 10, 11, 12, 13, 14, 15, 16, 17, 0] rfl
    have hD : va_D A (lx_ws cJ cI h0 h1 n1 a1 e1 l1 b1 t1 h2 n2 a2 e2 l2 b2 t2 h4 c4 g5 (nI n) (nI (sp_lc n L)) L ab92 en93 lf94 bl95 tr96 (nI n) (nI r) mt97 (bs_i p91) (gf_T n L) yb99 yn910 yf911 yl912 yr913 (nI n) (nI x) ym914 (bs_i s98) bo916 (bs_i w915) ou) := hD.sub (ws' := lx_ws cJ cI h0 h1 n1 a1 e1 l1 b1 t1 h2 n2 a2 e2 l2 b2 t2 h4 c4 g5 (nI n) (nI (sp_lc n L)) L ab92 en93 lf94 bl95 tr96 (nI n) (nI r) mt97 (bs_i p91) (gf_T n L) yb99 yn910 yf911 yl912 yr913 (nI n) (nI x) ym914 (bs_i s98) bo916 (bs_i w915) ou) [1, 2, 3, 4, 5, 6, 7, 8, 9, 10, 11, 12, 13, 14, 15, 16, 17, 0] (by decide) rfl
    obtain ⟨g1, g2, g4, k, hk_k, rfl, ha9⟩ := hw
    have hi9 := And.intro g1 (And.intro g2 g4)
    subst ha9
    refine wl_last (i := 0) hx hb hK hP hD hS 17 0 rfl rfl (by omega) (by decide) d_L_frontier_7 (fun H locs hP hD hS => ?_)
    have hP : va_P (dC, dI) vwCl (lx_ws cJ cI h0 h1 n1 a1 e1 l1 b1 t1 h2 n2 a2 e2 l2 b2 t2 h4 c4 g5 (nI n) (nI (sp_lc n L)) L ab92 en93 lf94 bl95 tr96 (nI n) (nI r) mt97 (bs_i p91) (gf_T n L) yb99 yn910 yf911 yl912 yr913 (nI n) (nI x) ym914 (bs_i s98) bo916 (bs_i w915) (vp_updL ou 0 (sp_fr n L r k))) H := hP
    have hD : va_D A (lx_ws cJ cI h0 h1 n1 a1 e1 l1 b1 t1 h2 n2 a2 e2 l2 b2 t2 h4 c4 g5 (nI n) (nI (sp_lc n L)) L ab92 en93 lf94 bl95 tr96 (nI n) (nI r) mt97 (bs_i p91) (gf_T n L) yb99 yn910 yf911 yl912 yr913 (nI n) (nI x) ym914 (bs_i s98) bo916 (bs_i w915) (vp_updL ou 0 (sp_fr n L r k))) := hD
    refine lv_goto (tgt := 14) hx hb d_L_frontier_8 (by decide) ?_
    refine lv_iconst (v := nI 0) hx hb d_L_frontier_14 (by decide) ?_
    exact W.widen (k := 1) (n := 6) (Nat.le_of_ble_eq_true rfl) (Nat.le_of_ble_eq_true rfl) (W.iret (v := nI 0) hx hb hr (fun t ht hW => ⟨⟨(nI 0), (p91, ab92, en93, lf94, bl95, tr96, mt97, s98, yb99, yn910, yf911, yl912, yr913, ym914, w915, bo916, vp_updL ou 0 (sp_fr n L r k)), rfl, ⟨hi9, Or.inl ⟨rfl, k, hk_k, rfl, pk_uLs⟩⟩, by rw [ht]; exact hP, hD⟩, hS.F ht⟩) hS.2.2 d_L_frontier_15)
set_option maxHeartbeats 4000000 in
set_option maxRecDepth 100000 in
theorem c_L_controls (l : Launch) (hl9 : l.stackTraces = false) (dC : Nat → ClassId) (dI : Nat → Nat → Nat) (cJ cI : ClassId) (h0 h1 n1 a1 e1 l1 b1 t1 h2 n2 a2 e2 l2 b2 t2 h4 c4 g5 hs sa sb : Nat) (ab : Nat → Int64) (en : Nat → Int32) (lf : Nat → Int32) (bl : Nat → Int32) (tr : Nat → Int32) (mt : Int64) (ab2 : Nat → Int64) (en2 : Nat → Int32) (lf2 : Nat → Int32) (bl2 : Nat → Int32) (tr2 : Nat → Int32) (mt2 : Int64) (bo : Nat → Int64) (ou : Nat → Int64) (n r x : Nat) (L : Nat → Int64) (q1 q2 q4 : Bool) (v0 : Int32)  (hn : n ≤ 48) (hL : ∀ u v, gf_E n L u v → v < n) (hI1 : fv_S n r L q1 ab en lf bl mt) (hI2 : fv_S n x (gf_T n L) q2 ab2 en2 lf2 bl2 mt2) (hI4 : fv_N n r L q4 bo) : Met l y_L_controls w_L_controls ({ frames := 8, cells := 1, slots := 6, locals := 165 }) (va_Pc [.ref h0, .int v0, .ref g5] (cw_T (dC, dI) cJ cI (lx_ws cJ cI h0 h1 n1 a1 e1 l1 b1 t1 h2 n2 a2 e2 l2 b2 t2 h4 c4 g5 (nI n) (nI (sp_lc n L)) L ab en lf bl tr (nI n) (nI r) mt (bs_i q1) (gf_T n L) ab2 en2 lf2 bl2 tr2 (nI n) (nI x) mt2 (bs_i q2) bo (bs_i q4) ou) hs sa sb)) (va_Qi (fun (r9 : Int32) (u9 : Bool × (Nat → Int64) × (Nat → Int32) × (Nat → Int32) × (Nat → Int32) × (Nat → Int32) × Int64 × Bool × (Nat → Int64) × (Nat → Int32) × (Nat → Int32) × (Nat → Int32) × (Nat → Int32) × Int64 × Bool × (Nat → Int64) × (Nat → Int64)) => match u9 with | (p9, ab9, en9, lf9, bl9, tr9, mt9, s9, yb9, yn9, yf9, yl9, yr9, ym9, w9, bo9, ou9) => (fv_S n r L p9 ab9 en9 lf9 bl9 mt9 ∧ fv_S n x (gf_T n L) s9 yb9 yn9 yf9 yl9 ym9 ∧ fv_N n r L w9 bo9) ∧ ((r9 = nI 0 ∧ ∃ k, k < n ∧ v0 = nI k ∧ ou9 0 = sp_ct n L x k) ∨ (r9 = nI 1 ∧ ¬ ∃ k, k < n ∧ v0 = nI k))) (fun (u9 : Bool × (Nat → Int64) × (Nat → Int32) × (Nat → Int32) × (Nat → Int32) × (Nat → Int32) × Int64 × Bool × (Nat → Int64) × (Nat → Int32) × (Nat → Int32) × (Nat → Int32) × (Nat → Int32) × Int64 × Bool × (Nat → Int64) × (Nat → Int64)) (t : State) => match u9 with | (p9, ab9, en9, lf9, bl9, tr9, mt9, s9, yb9, yn9, yf9, yl9, yr9, ym9, w9, bo9, ou9) => va_P (dC, dI) vwCl (lx_ws cJ cI h0 h1 n1 a1 e1 l1 b1 t1 h2 n2 a2 e2 l2 b2 t2 h4 c4 g5 (nI n) (nI (sp_lc n L)) L ab9 en9 lf9 bl9 tr9 (nI n) (nI r) mt9 (bs_i p9) (gf_T n L) yb9 yn9 yf9 yl9 yr9 (nI n) (nI x) ym9 (bs_i s9) bo9 (bs_i w9) ou9) t.heap ∧ va_D (va_A (lx_ws cJ cI h0 h1 n1 a1 e1 l1 b1 t1 h2 n2 a2 e2 l2 b2 t2 h4 c4 g5 (nI n) (nI (sp_lc n L)) L ab en lf bl tr (nI n) (nI r) mt (bs_i q1) (gf_T n L) ab2 en2 lf2 bl2 tr2 (nI n) (nI x) mt2 (bs_i q2) bo (bs_i q4) ou) hs) (lx_ws cJ cI h0 h1 n1 a1 e1 l1 b1 t1 h2 n2 a2 e2 l2 b2 t2 h4 c4 g5 (nI n) (nI (sp_lc n L)) L ab9 en9 lf9 bl9 tr9 (nI n) (nI r) mt9 (bs_i p9) (gf_T n L) yb9 yn9 yf9 yl9 yr9 (nI n) (nI x) ym9 (bs_i s9) bo9 (bs_i w9) ou9)) (va_A (lx_ws cJ cI h0 h1 n1 a1 e1 l1 b1 t1 h2 n2 a2 e2 l2 b2 t2 h4 c4 g5 (nI n) (nI (sp_lc n L)) L ab en lf bl tr (nI n) (nI r) mt (bs_i q1) (gf_T n L) ab2 en2 lf2 bl2 tr2 (nI n) (nI x) mt2 (bs_i q2) bo (bs_i q4) ou) hs)) 1 6 (va_A (lx_ws cJ cI h0 h1 n1 a1 e1 l1 b1 t1 h2 n2 a2 e2 l2 b2 t2 h4 c4 g5 (nI n) (nI (sp_lc n L)) L ab en lf bl tr (nI n) (nI r) mt (bs_i q1) (gf_T n L) ab2 en2 lf2 bl2 tr2 (nI n) (nI x) mt2 (bs_i q2) bo (bs_i q4) ou) hs) := by
  refine mt_ofWH (cc := b_L_controls) (maxL := 4) (ret := (some .int)) (hh := [(0, 8, 11, 19)]) (by decide) rfl ?_
  intro p e s m args below meth c s₁ B hml hv9
  obtain ⟨rfl, ⟨hsz, ⟨hP, hK, hNw⟩, hD0⟩, hX⟩ := hv9
  have hx := B.exec
  have hb := B.bytes
  have hr := B.returns
  have hts := atoms_spec (ws := w_L_controls) B.pre
  have hown : s.vm.findClass "FlowNestLaw" = some m.cls := findClass_of_methodNamed B.named
  have hlocks := B.notSynchronized
  have htb : c.exceptionTable.toList = tableOf [(0, 8, 11, 19)] := vx_table (x := y_L_controls) B (hts _ List.mem_cons_self)
  subst hsz
  have hD := hD0.self (sz := s.heap.size)
  generalize hAe : va_A (lx_ws cJ cI h0 h1 n1 a1 e1 l1 b1 t1 h2 n2 a2 e2 l2 b2 t2 h4 c4 g5 (nI n) (nI (sp_lc n L)) L ab en lf bl tr (nI n) (nI r) mt (bs_i q1) (gf_T n L) ab2 en2 lf2 bl2 tr2 (nI n) (nI x) mt2 (bs_i q2) bo (bs_i q4) ou) s.heap.size = A at hD ⊢
  have hA : ∀ q : Nat, s.heap.size ≤ q → A q := fun q h => by rw [← hAe]; exact Or.inr h
  have hS : va_S A s.heap s.heap [] := va_S.rf
  have hP : va_P (dC, dI) vwCl (lx_ws cJ cI h0 h1 n1 a1 e1 l1 b1 t1 h2 n2 a2 e2 l2 b2 t2 h4 c4 g5 (nI n) (nI (sp_lc n L)) L ab en lf bl tr (nI n) (nI r) mt (bs_i q1) (gf_T n L) ab2 en2 lf2 bl2 tr2 (nI n) (nI x) mt2 (bs_i q2) bo (bs_i q4) ou) s.heap := hP
  have hl := lv_entry ([.ref h0, .int v0, .ref g5]) (n := 4) (Nat.le_of_ble_eq_true rfl)
  rw [lg_entry_eq]
  generalize (lg_sl ([.ref h0, .int v0, .ref g5]) ++ List.replicate (4 - (lg_sl ([.ref h0, .int v0, .ref g5])).length) Slot.unset).toArray = ls at hl ⊢
  have hl : lv_has ls 4 [(0, .ref h0), (1, .int v0), (2, .ref g5)] := hl
  refine lv_aload_n hx hb d_L_controls_0 rfl (lv_at hl 2 rfl) ?_
  refine lv_iconst (v := nI 0) hx hb d_L_controls_1 (by decide) ?_
  refine lv_aload_n hx hb d_L_controls_2 rfl (lv_at hl 0 rfl) ?_
  refine lv_iload_n hx hb d_L_controls_3 rfl (lv_at hl 1 rfl) ?_
  have hPc := hP.sub (ws' := fn_ws cJ cI h0 h1 n1 a1 e1 l1 b1 t1 h2 n2 a2 e2 l2 b2 t2 h4 c4 (nI n) (nI (sp_lc n L)) L ab en lf bl tr (nI n) (nI r) mt (bs_i q1) (gf_T n L) ab2 en2 lf2 bl2 tr2 (nI n) (nI x) mt2 (bs_i q2) bo (bs_i q4)) [0, 1, 2, 3, 4, 5, 6, 7, 8, 9, 10, 11, 12, 13, 14, 15, 16] rfl
  have hDc := hD.sub (ws' := fn_ws cJ cI h0 h1 n1 a1 e1 l1 b1 t1 h2 n2 a2 e2 l2 b2 t2 h4 c4 (nI n) (nI (sp_lc n L)) L ab en lf bl tr (nI n) (nI r) mt (bs_i q1) (gf_T n L) ab2 en2 lf2 bl2 tr2 (nI n) (nI x) mt2 (bs_i q2) bo (bs_i q4)) [0, 1, 2, 3, 4, 5, 6, 7, 8, 9, 10, 11, 12, 13, 14, 15, 16] (by decide) rfl
  have hFc := va_free (wc := fn_ws cJ cI h0 h1 n1 a1 e1 l1 b1 t1 h2 n2 a2 e2 l2 b2 t2 h4 c4 (nI n) (nI (sp_lc n L)) L ab en lf bl tr (nI n) (nI r) mt (bs_i q1) (gf_T n L) ab2 en2 lf2 bl2 tr2 (nI n) (nI x) mt2 (bs_i q2) bo (bs_i q4)) hD hS hA [0, 1, 2, 3, 4, 5, 6, 7, 8, 9, 10, 11, 12, 13, 14, 15, 16] rfl
  refine vx_calll (vx_runV (C := "FlowNest") (b := h0) (As := [.int v0]) (rest := [.int (nI 0), .ref g5]) ⟨hx, hb, hml, hown, hts⟩ (c_F_controls l hl9 dC dI cJ cI h0 h1 n1 a1 e1 l1 b1 t1 h2 n2 a2 e2 l2 b2 t2 h4 c4 s.heap.size sa sb ab en lf bl tr mt ab2 en2 lf2 bl2 tr2 mt2 bo n r x L q1 q2 q4 v0 hn hL hI1 hI2 hI4) (cwV 1 hts (nm_gV nm_360 nm_361 nm_362 nm_1 nm_c_F_controls) rfl rfl rfl (by decide +kernel) ⟨Nat.le_of_ble_eq_true rfl, Nat.le_of_ble_eq_true rfl⟩) ⟨cw_blindT, va_recv hK hP (ci := 2) rfl (q0 := 0) rfl, cw_preT hPc hDc hK hNw hX⟩ rfl rfl hl.1 rfl (lv_room (Nat.le_of_ble_eq_true rfl)) d_L_controls_4 ⟨Nat.le_of_ble_eq_true rfl, Nat.le_of_ble_eq_true rfl⟩) hS (fun q _ h => hFc q h) hFc (fun q h1 h2 => absurd h2 (by omega)) (fun E ce q9 u t H1 locs ht hvm hpx hbx hz1 hk1 hS hce hcv hcl => ?_) (fun r1 u9 t H1 locs ht hvm hw hB hz1 hk1 hS => ?_)
  · have hkk : ∀ q : Nat, q < s.heap.size → H1[q]? = s.heap[q]? := fun q h => hk1 q h (by omega)
    have hP := va_Pk hP hkk
    clear hkk hk1 hz1 hPc hDc ht
    generalize H1 = H at hP hS hce ⊢
    subst hbx
    refine vx_catch (own := "FlowNestLaw") (name := "java/lang/IndexOutOfBoundsException") hown [] ⟨0, 8, 11, 19⟩ [] htb (fun z hz => nomatch hz) (by decide) (by decide) (hts _ (List.mem_cons_of_mem _ nm_276)) (xw_cI hX.1) hce hcv hcl ?_
    refine W.eq (g2 := F0 m 11 ls [.ref q9]) rfl ?_
    refine lv_astore_n (lv' := [(3, .ref q9), (0, .ref h0), (1, .int v0), (2, .ref g5)]) hx hb d_L_controls_11 rfl hl (by decide) rfl (fun ls hl => ?_)
    refine lv_iconst (v := nI 1) hx hb d_L_controls_12 (by decide) ?_
    exact W.widen (k := 1) (n := 6) (Nat.le_of_ble_eq_true rfl) (Nat.le_of_ble_eq_true rfl) (W.iret (v := nI 1) hx hb hr (fun t ht hW => ⟨⟨(nI 1), (q1, ab, en, lf, bl, tr, mt, q2, ab2, en2, lf2, bl2, tr2, mt2, q4, bo, ou), rfl, ⟨⟨hI1, hI2, hI4⟩, Or.inr ⟨rfl, hpx⟩⟩, by rw [ht]; exact hP, hD⟩, hS.F ht⟩) hS.2.2 d_L_controls_13)
  · obtain ⟨p91, ab92, en93, lf94, bl95, tr96, mt97, s98, yb99, yn910, yf911, yl912, yr913, ym914, w915, bo916⟩ := u9
    obtain ⟨hP1, hD1⟩ := hB
    rw [ht] at hP1
    obtain ⟨hP, hD⟩ := va_join (wr := ([17] : List Nat).filterMap (fun (i : Nat) => (lx_ws cJ cI h0 h1 n1 a1 e1 l1 b1 t1 h2 n2 a2 e2 l2 b2 t2 h4 c4 g5 (nI n) (nI (sp_lc n L)) L ab en lf bl tr (nI n) (nI r) mt (bs_i q1) (gf_T n L) ab2 en2 lf2 bl2 tr2 (nI n) (nI x) mt2 (bs_i q2) bo (bs_i q4) ou)[i]?)) (w1 := fn_ws cJ cI h0 h1 n1 a1 e1 l1 b1 t1 h2 n2 a2 e2 l2 b2 t2 h4 c4 (nI n) (nI (sp_lc n L)) L ab92 en93 lf94 bl95 tr96 (nI n) (nI r) mt97 (bs_i p91) (gf_T n L) yb99 yn910 yf911 yl912 yr913 (nI n) (nI x) ym914 (bs_i s98) bo916 (bs_i w915)) hP hD [0, 1, 2, 3, 4, 5, 6, 7, 8, 9, 10, 11, 12, 13, 14, 15, 16] [17] rfl rfl (by decide) (by decide) hk1 hFc hP1 hD1
    generalize H1 = H at hP hS ⊢
    have hP : va_P (dC, dI) vwCl (lx_ws cJ cI h0 h1 n1 a1 e1 l1 b1 t1 h2 n2 a2 e2 l2 b2 t2 h4 c4 g5 (nI n) (nI (sp_lc n L)) L ab92 en93 lf94 bl95 tr96 (nI n) (nI r) mt97 (bs_i p91) (gf_T n L) yb99 yn910 yf911 yl912 yr913 (nI n) (nI x) ym914 (bs_i s98) bo916 (bs_i w915) ou) H := hP.sub (ws' := lx_ws cJ cI h0 h1 n1 a1 e1 l1 b1 t1 h2 n2 a2 e2 l2 b2 t2 h4 c4 g5 (nI n) (nI (sp_lc n L)) L ab92 en93 lf94 bl95 tr96 (nI n) (nI r) mt97 (bs_i p91) (gf_T n L) yb99 yn910 yf911 yl912 yr913 (nI n) (nI x) ym914 (bs_i s98) bo916 (bs_i w915) ou) [1, 2, 3, 4, 5, 6, 7, 8, 9, 10, 11, 12, 13, 14, 15, 16, 17, 0] rfl
    have hD : va_D A (lx_ws cJ cI h0 h1 n1 a1 e1 l1 b1 t1 h2 n2 a2 e2 l2 b2 t2 h4 c4 g5 (nI n) (nI (sp_lc n L)) L ab92 en93 lf94 bl95 tr96 (nI n) (nI r) mt97 (bs_i p91) (gf_T n L) yb99 yn910 yf911 yl912 yr913 (nI n) (nI x) ym914 (bs_i s98) bo916 (bs_i w915) ou) := hD.sub (ws' := lx_ws cJ cI h0 h1 n1 a1 e1 l1 b1 t1 h2 n2 a2 e2 l2 b2 t2 h4 c4 g5 (nI n) (nI (sp_lc n L)) L ab92 en93 lf94 bl95 tr96 (nI n) (nI r) mt97 (bs_i p91) (gf_T n L) yb99 yn910 yf911 yl912 yr913 (nI n) (nI x) ym914 (bs_i s98) bo916 (bs_i w915) ou) [1, 2, 3, 4, 5, 6, 7, 8, 9, 10, 11, 12, 13, 14, 15, 16, 17, 0] (by decide) rfl
    obtain ⟨g1, g2, g4, k, hk_k, rfl, ha9⟩ := hw
    have hi9 := And.intro g1 (And.intro g2 g4)
    subst ha9
    refine wl_last (i := 0) hx hb hK hP hD hS 17 0 rfl rfl (by omega) (by decide) d_L_controls_7 (fun H locs hP hD hS => ?_)
    have hP : va_P (dC, dI) vwCl (lx_ws cJ cI h0 h1 n1 a1 e1 l1 b1 t1 h2 n2 a2 e2 l2 b2 t2 h4 c4 g5 (nI n) (nI (sp_lc n L)) L ab92 en93 lf94 bl95 tr96 (nI n) (nI r) mt97 (bs_i p91) (gf_T n L) yb99 yn910 yf911 yl912 yr913 (nI n) (nI x) ym914 (bs_i s98) bo916 (bs_i w915) (vp_updL ou 0 (sp_ct n L x k))) H := hP
    have hD : va_D A (lx_ws cJ cI h0 h1 n1 a1 e1 l1 b1 t1 h2 n2 a2 e2 l2 b2 t2 h4 c4 g5 (nI n) (nI (sp_lc n L)) L ab92 en93 lf94 bl95 tr96 (nI n) (nI r) mt97 (bs_i p91) (gf_T n L) yb99 yn910 yf911 yl912 yr913 (nI n) (nI x) ym914 (bs_i s98) bo916 (bs_i w915) (vp_updL ou 0 (sp_ct n L x k))) := hD
    refine lv_goto (tgt := 14) hx hb d_L_controls_8 (by decide) ?_
    refine lv_iconst (v := nI 0) hx hb d_L_controls_14 (by decide) ?_
    exact W.widen (k := 1) (n := 6) (Nat.le_of_ble_eq_true rfl) (Nat.le_of_ble_eq_true rfl) (W.iret (v := nI 0) hx hb hr (fun t ht hW => ⟨⟨(nI 0), (p91, ab92, en93, lf94, bl95, tr96, mt97, s98, yb99, yn910, yf911, yl912, yr913, ym914, w915, bo916, vp_updL ou 0 (sp_ct n L x k)), rfl, ⟨hi9, Or.inl ⟨rfl, k, hk_k, rfl, pk_uLs⟩⟩, by rw [ht]; exact hP, hD⟩, hS.F ht⟩) hS.2.2 d_L_controls_15)
set_option maxHeartbeats 4000000 in
set_option maxRecDepth 100000 in
theorem c_L_isBack (l : Launch) (hl9 : l.stackTraces = false) (dC : Nat → ClassId) (dI : Nat → Nat → Nat) (cJ cI : ClassId) (h0 h1 n1 a1 e1 l1 b1 t1 h2 n2 a2 e2 l2 b2 t2 h4 c4 g5 hs sa sb : Nat) (ab : Nat → Int64) (en : Nat → Int32) (lf : Nat → Int32) (bl : Nat → Int32) (tr : Nat → Int32) (mt : Int64) (ab2 : Nat → Int64) (en2 : Nat → Int32) (lf2 : Nat → Int32) (bl2 : Nat → Int32) (tr2 : Nat → Int32) (mt2 : Int64) (bo : Nat → Int64) (ou : Nat → Int64) (n r x : Nat) (L : Nat → Int64) (q1 q2 q4 : Bool) (u0 v0 : Int32)  (hn : n ≤ 48) (hL : ∀ u v, gf_E n L u v → v < n) (hI1 : fv_S n r L q1 ab en lf bl mt) (hI2 : fv_S n x (gf_T n L) q2 ab2 en2 lf2 bl2 mt2) (hI4 : fv_N n r L q4 bo) : Met l y_L_isBack w_L_isBack ({ frames := 8, cells := 2, slots := 12, locals := 160 }) (va_Pc [.ref h0, .int u0, .int v0, .ref g5] (cw_T (dC, dI) cJ cI (lx_ws cJ cI h0 h1 n1 a1 e1 l1 b1 t1 h2 n2 a2 e2 l2 b2 t2 h4 c4 g5 (nI n) (nI (sp_lc n L)) L ab en lf bl tr (nI n) (nI r) mt (bs_i q1) (gf_T n L) ab2 en2 lf2 bl2 tr2 (nI n) (nI x) mt2 (bs_i q2) bo (bs_i q4) ou) hs sa sb)) (va_Qi (fun (r9 : Int32) (u9 : Bool × (Nat → Int64) × (Nat → Int32) × (Nat → Int32) × (Nat → Int32) × (Nat → Int32) × Int64 × Bool × (Nat → Int64) × (Nat → Int32) × (Nat → Int32) × (Nat → Int32) × (Nat → Int32) × Int64 × Bool × (Nat → Int64) × (Nat → Int64)) => match u9 with | (p9, ab9, en9, lf9, bl9, tr9, mt9, s9, yb9, yn9, yf9, yl9, yr9, ym9, w9, bo9, ou9) => (fv_S n r L p9 ab9 en9 lf9 bl9 mt9 ∧ fv_S n x (gf_T n L) s9 yb9 yn9 yf9 yl9 ym9 ∧ fv_N n r L w9 bo9) ∧ ((r9 = nI 0 ∧ ∃ k j, k < n ∧ j < n ∧ u0 = nI k ∧ v0 = nI j ∧ ou9 0 = bs_l (gf_d (sp_Bk n L r k j))) ∨ (r9 = nI 1 ∧ ¬ ((∃ k, k < n ∧ u0 = nI k) ∧ ∃ j, j < n ∧ v0 = nI j)))) (fun (u9 : Bool × (Nat → Int64) × (Nat → Int32) × (Nat → Int32) × (Nat → Int32) × (Nat → Int32) × Int64 × Bool × (Nat → Int64) × (Nat → Int32) × (Nat → Int32) × (Nat → Int32) × (Nat → Int32) × Int64 × Bool × (Nat → Int64) × (Nat → Int64)) (t : State) => match u9 with | (p9, ab9, en9, lf9, bl9, tr9, mt9, s9, yb9, yn9, yf9, yl9, yr9, ym9, w9, bo9, ou9) => va_P (dC, dI) vwCl (lx_ws cJ cI h0 h1 n1 a1 e1 l1 b1 t1 h2 n2 a2 e2 l2 b2 t2 h4 c4 g5 (nI n) (nI (sp_lc n L)) L ab9 en9 lf9 bl9 tr9 (nI n) (nI r) mt9 (bs_i p9) (gf_T n L) yb9 yn9 yf9 yl9 yr9 (nI n) (nI x) ym9 (bs_i s9) bo9 (bs_i w9) ou9) t.heap ∧ va_D (va_A (lx_ws cJ cI h0 h1 n1 a1 e1 l1 b1 t1 h2 n2 a2 e2 l2 b2 t2 h4 c4 g5 (nI n) (nI (sp_lc n L)) L ab en lf bl tr (nI n) (nI r) mt (bs_i q1) (gf_T n L) ab2 en2 lf2 bl2 tr2 (nI n) (nI x) mt2 (bs_i q2) bo (bs_i q4) ou) hs) (lx_ws cJ cI h0 h1 n1 a1 e1 l1 b1 t1 h2 n2 a2 e2 l2 b2 t2 h4 c4 g5 (nI n) (nI (sp_lc n L)) L ab9 en9 lf9 bl9 tr9 (nI n) (nI r) mt9 (bs_i p9) (gf_T n L) yb9 yn9 yf9 yl9 yr9 (nI n) (nI x) ym9 (bs_i s9) bo9 (bs_i w9) ou9)) (va_A (lx_ws cJ cI h0 h1 n1 a1 e1 l1 b1 t1 h2 n2 a2 e2 l2 b2 t2 h4 c4 g5 (nI n) (nI (sp_lc n L)) L ab en lf bl tr (nI n) (nI r) mt (bs_i q1) (gf_T n L) ab2 en2 lf2 bl2 tr2 (nI n) (nI x) mt2 (bs_i q2) bo (bs_i q4) ou) hs)) 2 12 (va_A (lx_ws cJ cI h0 h1 n1 a1 e1 l1 b1 t1 h2 n2 a2 e2 l2 b2 t2 h4 c4 g5 (nI n) (nI (sp_lc n L)) L ab en lf bl tr (nI n) (nI r) mt (bs_i q1) (gf_T n L) ab2 en2 lf2 bl2 tr2 (nI n) (nI x) mt2 (bs_i q2) bo (bs_i q4) ou) hs) := by
  refine mt_ofWH (cc := b_L_isBack) (maxL := 5) (ret := (some .int)) (hh := [(0, 17, 20, 19)]) (by decide) rfl ?_
  intro p e s m args below meth c s₁ B hml hv9
  obtain ⟨rfl, ⟨hsz, ⟨hP, hK, hNw⟩, hD0⟩, hX⟩ := hv9
  have hx := B.exec
  have hb := B.bytes
  have hr := B.returns
  have hts := atoms_spec (ws := w_L_isBack) B.pre
  have hown : s.vm.findClass "FlowNestLaw" = some m.cls := findClass_of_methodNamed B.named
  have hlocks := B.notSynchronized
  have htb : c.exceptionTable.toList = tableOf [(0, 17, 20, 19)] := vx_table (x := y_L_isBack) B (hts _ List.mem_cons_self)
  subst hsz
  have hD := hD0.self (sz := s.heap.size)
  generalize hAe : va_A (lx_ws cJ cI h0 h1 n1 a1 e1 l1 b1 t1 h2 n2 a2 e2 l2 b2 t2 h4 c4 g5 (nI n) (nI (sp_lc n L)) L ab en lf bl tr (nI n) (nI r) mt (bs_i q1) (gf_T n L) ab2 en2 lf2 bl2 tr2 (nI n) (nI x) mt2 (bs_i q2) bo (bs_i q4) ou) s.heap.size = A at hD ⊢
  have hA : ∀ q : Nat, s.heap.size ≤ q → A q := fun q h => by rw [← hAe]; exact Or.inr h
  have hS : va_S A s.heap s.heap [] := va_S.rf
  have hP : va_P (dC, dI) vwCl (lx_ws cJ cI h0 h1 n1 a1 e1 l1 b1 t1 h2 n2 a2 e2 l2 b2 t2 h4 c4 g5 (nI n) (nI (sp_lc n L)) L ab en lf bl tr (nI n) (nI r) mt (bs_i q1) (gf_T n L) ab2 en2 lf2 bl2 tr2 (nI n) (nI x) mt2 (bs_i q2) bo (bs_i q4) ou) s.heap := hP
  have hl := lv_entry ([.ref h0, .int u0, .int v0, .ref g5]) (n := 5) (Nat.le_of_ble_eq_true rfl)
  rw [lg_entry_eq]
  generalize (lg_sl ([.ref h0, .int u0, .int v0, .ref g5]) ++ List.replicate (5 - (lg_sl ([.ref h0, .int u0, .int v0, .ref g5])).length) Slot.unset).toArray = ls at hl ⊢
  have hl : lv_has ls 5 [(0, .ref h0), (1, .int u0), (2, .int v0), (3, .ref g5)] := hl
  refine lv_aload_n hx hb d_L_isBack_0 rfl (lv_at hl 3 rfl) ?_
  refine lv_iconst (v := nI 0) hx hb d_L_isBack_1 (by decide) ?_
  refine lv_aload_n hx hb d_L_isBack_2 rfl (lv_at hl 0 rfl) ?_
  refine lv_iload_n hx hb d_L_isBack_3 rfl (lv_at hl 1 rfl) ?_
  refine lv_iload_n hx hb d_L_isBack_4 rfl (lv_at hl 2 rfl) ?_
  have hPc := hP.sub (ws' := fn_ws cJ cI h0 h1 n1 a1 e1 l1 b1 t1 h2 n2 a2 e2 l2 b2 t2 h4 c4 (nI n) (nI (sp_lc n L)) L ab en lf bl tr (nI n) (nI r) mt (bs_i q1) (gf_T n L) ab2 en2 lf2 bl2 tr2 (nI n) (nI x) mt2 (bs_i q2) bo (bs_i q4)) [0, 1, 2, 3, 4, 5, 6, 7, 8, 9, 10, 11, 12, 13, 14, 15, 16] rfl
  have hDc := hD.sub (ws' := fn_ws cJ cI h0 h1 n1 a1 e1 l1 b1 t1 h2 n2 a2 e2 l2 b2 t2 h4 c4 (nI n) (nI (sp_lc n L)) L ab en lf bl tr (nI n) (nI r) mt (bs_i q1) (gf_T n L) ab2 en2 lf2 bl2 tr2 (nI n) (nI x) mt2 (bs_i q2) bo (bs_i q4)) [0, 1, 2, 3, 4, 5, 6, 7, 8, 9, 10, 11, 12, 13, 14, 15, 16] (by decide) rfl
  have hFc := va_free (wc := fn_ws cJ cI h0 h1 n1 a1 e1 l1 b1 t1 h2 n2 a2 e2 l2 b2 t2 h4 c4 (nI n) (nI (sp_lc n L)) L ab en lf bl tr (nI n) (nI r) mt (bs_i q1) (gf_T n L) ab2 en2 lf2 bl2 tr2 (nI n) (nI x) mt2 (bs_i q2) bo (bs_i q4)) hD hS hA [0, 1, 2, 3, 4, 5, 6, 7, 8, 9, 10, 11, 12, 13, 14, 15, 16] rfl
  refine vx_calli (vx_runV (C := "FlowNest") (b := h0) (As := [.int u0, .int v0]) (rest := [.int (nI 0), .ref g5]) ⟨hx, hb, hml, hown, hts⟩ (c_F_isBack l hl9 dC dI cJ cI h0 h1 n1 a1 e1 l1 b1 t1 h2 n2 a2 e2 l2 b2 t2 h4 c4 s.heap.size sa sb ab en lf bl tr mt ab2 en2 lf2 bl2 tr2 mt2 bo n r x L q1 q2 q4 u0 v0 hn hL hI1 hI2 hI4) (cwV 2 hts (nm_gV nm_367 nm_368 nm_369 nm_1 nm_c_F_isBack) rfl rfl rfl (by decide +kernel) ⟨Nat.le_of_ble_eq_true rfl, Nat.le_of_ble_eq_true rfl⟩) ⟨cw_blindT, va_recv hK hP (ci := 2) rfl (q0 := 0) rfl, cw_preT hPc hDc hK hNw hX⟩ rfl rfl hl.1 rfl (lv_room (Nat.le_of_ble_eq_true rfl)) d_L_isBack_5 ⟨Nat.le_of_ble_eq_true rfl, Nat.le_of_ble_eq_true rfl⟩) hS (fun q _ h => hFc q h) hFc (fun q h1 h2 => absurd h2 (by omega)) (fun E ce q9 u t H1 locs ht hvm hpx hbx hz1 hk1 hS hce hcv hcl => ?_) (fun r1 u9 t H1 locs ht hvm hw hB hz1 hk1 hS => ?_)
  · have hkk : ∀ q : Nat, q < s.heap.size → H1[q]? = s.heap[q]? := fun q h => hk1 q h (by omega)
    have hP := va_Pk hP hkk
    clear hkk hk1 hz1 hPc hDc ht
    generalize H1 = H at hP hS hce ⊢
    subst hbx
    refine vx_catch (own := "FlowNestLaw") (name := "java/lang/IndexOutOfBoundsException") hown [] ⟨0, 17, 20, 19⟩ [] htb (fun z hz => nomatch hz) (by decide) (by decide) (hts _ (List.mem_cons_of_mem _ nm_276)) (xw_cI hX.1) hce hcv hcl ?_
    refine W.eq (g2 := F0 m 20 ls [.ref q9]) rfl ?_
    refine lv_astore (lv' := [(4, .ref q9), (0, .ref h0), (1, .int u0), (2, .int v0), (3, .ref g5)]) hx hb d_L_isBack_20 hl (by decide) rfl (fun ls hl => ?_)
    refine lv_iconst (v := nI 1) hx hb d_L_isBack_22 (by decide) ?_
    exact W.widen (k := 2) (n := 12) (Nat.le_of_ble_eq_true rfl) (Nat.le_of_ble_eq_true rfl) (W.iret (v := nI 1) hx hb hr (fun t ht hW => ⟨⟨(nI 1), (q1, ab, en, lf, bl, tr, mt, q2, ab2, en2, lf2, bl2, tr2, mt2, q4, bo, ou), rfl, ⟨⟨hI1, hI2, hI4⟩, Or.inr ⟨rfl, hpx⟩⟩, by rw [ht]; exact hP, hD⟩, hS.F ht⟩) hS.2.2 d_L_isBack_23)
  · obtain ⟨p91, ab92, en93, lf94, bl95, tr96, mt97, s98, yb99, yn910, yf911, yl912, yr913, ym914, w915, bo916⟩ := u9
    obtain ⟨hP1, hD1⟩ := hB
    rw [ht] at hP1
    obtain ⟨hP, hD⟩ := va_join (wr := ([17] : List Nat).filterMap (fun (i : Nat) => (lx_ws cJ cI h0 h1 n1 a1 e1 l1 b1 t1 h2 n2 a2 e2 l2 b2 t2 h4 c4 g5 (nI n) (nI (sp_lc n L)) L ab en lf bl tr (nI n) (nI r) mt (bs_i q1) (gf_T n L) ab2 en2 lf2 bl2 tr2 (nI n) (nI x) mt2 (bs_i q2) bo (bs_i q4) ou)[i]?)) (w1 := fn_ws cJ cI h0 h1 n1 a1 e1 l1 b1 t1 h2 n2 a2 e2 l2 b2 t2 h4 c4 (nI n) (nI (sp_lc n L)) L ab92 en93 lf94 bl95 tr96 (nI n) (nI r) mt97 (bs_i p91) (gf_T n L) yb99 yn910 yf911 yl912 yr913 (nI n) (nI x) ym914 (bs_i s98) bo916 (bs_i w915)) hP hD [0, 1, 2, 3, 4, 5, 6, 7, 8, 9, 10, 11, 12, 13, 14, 15, 16] [17] rfl rfl (by decide) (by decide) hk1 hFc hP1 hD1
    generalize H1 = H at hP hS ⊢
    have hP : va_P (dC, dI) vwCl (lx_ws cJ cI h0 h1 n1 a1 e1 l1 b1 t1 h2 n2 a2 e2 l2 b2 t2 h4 c4 g5 (nI n) (nI (sp_lc n L)) L ab92 en93 lf94 bl95 tr96 (nI n) (nI r) mt97 (bs_i p91) (gf_T n L) yb99 yn910 yf911 yl912 yr913 (nI n) (nI x) ym914 (bs_i s98) bo916 (bs_i w915) ou) H := hP.sub (ws' := lx_ws cJ cI h0 h1 n1 a1 e1 l1 b1 t1 h2 n2 a2 e2 l2 b2 t2 h4 c4 g5 (nI n) (nI (sp_lc n L)) L ab92 en93 lf94 bl95 tr96 (nI n) (nI r) mt97 (bs_i p91) (gf_T n L) yb99 yn910 yf911 yl912 yr913 (nI n) (nI x) ym914 (bs_i s98) bo916 (bs_i w915) ou) [1, 2, 3, 4, 5, 6, 7, 8, 9, 10, 11, 12, 13, 14, 15, 16, 17, 0] rfl
    have hD : va_D A (lx_ws cJ cI h0 h1 n1 a1 e1 l1 b1 t1 h2 n2 a2 e2 l2 b2 t2 h4 c4 g5 (nI n) (nI (sp_lc n L)) L ab92 en93 lf94 bl95 tr96 (nI n) (nI r) mt97 (bs_i p91) (gf_T n L) yb99 yn910 yf911 yl912 yr913 (nI n) (nI x) ym914 (bs_i s98) bo916 (bs_i w915) ou) := hD.sub (ws' := lx_ws cJ cI h0 h1 n1 a1 e1 l1 b1 t1 h2 n2 a2 e2 l2 b2 t2 h4 c4 g5 (nI n) (nI (sp_lc n L)) L ab92 en93 lf94 bl95 tr96 (nI n) (nI r) mt97 (bs_i p91) (gf_T n L) yb99 yn910 yf911 yl912 yr913 (nI n) (nI x) ym914 (bs_i s98) bo916 (bs_i w915) ou) [1, 2, 3, 4, 5, 6, 7, 8, 9, 10, 11, 12, 13, 14, 15, 16, 17, 0] (by decide) rfl
    obtain ⟨g1, g2, g4, k, j, hk_k, hk_j, rfl, rfl, ha9⟩ := hw
    have hi9 := And.intro g1 (And.intro g2 g4)
    subst ha9
    refine wl_ifeqb (tgt := 15) hx hb d_L_isBack_8 (by decide) (fun hc8 => ?_) (fun hc8 => ?_)
    · refine lv_lconst (v := 0) hx hb d_L_isBack_15 (by decide) ?_
      refine wl_last (i := 0) hx hb hK hP hD hS 17 0 rfl rfl (by omega) (by decide) d_L_isBack_16 (fun H locs hP hD hS => ?_)
      have hP : va_P (dC, dI) vwCl (lx_ws cJ cI h0 h1 n1 a1 e1 l1 b1 t1 h2 n2 a2 e2 l2 b2 t2 h4 c4 g5 (nI n) (nI (sp_lc n L)) L ab92 en93 lf94 bl95 tr96 (nI n) (nI r) mt97 (bs_i p91) (gf_T n L) yb99 yn910 yf911 yl912 yr913 (nI n) (nI x) ym914 (bs_i s98) bo916 (bs_i w915) (vp_updL ou 0 0)) H := hP
      have hD : va_D A (lx_ws cJ cI h0 h1 n1 a1 e1 l1 b1 t1 h2 n2 a2 e2 l2 b2 t2 h4 c4 g5 (nI n) (nI (sp_lc n L)) L ab92 en93 lf94 bl95 tr96 (nI n) (nI r) mt97 (bs_i p91) (gf_T n L) yb99 yn910 yf911 yl912 yr913 (nI n) (nI x) ym914 (bs_i s98) bo916 (bs_i w915) (vp_updL ou 0 0)) := hD
      refine lv_goto (tgt := 24) hx hb d_L_isBack_17 (by decide) ?_
      refine lv_iconst (v := nI 0) hx hb d_L_isBack_24 (by decide) ?_
      exact W.widen (k := 2) (n := 12) (Nat.le_of_ble_eq_true rfl) (Nat.le_of_ble_eq_true rfl) (W.iret (v := nI 0) hx hb hr (fun t ht hW => ⟨⟨(nI 0), (p91, ab92, en93, lf94, bl95, tr96, mt97, s98, yb99, yn910, yf911, yl912, yr913, ym914, w915, bo916, vp_updL ou 0 0), rfl, ⟨hi9, Or.inl ⟨rfl, k, j, hk_k, hk_j, rfl, rfl, pk_uLs.trans (by rw [hc8]; rfl)⟩⟩, by rw [ht]; exact hP, hD⟩, hS.F ht⟩) hS.2.2 d_L_isBack_25)
    · refine lv_lconst (v := 1) hx hb d_L_isBack_11 (by decide) ?_
      refine lv_goto (tgt := 16) hx hb d_L_isBack_12 (by decide) ?_
      refine wl_last (i := 0) hx hb hK hP hD hS 17 0 rfl rfl (by omega) (by decide) d_L_isBack_16 (fun H locs hP hD hS => ?_)
      have hP : va_P (dC, dI) vwCl (lx_ws cJ cI h0 h1 n1 a1 e1 l1 b1 t1 h2 n2 a2 e2 l2 b2 t2 h4 c4 g5 (nI n) (nI (sp_lc n L)) L ab92 en93 lf94 bl95 tr96 (nI n) (nI r) mt97 (bs_i p91) (gf_T n L) yb99 yn910 yf911 yl912 yr913 (nI n) (nI x) ym914 (bs_i s98) bo916 (bs_i w915) (vp_updL ou 0 1)) H := hP
      have hD : va_D A (lx_ws cJ cI h0 h1 n1 a1 e1 l1 b1 t1 h2 n2 a2 e2 l2 b2 t2 h4 c4 g5 (nI n) (nI (sp_lc n L)) L ab92 en93 lf94 bl95 tr96 (nI n) (nI r) mt97 (bs_i p91) (gf_T n L) yb99 yn910 yf911 yl912 yr913 (nI n) (nI x) ym914 (bs_i s98) bo916 (bs_i w915) (vp_updL ou 0 1)) := hD
      refine lv_goto (tgt := 24) hx hb d_L_isBack_17 (by decide) ?_
      refine lv_iconst (v := nI 0) hx hb d_L_isBack_24 (by decide) ?_
      exact W.widen (k := 2) (n := 12) (Nat.le_of_ble_eq_true rfl) (Nat.le_of_ble_eq_true rfl) (W.iret (v := nI 0) hx hb hr (fun t ht hW => ⟨⟨(nI 0), (p91, ab92, en93, lf94, bl95, tr96, mt97, s98, yb99, yn910, yf911, yl912, yr913, ym914, w915, bo916, vp_updL ou 0 1), rfl, ⟨hi9, Or.inl ⟨rfl, k, j, hk_k, hk_j, rfl, rfl, pk_uLs.trans (by rw [hc8]; rfl)⟩⟩, by rw [ht]; exact hP, hD⟩, hS.F ht⟩) hS.2.2 d_L_isBack_25)
set_option maxHeartbeats 4000000 in
set_option maxRecDepth 100000 in
theorem c_L_loop (l : Launch) (hl9 : l.stackTraces = false) (dC : Nat → ClassId) (dI : Nat → Nat → Nat) (cJ cI : ClassId) (h0 h1 n1 a1 e1 l1 b1 t1 h2 n2 a2 e2 l2 b2 t2 h4 c4 g5 hs sa sb : Nat) (ab : Nat → Int64) (en : Nat → Int32) (lf : Nat → Int32) (bl : Nat → Int32) (tr : Nat → Int32) (mt : Int64) (ab2 : Nat → Int64) (en2 : Nat → Int32) (lf2 : Nat → Int32) (bl2 : Nat → Int32) (tr2 : Nat → Int32) (mt2 : Int64) (bo : Nat → Int64) (ou : Nat → Int64) (n r x : Nat) (L : Nat → Int64) (q1 q2 q4 : Bool) (v0 : Int32)  (hn : n ≤ 48) (hL : ∀ u v, gf_E n L u v → v < n) (hI1 : fv_S n r L q1 ab en lf bl mt) (hI2 : fv_S n x (gf_T n L) q2 ab2 en2 lf2 bl2 mt2) (hI4 : fv_N n r L q4 bo) : Met l y_L_loop w_L_loop ({ frames := 8, cells := 1, slots := 6, locals := 170 }) (va_Pc [.ref h0, .int v0, .ref g5] (cw_T (dC, dI) cJ cI (lx_ws cJ cI h0 h1 n1 a1 e1 l1 b1 t1 h2 n2 a2 e2 l2 b2 t2 h4 c4 g5 (nI n) (nI (sp_lc n L)) L ab en lf bl tr (nI n) (nI r) mt (bs_i q1) (gf_T n L) ab2 en2 lf2 bl2 tr2 (nI n) (nI x) mt2 (bs_i q2) bo (bs_i q4) ou) hs sa sb)) (va_Qi (fun (r9 : Int32) (u9 : Bool × (Nat → Int64) × (Nat → Int32) × (Nat → Int32) × (Nat → Int32) × (Nat → Int32) × Int64 × Bool × (Nat → Int64) × (Nat → Int32) × (Nat → Int32) × (Nat → Int32) × (Nat → Int32) × Int64 × Bool × (Nat → Int64) × (Nat → Int64)) => match u9 with | (p9, ab9, en9, lf9, bl9, tr9, mt9, s9, yb9, yn9, yf9, yl9, yr9, ym9, w9, bo9, ou9) => (fv_S n r L p9 ab9 en9 lf9 bl9 mt9 ∧ fv_S n x (gf_T n L) s9 yb9 yn9 yf9 yl9 ym9 ∧ fv_N n r L w9 bo9) ∧ ((r9 = nI 0 ∧ ∃ k, k < n ∧ v0 = nI k ∧ ou9 0 = sp_lp n L r k) ∨ (r9 = nI 1 ∧ ¬ ∃ k, k < n ∧ v0 = nI k))) (fun (u9 : Bool × (Nat → Int64) × (Nat → Int32) × (Nat → Int32) × (Nat → Int32) × (Nat → Int32) × Int64 × Bool × (Nat → Int64) × (Nat → Int32) × (Nat → Int32) × (Nat → Int32) × (Nat → Int32) × Int64 × Bool × (Nat → Int64) × (Nat → Int64)) (t : State) => match u9 with | (p9, ab9, en9, lf9, bl9, tr9, mt9, s9, yb9, yn9, yf9, yl9, yr9, ym9, w9, bo9, ou9) => va_P (dC, dI) vwCl (lx_ws cJ cI h0 h1 n1 a1 e1 l1 b1 t1 h2 n2 a2 e2 l2 b2 t2 h4 c4 g5 (nI n) (nI (sp_lc n L)) L ab9 en9 lf9 bl9 tr9 (nI n) (nI r) mt9 (bs_i p9) (gf_T n L) yb9 yn9 yf9 yl9 yr9 (nI n) (nI x) ym9 (bs_i s9) bo9 (bs_i w9) ou9) t.heap ∧ va_D (va_A (lx_ws cJ cI h0 h1 n1 a1 e1 l1 b1 t1 h2 n2 a2 e2 l2 b2 t2 h4 c4 g5 (nI n) (nI (sp_lc n L)) L ab en lf bl tr (nI n) (nI r) mt (bs_i q1) (gf_T n L) ab2 en2 lf2 bl2 tr2 (nI n) (nI x) mt2 (bs_i q2) bo (bs_i q4) ou) hs) (lx_ws cJ cI h0 h1 n1 a1 e1 l1 b1 t1 h2 n2 a2 e2 l2 b2 t2 h4 c4 g5 (nI n) (nI (sp_lc n L)) L ab9 en9 lf9 bl9 tr9 (nI n) (nI r) mt9 (bs_i p9) (gf_T n L) yb9 yn9 yf9 yl9 yr9 (nI n) (nI x) ym9 (bs_i s9) bo9 (bs_i w9) ou9)) (va_A (lx_ws cJ cI h0 h1 n1 a1 e1 l1 b1 t1 h2 n2 a2 e2 l2 b2 t2 h4 c4 g5 (nI n) (nI (sp_lc n L)) L ab en lf bl tr (nI n) (nI r) mt (bs_i q1) (gf_T n L) ab2 en2 lf2 bl2 tr2 (nI n) (nI x) mt2 (bs_i q2) bo (bs_i q4) ou) hs)) 1 6 (va_A (lx_ws cJ cI h0 h1 n1 a1 e1 l1 b1 t1 h2 n2 a2 e2 l2 b2 t2 h4 c4 g5 (nI n) (nI (sp_lc n L)) L ab en lf bl tr (nI n) (nI r) mt (bs_i q1) (gf_T n L) ab2 en2 lf2 bl2 tr2 (nI n) (nI x) mt2 (bs_i q2) bo (bs_i q4) ou) hs) := by
  refine mt_ofWH (cc := b_L_loop) (maxL := 4) (ret := (some .int)) (hh := [(0, 8, 11, 19)]) (by decide) rfl ?_
  intro p e s m args below meth c s₁ B hml hv9
  obtain ⟨rfl, ⟨hsz, ⟨hP, hK, hNw⟩, hD0⟩, hX⟩ := hv9
  have hx := B.exec
  have hb := B.bytes
  have hr := B.returns
  have hts := atoms_spec (ws := w_L_loop) B.pre
  have hown : s.vm.findClass "FlowNestLaw" = some m.cls := findClass_of_methodNamed B.named
  have hlocks := B.notSynchronized
  have htb : c.exceptionTable.toList = tableOf [(0, 8, 11, 19)] := vx_table (x := y_L_loop) B (hts _ List.mem_cons_self)
  subst hsz
  have hD := hD0.self (sz := s.heap.size)
  generalize hAe : va_A (lx_ws cJ cI h0 h1 n1 a1 e1 l1 b1 t1 h2 n2 a2 e2 l2 b2 t2 h4 c4 g5 (nI n) (nI (sp_lc n L)) L ab en lf bl tr (nI n) (nI r) mt (bs_i q1) (gf_T n L) ab2 en2 lf2 bl2 tr2 (nI n) (nI x) mt2 (bs_i q2) bo (bs_i q4) ou) s.heap.size = A at hD ⊢
  have hA : ∀ q : Nat, s.heap.size ≤ q → A q := fun q h => by rw [← hAe]; exact Or.inr h
  have hS : va_S A s.heap s.heap [] := va_S.rf
  have hP : va_P (dC, dI) vwCl (lx_ws cJ cI h0 h1 n1 a1 e1 l1 b1 t1 h2 n2 a2 e2 l2 b2 t2 h4 c4 g5 (nI n) (nI (sp_lc n L)) L ab en lf bl tr (nI n) (nI r) mt (bs_i q1) (gf_T n L) ab2 en2 lf2 bl2 tr2 (nI n) (nI x) mt2 (bs_i q2) bo (bs_i q4) ou) s.heap := hP
  have hl := lv_entry ([.ref h0, .int v0, .ref g5]) (n := 4) (Nat.le_of_ble_eq_true rfl)
  rw [lg_entry_eq]
  generalize (lg_sl ([.ref h0, .int v0, .ref g5]) ++ List.replicate (4 - (lg_sl ([.ref h0, .int v0, .ref g5])).length) Slot.unset).toArray = ls at hl ⊢
  have hl : lv_has ls 4 [(0, .ref h0), (1, .int v0), (2, .ref g5)] := hl
  refine lv_aload_n hx hb d_L_loop_0 rfl (lv_at hl 2 rfl) ?_
  refine lv_iconst (v := nI 0) hx hb d_L_loop_1 (by decide) ?_
  refine lv_aload_n hx hb d_L_loop_2 rfl (lv_at hl 0 rfl) ?_
  refine lv_iload_n hx hb d_L_loop_3 rfl (lv_at hl 1 rfl) ?_
  have hPc := hP.sub (ws' := fn_ws cJ cI h0 h1 n1 a1 e1 l1 b1 t1 h2 n2 a2 e2 l2 b2 t2 h4 c4 (nI n) (nI (sp_lc n L)) L ab en lf bl tr (nI n) (nI r) mt (bs_i q1) (gf_T n L) ab2 en2 lf2 bl2 tr2 (nI n) (nI x) mt2 (bs_i q2) bo (bs_i q4)) [0, 1, 2, 3, 4, 5, 6, 7, 8, 9, 10, 11, 12, 13, 14, 15, 16] rfl
  have hDc := hD.sub (ws' := fn_ws cJ cI h0 h1 n1 a1 e1 l1 b1 t1 h2 n2 a2 e2 l2 b2 t2 h4 c4 (nI n) (nI (sp_lc n L)) L ab en lf bl tr (nI n) (nI r) mt (bs_i q1) (gf_T n L) ab2 en2 lf2 bl2 tr2 (nI n) (nI x) mt2 (bs_i q2) bo (bs_i q4)) [0, 1, 2, 3, 4, 5, 6, 7, 8, 9, 10, 11, 12, 13, 14, 15, 16] (by decide) rfl
  have hFc := va_free (wc := fn_ws cJ cI h0 h1 n1 a1 e1 l1 b1 t1 h2 n2 a2 e2 l2 b2 t2 h4 c4 (nI n) (nI (sp_lc n L)) L ab en lf bl tr (nI n) (nI r) mt (bs_i q1) (gf_T n L) ab2 en2 lf2 bl2 tr2 (nI n) (nI x) mt2 (bs_i q2) bo (bs_i q4)) hD hS hA [0, 1, 2, 3, 4, 5, 6, 7, 8, 9, 10, 11, 12, 13, 14, 15, 16] rfl
  refine vx_calll (vx_runV (C := "FlowNest") (b := h0) (As := [.int v0]) (rest := [.int (nI 0), .ref g5]) ⟨hx, hb, hml, hown, hts⟩ (c_F_loop l hl9 dC dI cJ cI h0 h1 n1 a1 e1 l1 b1 t1 h2 n2 a2 e2 l2 b2 t2 h4 c4 s.heap.size sa sb ab en lf bl tr mt ab2 en2 lf2 bl2 tr2 mt2 bo n r x L q1 q2 q4 v0 hn hL hI1 hI2 hI4) (cwV 1 hts (nm_gV nm_374 nm_375 nm_376 nm_1 nm_c_F_loop) rfl rfl rfl (by decide +kernel) ⟨Nat.le_of_ble_eq_true rfl, Nat.le_of_ble_eq_true rfl⟩) ⟨cw_blindT, va_recv hK hP (ci := 2) rfl (q0 := 0) rfl, cw_preT hPc hDc hK hNw hX⟩ rfl rfl hl.1 rfl (lv_room (Nat.le_of_ble_eq_true rfl)) d_L_loop_4 ⟨Nat.le_of_ble_eq_true rfl, Nat.le_of_ble_eq_true rfl⟩) hS (fun q _ h => hFc q h) hFc (fun q h1 h2 => absurd h2 (by omega)) (fun E ce q9 u t H1 locs ht hvm hpx hbx hz1 hk1 hS hce hcv hcl => ?_) (fun r1 u9 t H1 locs ht hvm hw hB hz1 hk1 hS => ?_)
  · have hkk : ∀ q : Nat, q < s.heap.size → H1[q]? = s.heap[q]? := fun q h => hk1 q h (by omega)
    have hP := va_Pk hP hkk
    clear hkk hk1 hz1 hPc hDc ht
    generalize H1 = H at hP hS hce ⊢
    subst hbx
    refine vx_catch (own := "FlowNestLaw") (name := "java/lang/IndexOutOfBoundsException") hown [] ⟨0, 8, 11, 19⟩ [] htb (fun z hz => nomatch hz) (by decide) (by decide) (hts _ (List.mem_cons_of_mem _ nm_276)) (xw_cI hX.1) hce hcv hcl ?_
    refine W.eq (g2 := F0 m 11 ls [.ref q9]) rfl ?_
    refine lv_astore_n (lv' := [(3, .ref q9), (0, .ref h0), (1, .int v0), (2, .ref g5)]) hx hb d_L_loop_11 rfl hl (by decide) rfl (fun ls hl => ?_)
    refine lv_iconst (v := nI 1) hx hb d_L_loop_12 (by decide) ?_
    exact W.widen (k := 1) (n := 6) (Nat.le_of_ble_eq_true rfl) (Nat.le_of_ble_eq_true rfl) (W.iret (v := nI 1) hx hb hr (fun t ht hW => ⟨⟨(nI 1), (q1, ab, en, lf, bl, tr, mt, q2, ab2, en2, lf2, bl2, tr2, mt2, q4, bo, ou), rfl, ⟨⟨hI1, hI2, hI4⟩, Or.inr ⟨rfl, hpx⟩⟩, by rw [ht]; exact hP, hD⟩, hS.F ht⟩) hS.2.2 d_L_loop_13)
  · obtain ⟨p91, ab92, en93, lf94, bl95, tr96, mt97, s98, yb99, yn910, yf911, yl912, yr913, ym914, w915, bo916⟩ := u9
    obtain ⟨hP1, hD1⟩ := hB
    rw [ht] at hP1
    obtain ⟨hP, hD⟩ := va_join (wr := ([17] : List Nat).filterMap (fun (i : Nat) => (lx_ws cJ cI h0 h1 n1 a1 e1 l1 b1 t1 h2 n2 a2 e2 l2 b2 t2 h4 c4 g5 (nI n) (nI (sp_lc n L)) L ab en lf bl tr (nI n) (nI r) mt (bs_i q1) (gf_T n L) ab2 en2 lf2 bl2 tr2 (nI n) (nI x) mt2 (bs_i q2) bo (bs_i q4) ou)[i]?)) (w1 := fn_ws cJ cI h0 h1 n1 a1 e1 l1 b1 t1 h2 n2 a2 e2 l2 b2 t2 h4 c4 (nI n) (nI (sp_lc n L)) L ab92 en93 lf94 bl95 tr96 (nI n) (nI r) mt97 (bs_i p91) (gf_T n L) yb99 yn910 yf911 yl912 yr913 (nI n) (nI x) ym914 (bs_i s98) bo916 (bs_i w915)) hP hD [0, 1, 2, 3, 4, 5, 6, 7, 8, 9, 10, 11, 12, 13, 14, 15, 16] [17] rfl rfl (by decide) (by decide) hk1 hFc hP1 hD1
    generalize H1 = H at hP hS ⊢
    have hP : va_P (dC, dI) vwCl (lx_ws cJ cI h0 h1 n1 a1 e1 l1 b1 t1 h2 n2 a2 e2 l2 b2 t2 h4 c4 g5 (nI n) (nI (sp_lc n L)) L ab92 en93 lf94 bl95 tr96 (nI n) (nI r) mt97 (bs_i p91) (gf_T n L) yb99 yn910 yf911 yl912 yr913 (nI n) (nI x) ym914 (bs_i s98) bo916 (bs_i w915) ou) H := hP.sub (ws' := lx_ws cJ cI h0 h1 n1 a1 e1 l1 b1 t1 h2 n2 a2 e2 l2 b2 t2 h4 c4 g5 (nI n) (nI (sp_lc n L)) L ab92 en93 lf94 bl95 tr96 (nI n) (nI r) mt97 (bs_i p91) (gf_T n L) yb99 yn910 yf911 yl912 yr913 (nI n) (nI x) ym914 (bs_i s98) bo916 (bs_i w915) ou) [1, 2, 3, 4, 5, 6, 7, 8, 9, 10, 11, 12, 13, 14, 15, 16, 17, 0] rfl
    have hD : va_D A (lx_ws cJ cI h0 h1 n1 a1 e1 l1 b1 t1 h2 n2 a2 e2 l2 b2 t2 h4 c4 g5 (nI n) (nI (sp_lc n L)) L ab92 en93 lf94 bl95 tr96 (nI n) (nI r) mt97 (bs_i p91) (gf_T n L) yb99 yn910 yf911 yl912 yr913 (nI n) (nI x) ym914 (bs_i s98) bo916 (bs_i w915) ou) := hD.sub (ws' := lx_ws cJ cI h0 h1 n1 a1 e1 l1 b1 t1 h2 n2 a2 e2 l2 b2 t2 h4 c4 g5 (nI n) (nI (sp_lc n L)) L ab92 en93 lf94 bl95 tr96 (nI n) (nI r) mt97 (bs_i p91) (gf_T n L) yb99 yn910 yf911 yl912 yr913 (nI n) (nI x) ym914 (bs_i s98) bo916 (bs_i w915) ou) [1, 2, 3, 4, 5, 6, 7, 8, 9, 10, 11, 12, 13, 14, 15, 16, 17, 0] (by decide) rfl
    obtain ⟨g1, g2, g4, k, hk_k, rfl, ha9⟩ := hw
    have hi9 := And.intro g1 (And.intro g2 g4)
    subst ha9
    refine wl_last (i := 0) hx hb hK hP hD hS 17 0 rfl rfl (by omega) (by decide) d_L_loop_7 (fun H locs hP hD hS => ?_)
    have hP : va_P (dC, dI) vwCl (lx_ws cJ cI h0 h1 n1 a1 e1 l1 b1 t1 h2 n2 a2 e2 l2 b2 t2 h4 c4 g5 (nI n) (nI (sp_lc n L)) L ab92 en93 lf94 bl95 tr96 (nI n) (nI r) mt97 (bs_i p91) (gf_T n L) yb99 yn910 yf911 yl912 yr913 (nI n) (nI x) ym914 (bs_i s98) bo916 (bs_i w915) (vp_updL ou 0 (sp_lp n L r k))) H := hP
    have hD : va_D A (lx_ws cJ cI h0 h1 n1 a1 e1 l1 b1 t1 h2 n2 a2 e2 l2 b2 t2 h4 c4 g5 (nI n) (nI (sp_lc n L)) L ab92 en93 lf94 bl95 tr96 (nI n) (nI r) mt97 (bs_i p91) (gf_T n L) yb99 yn910 yf911 yl912 yr913 (nI n) (nI x) ym914 (bs_i s98) bo916 (bs_i w915) (vp_updL ou 0 (sp_lp n L r k))) := hD
    refine lv_goto (tgt := 14) hx hb d_L_loop_8 (by decide) ?_
    refine lv_iconst (v := nI 0) hx hb d_L_loop_14 (by decide) ?_
    exact W.widen (k := 1) (n := 6) (Nat.le_of_ble_eq_true rfl) (Nat.le_of_ble_eq_true rfl) (W.iret (v := nI 0) hx hb hr (fun t ht hW => ⟨⟨(nI 0), (p91, ab92, en93, lf94, bl95, tr96, mt97, s98, yb99, yn910, yf911, yl912, yr913, ym914, w915, bo916, vp_updL ou 0 (sp_lp n L r k)), rfl, ⟨hi9, Or.inl ⟨rfl, k, hk_k, rfl, pk_uLs⟩⟩, by rw [ht]; exact hP, hD⟩, hS.F ht⟩) hS.2.2 d_L_loop_15)
set_option maxHeartbeats 4000000 in
set_option maxRecDepth 100000 in
theorem c_L_depth (l : Launch) (hl9 : l.stackTraces = false) (dC : Nat → ClassId) (dI : Nat → Nat → Nat) (cJ cI : ClassId) (h0 h1 n1 a1 e1 l1 b1 t1 h2 n2 a2 e2 l2 b2 t2 h4 c4 g5 hs sa sb : Nat) (ab : Nat → Int64) (en : Nat → Int32) (lf : Nat → Int32) (bl : Nat → Int32) (tr : Nat → Int32) (mt : Int64) (ab2 : Nat → Int64) (en2 : Nat → Int32) (lf2 : Nat → Int32) (bl2 : Nat → Int32) (tr2 : Nat → Int32) (mt2 : Int64) (bo : Nat → Int64) (ou : Nat → Int64) (n r x : Nat) (L : Nat → Int64) (q1 q2 q4 : Bool) (v0 : Int32)  (hn : n ≤ 48) (hL : ∀ u v, gf_E n L u v → v < n) (hI1 : fv_S n r L q1 ab en lf bl mt) (hI2 : fv_S n x (gf_T n L) q2 ab2 en2 lf2 bl2 mt2) (hI4 : fv_N n r L q4 bo) : Met l y_L_depth w_L_depth ({ frames := 8, cells := 1, slots := 6, locals := 170 }) (va_Pc [.ref h0, .int v0, .ref g5] (cw_T (dC, dI) cJ cI (lx_ws cJ cI h0 h1 n1 a1 e1 l1 b1 t1 h2 n2 a2 e2 l2 b2 t2 h4 c4 g5 (nI n) (nI (sp_lc n L)) L ab en lf bl tr (nI n) (nI r) mt (bs_i q1) (gf_T n L) ab2 en2 lf2 bl2 tr2 (nI n) (nI x) mt2 (bs_i q2) bo (bs_i q4) ou) hs sa sb)) (va_Qi (fun (r9 : Int32) (u9 : Bool × (Nat → Int64) × (Nat → Int32) × (Nat → Int32) × (Nat → Int32) × (Nat → Int32) × Int64 × Bool × (Nat → Int64) × (Nat → Int32) × (Nat → Int32) × (Nat → Int32) × (Nat → Int32) × Int64 × Bool × (Nat → Int64) × (Nat → Int64)) => match u9 with | (p9, ab9, en9, lf9, bl9, tr9, mt9, s9, yb9, yn9, yf9, yl9, yr9, ym9, w9, bo9, ou9) => (fv_S n r L p9 ab9 en9 lf9 bl9 mt9 ∧ fv_S n x (gf_T n L) s9 yb9 yn9 yf9 yl9 ym9 ∧ fv_N n r L w9 bo9) ∧ ((r9 = nI 0 ∧ ∃ k, k < n ∧ v0 = nI k ∧ ∃ z9 : Int32, ou9 0 = z9.toInt64 ∧ z9 = nI (ct_n (fun i => bs_t (sp_lp n L r i) k) n)) ∨ (r9 = nI 1 ∧ ¬ ∃ k, k < n ∧ v0 = nI k))) (fun (u9 : Bool × (Nat → Int64) × (Nat → Int32) × (Nat → Int32) × (Nat → Int32) × (Nat → Int32) × Int64 × Bool × (Nat → Int64) × (Nat → Int32) × (Nat → Int32) × (Nat → Int32) × (Nat → Int32) × Int64 × Bool × (Nat → Int64) × (Nat → Int64)) (t : State) => match u9 with | (p9, ab9, en9, lf9, bl9, tr9, mt9, s9, yb9, yn9, yf9, yl9, yr9, ym9, w9, bo9, ou9) => va_P (dC, dI) vwCl (lx_ws cJ cI h0 h1 n1 a1 e1 l1 b1 t1 h2 n2 a2 e2 l2 b2 t2 h4 c4 g5 (nI n) (nI (sp_lc n L)) L ab9 en9 lf9 bl9 tr9 (nI n) (nI r) mt9 (bs_i p9) (gf_T n L) yb9 yn9 yf9 yl9 yr9 (nI n) (nI x) ym9 (bs_i s9) bo9 (bs_i w9) ou9) t.heap ∧ va_D (va_A (lx_ws cJ cI h0 h1 n1 a1 e1 l1 b1 t1 h2 n2 a2 e2 l2 b2 t2 h4 c4 g5 (nI n) (nI (sp_lc n L)) L ab en lf bl tr (nI n) (nI r) mt (bs_i q1) (gf_T n L) ab2 en2 lf2 bl2 tr2 (nI n) (nI x) mt2 (bs_i q2) bo (bs_i q4) ou) hs) (lx_ws cJ cI h0 h1 n1 a1 e1 l1 b1 t1 h2 n2 a2 e2 l2 b2 t2 h4 c4 g5 (nI n) (nI (sp_lc n L)) L ab9 en9 lf9 bl9 tr9 (nI n) (nI r) mt9 (bs_i p9) (gf_T n L) yb9 yn9 yf9 yl9 yr9 (nI n) (nI x) ym9 (bs_i s9) bo9 (bs_i w9) ou9)) (va_A (lx_ws cJ cI h0 h1 n1 a1 e1 l1 b1 t1 h2 n2 a2 e2 l2 b2 t2 h4 c4 g5 (nI n) (nI (sp_lc n L)) L ab en lf bl tr (nI n) (nI r) mt (bs_i q1) (gf_T n L) ab2 en2 lf2 bl2 tr2 (nI n) (nI x) mt2 (bs_i q2) bo (bs_i q4) ou) hs)) 1 6 (va_A (lx_ws cJ cI h0 h1 n1 a1 e1 l1 b1 t1 h2 n2 a2 e2 l2 b2 t2 h4 c4 g5 (nI n) (nI (sp_lc n L)) L ab en lf bl tr (nI n) (nI r) mt (bs_i q1) (gf_T n L) ab2 en2 lf2 bl2 tr2 (nI n) (nI x) mt2 (bs_i q2) bo (bs_i q4) ou) hs) := by
  refine mt_ofWH (cc := b_L_depth) (maxL := 4) (ret := (some .int)) (hh := [(0, 9, 12, 19)]) (by decide) rfl ?_
  intro p e s m args below meth c s₁ B hml hv9
  obtain ⟨rfl, ⟨hsz, ⟨hP, hK, hNw⟩, hD0⟩, hX⟩ := hv9
  have hx := B.exec
  have hb := B.bytes
  have hr := B.returns
  have hts := atoms_spec (ws := w_L_depth) B.pre
  have hown : s.vm.findClass "FlowNestLaw" = some m.cls := findClass_of_methodNamed B.named
  have hlocks := B.notSynchronized
  have htb : c.exceptionTable.toList = tableOf [(0, 9, 12, 19)] := vx_table (x := y_L_depth) B (hts _ List.mem_cons_self)
  subst hsz
  have hD := hD0.self (sz := s.heap.size)
  generalize hAe : va_A (lx_ws cJ cI h0 h1 n1 a1 e1 l1 b1 t1 h2 n2 a2 e2 l2 b2 t2 h4 c4 g5 (nI n) (nI (sp_lc n L)) L ab en lf bl tr (nI n) (nI r) mt (bs_i q1) (gf_T n L) ab2 en2 lf2 bl2 tr2 (nI n) (nI x) mt2 (bs_i q2) bo (bs_i q4) ou) s.heap.size = A at hD ⊢
  have hA : ∀ q : Nat, s.heap.size ≤ q → A q := fun q h => by rw [← hAe]; exact Or.inr h
  have hS : va_S A s.heap s.heap [] := va_S.rf
  have hP : va_P (dC, dI) vwCl (lx_ws cJ cI h0 h1 n1 a1 e1 l1 b1 t1 h2 n2 a2 e2 l2 b2 t2 h4 c4 g5 (nI n) (nI (sp_lc n L)) L ab en lf bl tr (nI n) (nI r) mt (bs_i q1) (gf_T n L) ab2 en2 lf2 bl2 tr2 (nI n) (nI x) mt2 (bs_i q2) bo (bs_i q4) ou) s.heap := hP
  have hl := lv_entry ([.ref h0, .int v0, .ref g5]) (n := 4) (Nat.le_of_ble_eq_true rfl)
  rw [lg_entry_eq]
  generalize (lg_sl ([.ref h0, .int v0, .ref g5]) ++ List.replicate (4 - (lg_sl ([.ref h0, .int v0, .ref g5])).length) Slot.unset).toArray = ls at hl ⊢
  have hl : lv_has ls 4 [(0, .ref h0), (1, .int v0), (2, .ref g5)] := hl
  refine lv_aload_n hx hb d_L_depth_0 rfl (lv_at hl 2 rfl) ?_
  refine lv_iconst (v := nI 0) hx hb d_L_depth_1 (by decide) ?_
  refine lv_aload_n hx hb d_L_depth_2 rfl (lv_at hl 0 rfl) ?_
  refine lv_iload_n hx hb d_L_depth_3 rfl (lv_at hl 1 rfl) ?_
  have hPc := hP.sub (ws' := fn_ws cJ cI h0 h1 n1 a1 e1 l1 b1 t1 h2 n2 a2 e2 l2 b2 t2 h4 c4 (nI n) (nI (sp_lc n L)) L ab en lf bl tr (nI n) (nI r) mt (bs_i q1) (gf_T n L) ab2 en2 lf2 bl2 tr2 (nI n) (nI x) mt2 (bs_i q2) bo (bs_i q4)) [0, 1, 2, 3, 4, 5, 6, 7, 8, 9, 10, 11, 12, 13, 14, 15, 16] rfl
  have hDc := hD.sub (ws' := fn_ws cJ cI h0 h1 n1 a1 e1 l1 b1 t1 h2 n2 a2 e2 l2 b2 t2 h4 c4 (nI n) (nI (sp_lc n L)) L ab en lf bl tr (nI n) (nI r) mt (bs_i q1) (gf_T n L) ab2 en2 lf2 bl2 tr2 (nI n) (nI x) mt2 (bs_i q2) bo (bs_i q4)) [0, 1, 2, 3, 4, 5, 6, 7, 8, 9, 10, 11, 12, 13, 14, 15, 16] (by decide) rfl
  have hFc := va_free (wc := fn_ws cJ cI h0 h1 n1 a1 e1 l1 b1 t1 h2 n2 a2 e2 l2 b2 t2 h4 c4 (nI n) (nI (sp_lc n L)) L ab en lf bl tr (nI n) (nI r) mt (bs_i q1) (gf_T n L) ab2 en2 lf2 bl2 tr2 (nI n) (nI x) mt2 (bs_i q2) bo (bs_i q4)) hD hS hA [0, 1, 2, 3, 4, 5, 6, 7, 8, 9, 10, 11, 12, 13, 14, 15, 16] rfl
  refine vx_calli (vx_runV (C := "FlowNest") (b := h0) (As := [.int v0]) (rest := [.int (nI 0), .ref g5]) ⟨hx, hb, hml, hown, hts⟩ (c_F_depth l hl9 dC dI cJ cI h0 h1 n1 a1 e1 l1 b1 t1 h2 n2 a2 e2 l2 b2 t2 h4 c4 s.heap.size sa sb ab en lf bl tr mt ab2 en2 lf2 bl2 tr2 mt2 bo n r x L q1 q2 q4 v0 hn hL hI1 hI2 hI4) (cwV 1 hts (nm_gV nm_381 nm_382 nm_383 nm_1 nm_c_F_depth) rfl rfl rfl (by decide +kernel) ⟨Nat.le_of_ble_eq_true rfl, Nat.le_of_ble_eq_true rfl⟩) ⟨cw_blindT, va_recv hK hP (ci := 2) rfl (q0 := 0) rfl, cw_preT hPc hDc hK hNw hX⟩ rfl rfl hl.1 rfl (lv_room (Nat.le_of_ble_eq_true rfl)) d_L_depth_4 ⟨Nat.le_of_ble_eq_true rfl, Nat.le_of_ble_eq_true rfl⟩) hS (fun q _ h => hFc q h) hFc (fun q h1 h2 => absurd h2 (by omega)) (fun E ce q9 u t H1 locs ht hvm hpx hbx hz1 hk1 hS hce hcv hcl => ?_) (fun r1 u9 t H1 locs ht hvm hw hB hz1 hk1 hS => ?_)
  · have hkk : ∀ q : Nat, q < s.heap.size → H1[q]? = s.heap[q]? := fun q h => hk1 q h (by omega)
    have hP := va_Pk hP hkk
    clear hkk hk1 hz1 hPc hDc ht
    generalize H1 = H at hP hS hce ⊢
    subst hbx
    refine vx_catch (own := "FlowNestLaw") (name := "java/lang/IndexOutOfBoundsException") hown [] ⟨0, 9, 12, 19⟩ [] htb (fun z hz => nomatch hz) (by decide) (by decide) (hts _ (List.mem_cons_of_mem _ nm_276)) (xw_cI hX.1) hce hcv hcl ?_
    refine W.eq (g2 := F0 m 12 ls [.ref q9]) rfl ?_
    refine lv_astore_n (lv' := [(3, .ref q9), (0, .ref h0), (1, .int v0), (2, .ref g5)]) hx hb d_L_depth_12 rfl hl (by decide) rfl (fun ls hl => ?_)
    refine lv_iconst (v := nI 1) hx hb d_L_depth_13 (by decide) ?_
    exact W.widen (k := 1) (n := 6) (Nat.le_of_ble_eq_true rfl) (Nat.le_of_ble_eq_true rfl) (W.iret (v := nI 1) hx hb hr (fun t ht hW => ⟨⟨(nI 1), (q1, ab, en, lf, bl, tr, mt, q2, ab2, en2, lf2, bl2, tr2, mt2, q4, bo, ou), rfl, ⟨⟨hI1, hI2, hI4⟩, Or.inr ⟨rfl, hpx⟩⟩, by rw [ht]; exact hP, hD⟩, hS.F ht⟩) hS.2.2 d_L_depth_14)
  · obtain ⟨p91, ab92, en93, lf94, bl95, tr96, mt97, s98, yb99, yn910, yf911, yl912, yr913, ym914, w915, bo916⟩ := u9
    obtain ⟨hP1, hD1⟩ := hB
    rw [ht] at hP1
    obtain ⟨hP, hD⟩ := va_join (wr := ([17] : List Nat).filterMap (fun (i : Nat) => (lx_ws cJ cI h0 h1 n1 a1 e1 l1 b1 t1 h2 n2 a2 e2 l2 b2 t2 h4 c4 g5 (nI n) (nI (sp_lc n L)) L ab en lf bl tr (nI n) (nI r) mt (bs_i q1) (gf_T n L) ab2 en2 lf2 bl2 tr2 (nI n) (nI x) mt2 (bs_i q2) bo (bs_i q4) ou)[i]?)) (w1 := fn_ws cJ cI h0 h1 n1 a1 e1 l1 b1 t1 h2 n2 a2 e2 l2 b2 t2 h4 c4 (nI n) (nI (sp_lc n L)) L ab92 en93 lf94 bl95 tr96 (nI n) (nI r) mt97 (bs_i p91) (gf_T n L) yb99 yn910 yf911 yl912 yr913 (nI n) (nI x) ym914 (bs_i s98) bo916 (bs_i w915)) hP hD [0, 1, 2, 3, 4, 5, 6, 7, 8, 9, 10, 11, 12, 13, 14, 15, 16] [17] rfl rfl (by decide) (by decide) hk1 hFc hP1 hD1
    generalize H1 = H at hP hS ⊢
    have hP : va_P (dC, dI) vwCl (lx_ws cJ cI h0 h1 n1 a1 e1 l1 b1 t1 h2 n2 a2 e2 l2 b2 t2 h4 c4 g5 (nI n) (nI (sp_lc n L)) L ab92 en93 lf94 bl95 tr96 (nI n) (nI r) mt97 (bs_i p91) (gf_T n L) yb99 yn910 yf911 yl912 yr913 (nI n) (nI x) ym914 (bs_i s98) bo916 (bs_i w915) ou) H := hP.sub (ws' := lx_ws cJ cI h0 h1 n1 a1 e1 l1 b1 t1 h2 n2 a2 e2 l2 b2 t2 h4 c4 g5 (nI n) (nI (sp_lc n L)) L ab92 en93 lf94 bl95 tr96 (nI n) (nI r) mt97 (bs_i p91) (gf_T n L) yb99 yn910 yf911 yl912 yr913 (nI n) (nI x) ym914 (bs_i s98) bo916 (bs_i w915) ou) [1, 2, 3, 4, 5, 6, 7, 8, 9, 10, 11, 12, 13, 14, 15, 16, 17, 0] rfl
    have hD : va_D A (lx_ws cJ cI h0 h1 n1 a1 e1 l1 b1 t1 h2 n2 a2 e2 l2 b2 t2 h4 c4 g5 (nI n) (nI (sp_lc n L)) L ab92 en93 lf94 bl95 tr96 (nI n) (nI r) mt97 (bs_i p91) (gf_T n L) yb99 yn910 yf911 yl912 yr913 (nI n) (nI x) ym914 (bs_i s98) bo916 (bs_i w915) ou) := hD.sub (ws' := lx_ws cJ cI h0 h1 n1 a1 e1 l1 b1 t1 h2 n2 a2 e2 l2 b2 t2 h4 c4 g5 (nI n) (nI (sp_lc n L)) L ab92 en93 lf94 bl95 tr96 (nI n) (nI r) mt97 (bs_i p91) (gf_T n L) yb99 yn910 yf911 yl912 yr913 (nI n) (nI x) ym914 (bs_i s98) bo916 (bs_i w915) ou) [1, 2, 3, 4, 5, 6, 7, 8, 9, 10, 11, 12, 13, 14, 15, 16, 17, 0] (by decide) rfl
    obtain ⟨g1, g2, g4, k, hk_k, rfl, ha9⟩ := hw
    have hi9 := And.intro g1 (And.intro g2 g4)
    refine lv_i2l (v := r1.toInt64) hx hb d_L_depth_7 rfl ?_
    refine wl_last (i := 0) hx hb hK hP hD hS 17 0 rfl rfl (by omega) (by decide) d_L_depth_8 (fun H locs hP hD hS => ?_)
    have hP : va_P (dC, dI) vwCl (lx_ws cJ cI h0 h1 n1 a1 e1 l1 b1 t1 h2 n2 a2 e2 l2 b2 t2 h4 c4 g5 (nI n) (nI (sp_lc n L)) L ab92 en93 lf94 bl95 tr96 (nI n) (nI r) mt97 (bs_i p91) (gf_T n L) yb99 yn910 yf911 yl912 yr913 (nI n) (nI x) ym914 (bs_i s98) bo916 (bs_i w915) (vp_updL ou 0 r1.toInt64)) H := hP
    have hD : va_D A (lx_ws cJ cI h0 h1 n1 a1 e1 l1 b1 t1 h2 n2 a2 e2 l2 b2 t2 h4 c4 g5 (nI n) (nI (sp_lc n L)) L ab92 en93 lf94 bl95 tr96 (nI n) (nI r) mt97 (bs_i p91) (gf_T n L) yb99 yn910 yf911 yl912 yr913 (nI n) (nI x) ym914 (bs_i s98) bo916 (bs_i w915) (vp_updL ou 0 r1.toInt64)) := hD
    refine lv_goto (tgt := 15) hx hb d_L_depth_9 (by decide) ?_
    refine lv_iconst (v := nI 0) hx hb d_L_depth_15 (by decide) ?_
    exact W.widen (k := 1) (n := 6) (Nat.le_of_ble_eq_true rfl) (Nat.le_of_ble_eq_true rfl) (W.iret (v := nI 0) hx hb hr (fun t ht hW => ⟨⟨(nI 0), (p91, ab92, en93, lf94, bl95, tr96, mt97, s98, yb99, yn910, yf911, yl912, yr913, ym914, w915, bo916, vp_updL ou 0 r1.toInt64), rfl, ⟨hi9, Or.inl ⟨rfl, k, hk_k, rfl, r1, pk_uLs, ha9⟩⟩, by rw [ht]; exact hP, hD⟩, hS.F ht⟩) hS.2.2 d_L_depth_16)
set_option maxHeartbeats 4000000 in
set_option maxRecDepth 100000 in
theorem c_L_header (l : Launch) (hl9 : l.stackTraces = false) (dC : Nat → ClassId) (dI : Nat → Nat → Nat) (cJ cI : ClassId) (h0 h1 n1 a1 e1 l1 b1 t1 h2 n2 a2 e2 l2 b2 t2 h4 c4 g5 hs sa sb : Nat) (ab : Nat → Int64) (en : Nat → Int32) (lf : Nat → Int32) (bl : Nat → Int32) (tr : Nat → Int32) (mt : Int64) (ab2 : Nat → Int64) (en2 : Nat → Int32) (lf2 : Nat → Int32) (bl2 : Nat → Int32) (tr2 : Nat → Int32) (mt2 : Int64) (bo : Nat → Int64) (ou : Nat → Int64) (n r x : Nat) (L : Nat → Int64) (q1 q2 q4 : Bool) (v0 : Int32) (ot : Bool) (hn : n ≤ 48) (hL : ∀ u v, gf_E n L u v → v < n) (hI1 : fv_S n r L q1 ab en lf bl mt) (hI2 : fv_S n x (gf_T n L) q2 ab2 en2 lf2 bl2 mt2) (hI4 : fv_N n r L q4 bo) : Met l y_L_header w_L_header ({ frames := 8, cells := 1, slots := 6, locals := 171 }) (va_Pc [.ref h0, .int v0, .int (bs_i ot), .ref g5] (cw_T (dC, dI) cJ cI (lx_ws cJ cI h0 h1 n1 a1 e1 l1 b1 t1 h2 n2 a2 e2 l2 b2 t2 h4 c4 g5 (nI n) (nI (sp_lc n L)) L ab en lf bl tr (nI n) (nI r) mt (bs_i q1) (gf_T n L) ab2 en2 lf2 bl2 tr2 (nI n) (nI x) mt2 (bs_i q2) bo (bs_i q4) ou) hs sa sb)) (va_Qi (fun (r9 : Int32) (u9 : Bool × (Nat → Int64) × (Nat → Int32) × (Nat → Int32) × (Nat → Int32) × (Nat → Int32) × Int64 × Bool × (Nat → Int64) × (Nat → Int32) × (Nat → Int32) × (Nat → Int32) × (Nat → Int32) × Int64 × Bool × (Nat → Int64) × (Nat → Int64)) => match u9 with | (p9, ab9, en9, lf9, bl9, tr9, mt9, s9, yb9, yn9, yf9, yl9, yr9, ym9, w9, bo9, ou9) => (fv_S n r L p9 ab9 en9 lf9 bl9 mt9 ∧ fv_S n x (gf_T n L) s9 yb9 yn9 yf9 yl9 ym9 ∧ fv_N n r L w9 bo9) ∧ ((r9 = nI 0 ∧ ∃ k, k < n ∧ v0 = nI k ∧ ∃ z9 : Int32, ou9 0 = z9.toInt64 ∧ z9 = sp_hi (sp_hd (sp_lp n L r) (fun i => bs_t (sp_lp n L r i) k && !(ot && decide (i = k))) n)) ∨ (r9 = nI 1 ∧ ¬ ∃ k, k < n ∧ v0 = nI k))) (fun (u9 : Bool × (Nat → Int64) × (Nat → Int32) × (Nat → Int32) × (Nat → Int32) × (Nat → Int32) × Int64 × Bool × (Nat → Int64) × (Nat → Int32) × (Nat → Int32) × (Nat → Int32) × (Nat → Int32) × Int64 × Bool × (Nat → Int64) × (Nat → Int64)) (t : State) => match u9 with | (p9, ab9, en9, lf9, bl9, tr9, mt9, s9, yb9, yn9, yf9, yl9, yr9, ym9, w9, bo9, ou9) => va_P (dC, dI) vwCl (lx_ws cJ cI h0 h1 n1 a1 e1 l1 b1 t1 h2 n2 a2 e2 l2 b2 t2 h4 c4 g5 (nI n) (nI (sp_lc n L)) L ab9 en9 lf9 bl9 tr9 (nI n) (nI r) mt9 (bs_i p9) (gf_T n L) yb9 yn9 yf9 yl9 yr9 (nI n) (nI x) ym9 (bs_i s9) bo9 (bs_i w9) ou9) t.heap ∧ va_D (va_A (lx_ws cJ cI h0 h1 n1 a1 e1 l1 b1 t1 h2 n2 a2 e2 l2 b2 t2 h4 c4 g5 (nI n) (nI (sp_lc n L)) L ab en lf bl tr (nI n) (nI r) mt (bs_i q1) (gf_T n L) ab2 en2 lf2 bl2 tr2 (nI n) (nI x) mt2 (bs_i q2) bo (bs_i q4) ou) hs) (lx_ws cJ cI h0 h1 n1 a1 e1 l1 b1 t1 h2 n2 a2 e2 l2 b2 t2 h4 c4 g5 (nI n) (nI (sp_lc n L)) L ab9 en9 lf9 bl9 tr9 (nI n) (nI r) mt9 (bs_i p9) (gf_T n L) yb9 yn9 yf9 yl9 yr9 (nI n) (nI x) ym9 (bs_i s9) bo9 (bs_i w9) ou9)) (va_A (lx_ws cJ cI h0 h1 n1 a1 e1 l1 b1 t1 h2 n2 a2 e2 l2 b2 t2 h4 c4 g5 (nI n) (nI (sp_lc n L)) L ab en lf bl tr (nI n) (nI r) mt (bs_i q1) (gf_T n L) ab2 en2 lf2 bl2 tr2 (nI n) (nI x) mt2 (bs_i q2) bo (bs_i q4) ou) hs)) 1 6 (va_A (lx_ws cJ cI h0 h1 n1 a1 e1 l1 b1 t1 h2 n2 a2 e2 l2 b2 t2 h4 c4 g5 (nI n) (nI (sp_lc n L)) L ab en lf bl tr (nI n) (nI r) mt (bs_i q1) (gf_T n L) ab2 en2 lf2 bl2 tr2 (nI n) (nI x) mt2 (bs_i q2) bo (bs_i q4) ou) hs) := by
  refine mt_ofWH (cc := b_L_header) (maxL := 5) (ret := (some .int)) (hh := [(0, 10, 13, 19)]) (by decide) rfl ?_
  intro p e s m args below meth c s₁ B hml hv9
  obtain ⟨rfl, ⟨hsz, ⟨hP, hK, hNw⟩, hD0⟩, hX⟩ := hv9
  have hx := B.exec
  have hb := B.bytes
  have hr := B.returns
  have hts := atoms_spec (ws := w_L_header) B.pre
  have hown : s.vm.findClass "FlowNestLaw" = some m.cls := findClass_of_methodNamed B.named
  have hlocks := B.notSynchronized
  have htb : c.exceptionTable.toList = tableOf [(0, 10, 13, 19)] := vx_table (x := y_L_header) B (hts _ List.mem_cons_self)
  subst hsz
  have hD := hD0.self (sz := s.heap.size)
  generalize hAe : va_A (lx_ws cJ cI h0 h1 n1 a1 e1 l1 b1 t1 h2 n2 a2 e2 l2 b2 t2 h4 c4 g5 (nI n) (nI (sp_lc n L)) L ab en lf bl tr (nI n) (nI r) mt (bs_i q1) (gf_T n L) ab2 en2 lf2 bl2 tr2 (nI n) (nI x) mt2 (bs_i q2) bo (bs_i q4) ou) s.heap.size = A at hD ⊢
  have hA : ∀ q : Nat, s.heap.size ≤ q → A q := fun q h => by rw [← hAe]; exact Or.inr h
  have hS : va_S A s.heap s.heap [] := va_S.rf
  have hP : va_P (dC, dI) vwCl (lx_ws cJ cI h0 h1 n1 a1 e1 l1 b1 t1 h2 n2 a2 e2 l2 b2 t2 h4 c4 g5 (nI n) (nI (sp_lc n L)) L ab en lf bl tr (nI n) (nI r) mt (bs_i q1) (gf_T n L) ab2 en2 lf2 bl2 tr2 (nI n) (nI x) mt2 (bs_i q2) bo (bs_i q4) ou) s.heap := hP
  have hl := lv_entry ([.ref h0, .int v0, .int (bs_i ot), .ref g5]) (n := 5) (Nat.le_of_ble_eq_true rfl)
  rw [lg_entry_eq]
  generalize (lg_sl ([.ref h0, .int v0, .int (bs_i ot), .ref g5]) ++ List.replicate (5 - (lg_sl ([.ref h0, .int v0, .int (bs_i ot), .ref g5])).length) Slot.unset).toArray = ls at hl ⊢
  have hl : lv_has ls 5 [(0, .ref h0), (1, .int v0), (2, .int (bs_i ot)), (3, .ref g5)] := hl
  refine lv_aload_n hx hb d_L_header_0 rfl (lv_at hl 3 rfl) ?_
  refine lv_iconst (v := nI 0) hx hb d_L_header_1 (by decide) ?_
  refine lv_aload_n hx hb d_L_header_2 rfl (lv_at hl 0 rfl) ?_
  refine lv_iload_n hx hb d_L_header_3 rfl (lv_at hl 1 rfl) ?_
  refine lv_iload_n hx hb d_L_header_4 rfl (lv_at hl 2 rfl) ?_
  have hPc := hP.sub (ws' := fn_ws cJ cI h0 h1 n1 a1 e1 l1 b1 t1 h2 n2 a2 e2 l2 b2 t2 h4 c4 (nI n) (nI (sp_lc n L)) L ab en lf bl tr (nI n) (nI r) mt (bs_i q1) (gf_T n L) ab2 en2 lf2 bl2 tr2 (nI n) (nI x) mt2 (bs_i q2) bo (bs_i q4)) [0, 1, 2, 3, 4, 5, 6, 7, 8, 9, 10, 11, 12, 13, 14, 15, 16] rfl
  have hDc := hD.sub (ws' := fn_ws cJ cI h0 h1 n1 a1 e1 l1 b1 t1 h2 n2 a2 e2 l2 b2 t2 h4 c4 (nI n) (nI (sp_lc n L)) L ab en lf bl tr (nI n) (nI r) mt (bs_i q1) (gf_T n L) ab2 en2 lf2 bl2 tr2 (nI n) (nI x) mt2 (bs_i q2) bo (bs_i q4)) [0, 1, 2, 3, 4, 5, 6, 7, 8, 9, 10, 11, 12, 13, 14, 15, 16] (by decide) rfl
  have hFc := va_free (wc := fn_ws cJ cI h0 h1 n1 a1 e1 l1 b1 t1 h2 n2 a2 e2 l2 b2 t2 h4 c4 (nI n) (nI (sp_lc n L)) L ab en lf bl tr (nI n) (nI r) mt (bs_i q1) (gf_T n L) ab2 en2 lf2 bl2 tr2 (nI n) (nI x) mt2 (bs_i q2) bo (bs_i q4)) hD hS hA [0, 1, 2, 3, 4, 5, 6, 7, 8, 9, 10, 11, 12, 13, 14, 15, 16] rfl
  refine vx_calli (vx_runV (C := "FlowNest") (b := h0) (As := [.int v0, .int (bs_i ot)]) (rest := [.int (nI 0), .ref g5]) ⟨hx, hb, hml, hown, hts⟩ (c_F_header l hl9 dC dI cJ cI h0 h1 n1 a1 e1 l1 b1 t1 h2 n2 a2 e2 l2 b2 t2 h4 c4 s.heap.size sa sb ab en lf bl tr mt ab2 en2 lf2 bl2 tr2 mt2 bo n r x L q1 q2 q4 v0 ot hn hL hI1 hI2 hI4) (cwV 2 hts (nm_gV nm_392 nm_393 nm_394 nm_1 nm_c_F_header) rfl rfl rfl (by decide +kernel) ⟨Nat.le_of_ble_eq_true rfl, Nat.le_of_ble_eq_true rfl⟩) ⟨cw_blindT, va_recv hK hP (ci := 2) rfl (q0 := 0) rfl, cw_preT hPc hDc hK hNw hX⟩ rfl rfl hl.1 rfl (lv_room (Nat.le_of_ble_eq_true rfl)) d_L_header_5 ⟨Nat.le_of_ble_eq_true rfl, Nat.le_of_ble_eq_true rfl⟩) hS (fun q _ h => hFc q h) hFc (fun q h1 h2 => absurd h2 (by omega)) (fun E ce q9 u t H1 locs ht hvm hpx hbx hz1 hk1 hS hce hcv hcl => ?_) (fun r1 u9 t H1 locs ht hvm hw hB hz1 hk1 hS => ?_)
  · have hkk : ∀ q : Nat, q < s.heap.size → H1[q]? = s.heap[q]? := fun q h => hk1 q h (by omega)
    have hP := va_Pk hP hkk
    clear hkk hk1 hz1 hPc hDc ht
    generalize H1 = H at hP hS hce ⊢
    subst hbx
    refine vx_catch (own := "FlowNestLaw") (name := "java/lang/IndexOutOfBoundsException") hown [] ⟨0, 10, 13, 19⟩ [] htb (fun z hz => nomatch hz) (by decide) (by decide) (hts _ (List.mem_cons_of_mem _ nm_276)) (xw_cI hX.1) hce hcv hcl ?_
    refine W.eq (g2 := F0 m 13 ls [.ref q9]) rfl ?_
    refine lv_astore (lv' := [(4, .ref q9), (0, .ref h0), (1, .int v0), (2, .int (bs_i ot)), (3, .ref g5)]) hx hb d_L_header_13 hl (by decide) rfl (fun ls hl => ?_)
    refine lv_iconst (v := nI 1) hx hb d_L_header_15 (by decide) ?_
    exact W.widen (k := 1) (n := 6) (Nat.le_of_ble_eq_true rfl) (Nat.le_of_ble_eq_true rfl) (W.iret (v := nI 1) hx hb hr (fun t ht hW => ⟨⟨(nI 1), (q1, ab, en, lf, bl, tr, mt, q2, ab2, en2, lf2, bl2, tr2, mt2, q4, bo, ou), rfl, ⟨⟨hI1, hI2, hI4⟩, Or.inr ⟨rfl, hpx⟩⟩, by rw [ht]; exact hP, hD⟩, hS.F ht⟩) hS.2.2 d_L_header_16)
  · obtain ⟨p91, ab92, en93, lf94, bl95, tr96, mt97, s98, yb99, yn910, yf911, yl912, yr913, ym914, w915, bo916⟩ := u9
    obtain ⟨hP1, hD1⟩ := hB
    rw [ht] at hP1
    obtain ⟨hP, hD⟩ := va_join (wr := ([17] : List Nat).filterMap (fun (i : Nat) => (lx_ws cJ cI h0 h1 n1 a1 e1 l1 b1 t1 h2 n2 a2 e2 l2 b2 t2 h4 c4 g5 (nI n) (nI (sp_lc n L)) L ab en lf bl tr (nI n) (nI r) mt (bs_i q1) (gf_T n L) ab2 en2 lf2 bl2 tr2 (nI n) (nI x) mt2 (bs_i q2) bo (bs_i q4) ou)[i]?)) (w1 := fn_ws cJ cI h0 h1 n1 a1 e1 l1 b1 t1 h2 n2 a2 e2 l2 b2 t2 h4 c4 (nI n) (nI (sp_lc n L)) L ab92 en93 lf94 bl95 tr96 (nI n) (nI r) mt97 (bs_i p91) (gf_T n L) yb99 yn910 yf911 yl912 yr913 (nI n) (nI x) ym914 (bs_i s98) bo916 (bs_i w915)) hP hD [0, 1, 2, 3, 4, 5, 6, 7, 8, 9, 10, 11, 12, 13, 14, 15, 16] [17] rfl rfl (by decide) (by decide) hk1 hFc hP1 hD1
    generalize H1 = H at hP hS ⊢
    have hP : va_P (dC, dI) vwCl (lx_ws cJ cI h0 h1 n1 a1 e1 l1 b1 t1 h2 n2 a2 e2 l2 b2 t2 h4 c4 g5 (nI n) (nI (sp_lc n L)) L ab92 en93 lf94 bl95 tr96 (nI n) (nI r) mt97 (bs_i p91) (gf_T n L) yb99 yn910 yf911 yl912 yr913 (nI n) (nI x) ym914 (bs_i s98) bo916 (bs_i w915) ou) H := hP.sub (ws' := lx_ws cJ cI h0 h1 n1 a1 e1 l1 b1 t1 h2 n2 a2 e2 l2 b2 t2 h4 c4 g5 (nI n) (nI (sp_lc n L)) L ab92 en93 lf94 bl95 tr96 (nI n) (nI r) mt97 (bs_i p91) (gf_T n L) yb99 yn910 yf911 yl912 yr913 (nI n) (nI x) ym914 (bs_i s98) bo916 (bs_i w915) ou) [1, 2, 3, 4, 5, 6, 7, 8, 9, 10, 11, 12, 13, 14, 15, 16, 17, 0] rfl
    have hD : va_D A (lx_ws cJ cI h0 h1 n1 a1 e1 l1 b1 t1 h2 n2 a2 e2 l2 b2 t2 h4 c4 g5 (nI n) (nI (sp_lc n L)) L ab92 en93 lf94 bl95 tr96 (nI n) (nI r) mt97 (bs_i p91) (gf_T n L) yb99 yn910 yf911 yl912 yr913 (nI n) (nI x) ym914 (bs_i s98) bo916 (bs_i w915) ou) := hD.sub (ws' := lx_ws cJ cI h0 h1 n1 a1 e1 l1 b1 t1 h2 n2 a2 e2 l2 b2 t2 h4 c4 g5 (nI n) (nI (sp_lc n L)) L ab92 en93 lf94 bl95 tr96 (nI n) (nI r) mt97 (bs_i p91) (gf_T n L) yb99 yn910 yf911 yl912 yr913 (nI n) (nI x) ym914 (bs_i s98) bo916 (bs_i w915) ou) [1, 2, 3, 4, 5, 6, 7, 8, 9, 10, 11, 12, 13, 14, 15, 16, 17, 0] (by decide) rfl
    obtain ⟨g1, g2, g4, k, hk_k, rfl, ha9⟩ := hw
    have hi9 := And.intro g1 (And.intro g2 g4)
    refine lv_i2l (v := r1.toInt64) hx hb d_L_header_8 rfl ?_
    refine wl_last (i := 0) hx hb hK hP hD hS 17 0 rfl rfl (by omega) (by decide) d_L_header_9 (fun H locs hP hD hS => ?_)
    have hP : va_P (dC, dI) vwCl (lx_ws cJ cI h0 h1 n1 a1 e1 l1 b1 t1 h2 n2 a2 e2 l2 b2 t2 h4 c4 g5 (nI n) (nI (sp_lc n L)) L ab92 en93 lf94 bl95 tr96 (nI n) (nI r) mt97 (bs_i p91) (gf_T n L) yb99 yn910 yf911 yl912 yr913 (nI n) (nI x) ym914 (bs_i s98) bo916 (bs_i w915) (vp_updL ou 0 r1.toInt64)) H := hP
    have hD : va_D A (lx_ws cJ cI h0 h1 n1 a1 e1 l1 b1 t1 h2 n2 a2 e2 l2 b2 t2 h4 c4 g5 (nI n) (nI (sp_lc n L)) L ab92 en93 lf94 bl95 tr96 (nI n) (nI r) mt97 (bs_i p91) (gf_T n L) yb99 yn910 yf911 yl912 yr913 (nI n) (nI x) ym914 (bs_i s98) bo916 (bs_i w915) (vp_updL ou 0 r1.toInt64)) := hD
    refine lv_goto (tgt := 17) hx hb d_L_header_10 (by decide) ?_
    refine lv_iconst (v := nI 0) hx hb d_L_header_17 (by decide) ?_
    exact W.widen (k := 1) (n := 6) (Nat.le_of_ble_eq_true rfl) (Nat.le_of_ble_eq_true rfl) (W.iret (v := nI 0) hx hb hr (fun t ht hW => ⟨⟨(nI 0), (p91, ab92, en93, lf94, bl95, tr96, mt97, s98, yb99, yn910, yf911, yl912, yr913, ym914, w915, bo916, vp_updL ou 0 r1.toInt64), rfl, ⟨hi9, Or.inl ⟨rfl, k, hk_k, rfl, r1, pk_uLs, ha9⟩⟩, by rw [ht]; exact hP, hD⟩, hS.F ht⟩) hS.2.2 d_L_header_18)
set_option maxHeartbeats 4000000 in
set_option maxRecDepth 100000 in
theorem c_L_order (l : Launch) (hl9 : l.stackTraces = false) (dC : Nat → ClassId) (dI : Nat → Nat → Nat) (cJ cI : ClassId) (h0 h1 n1 a1 e1 l1 b1 t1 h2 n2 a2 e2 l2 b2 t2 h4 c4 g5 hs sa sb : Nat) (ab : Nat → Int64) (en : Nat → Int32) (lf : Nat → Int32) (bl : Nat → Int32) (tr : Nat → Int32) (mt : Int64) (ab2 : Nat → Int64) (en2 : Nat → Int32) (lf2 : Nat → Int32) (bl2 : Nat → Int32) (tr2 : Nat → Int32) (mt2 : Int64) (bo : Nat → Int64) (ou : Nat → Int64) (n r x : Nat) (L : Nat → Int64) (q1 q2 q4 : Bool) (v0 : Int32) (lo : Bool) (hn : n ≤ 48) (hL : ∀ u v, gf_E n L u v → v < n) (hI1 : fv_S n r L q1 ab en lf bl mt) (hI2 : fv_S n x (gf_T n L) q2 ab2 en2 lf2 bl2 mt2) (hI4 : fv_N n r L q4 bo) : Met l y_L_order w_L_order ({ frames := 8, cells := 1, slots := 6, locals := 161 }) (va_Pc [.ref h0, .int v0, .int (bs_i lo), .ref g5] (cw_T (dC, dI) cJ cI (lx_ws cJ cI h0 h1 n1 a1 e1 l1 b1 t1 h2 n2 a2 e2 l2 b2 t2 h4 c4 g5 (nI n) (nI (sp_lc n L)) L ab en lf bl tr (nI n) (nI r) mt (bs_i q1) (gf_T n L) ab2 en2 lf2 bl2 tr2 (nI n) (nI x) mt2 (bs_i q2) bo (bs_i q4) ou) hs sa sb)) (va_Qi (fun (r9 : Int32) (u9 : Bool × (Nat → Int64) × (Nat → Int32) × (Nat → Int32) × (Nat → Int32) × (Nat → Int32) × Int64 × Bool × (Nat → Int64) × (Nat → Int32) × (Nat → Int32) × (Nat → Int32) × (Nat → Int32) × Int64 × Bool × (Nat → Int64) × (Nat → Int64)) => match u9 with | (p9, ab9, en9, lf9, bl9, tr9, mt9, s9, yb9, yn9, yf9, yl9, yr9, ym9, w9, bo9, ou9) => (fv_S n r L p9 ab9 en9 lf9 bl9 mt9 ∧ fv_S n x (gf_T n L) s9 yb9 yn9 yf9 yl9 ym9 ∧ fv_N n r L w9 bo9) ∧ ((r9 = nI 0 ∧ ∃ k, k < n ∧ v0 = nI k ∧ ∃ z9 : Int32, ou9 0 = z9.toInt64 ∧ z9 = (if lo = true then (df_F n L r (fun _ => 0)).2.2.1 k else (df_F n L r (fun _ => 0)).2.1 k)) ∨ (r9 = nI 1 ∧ ¬ ∃ k, k < n ∧ v0 = nI k))) (fun (u9 : Bool × (Nat → Int64) × (Nat → Int32) × (Nat → Int32) × (Nat → Int32) × (Nat → Int32) × Int64 × Bool × (Nat → Int64) × (Nat → Int32) × (Nat → Int32) × (Nat → Int32) × (Nat → Int32) × Int64 × Bool × (Nat → Int64) × (Nat → Int64)) (t : State) => match u9 with | (p9, ab9, en9, lf9, bl9, tr9, mt9, s9, yb9, yn9, yf9, yl9, yr9, ym9, w9, bo9, ou9) => va_P (dC, dI) vwCl (lx_ws cJ cI h0 h1 n1 a1 e1 l1 b1 t1 h2 n2 a2 e2 l2 b2 t2 h4 c4 g5 (nI n) (nI (sp_lc n L)) L ab9 en9 lf9 bl9 tr9 (nI n) (nI r) mt9 (bs_i p9) (gf_T n L) yb9 yn9 yf9 yl9 yr9 (nI n) (nI x) ym9 (bs_i s9) bo9 (bs_i w9) ou9) t.heap ∧ va_D (va_A (lx_ws cJ cI h0 h1 n1 a1 e1 l1 b1 t1 h2 n2 a2 e2 l2 b2 t2 h4 c4 g5 (nI n) (nI (sp_lc n L)) L ab en lf bl tr (nI n) (nI r) mt (bs_i q1) (gf_T n L) ab2 en2 lf2 bl2 tr2 (nI n) (nI x) mt2 (bs_i q2) bo (bs_i q4) ou) hs) (lx_ws cJ cI h0 h1 n1 a1 e1 l1 b1 t1 h2 n2 a2 e2 l2 b2 t2 h4 c4 g5 (nI n) (nI (sp_lc n L)) L ab9 en9 lf9 bl9 tr9 (nI n) (nI r) mt9 (bs_i p9) (gf_T n L) yb9 yn9 yf9 yl9 yr9 (nI n) (nI x) ym9 (bs_i s9) bo9 (bs_i w9) ou9)) (va_A (lx_ws cJ cI h0 h1 n1 a1 e1 l1 b1 t1 h2 n2 a2 e2 l2 b2 t2 h4 c4 g5 (nI n) (nI (sp_lc n L)) L ab en lf bl tr (nI n) (nI r) mt (bs_i q1) (gf_T n L) ab2 en2 lf2 bl2 tr2 (nI n) (nI x) mt2 (bs_i q2) bo (bs_i q4) ou) hs)) 1 6 (va_A (lx_ws cJ cI h0 h1 n1 a1 e1 l1 b1 t1 h2 n2 a2 e2 l2 b2 t2 h4 c4 g5 (nI n) (nI (sp_lc n L)) L ab en lf bl tr (nI n) (nI r) mt (bs_i q1) (gf_T n L) ab2 en2 lf2 bl2 tr2 (nI n) (nI x) mt2 (bs_i q2) bo (bs_i q4) ou) hs) := by
  refine mt_ofWH (cc := b_L_order) (maxL := 5) (ret := (some .int)) (hh := [(0, 10, 13, 19)]) (by decide) rfl ?_
  intro p e s m args below meth c s₁ B hml hv9
  obtain ⟨rfl, ⟨hsz, ⟨hP, hK, hNw⟩, hD0⟩, hX⟩ := hv9
  have hx := B.exec
  have hb := B.bytes
  have hr := B.returns
  have hts := atoms_spec (ws := w_L_order) B.pre
  have hown : s.vm.findClass "FlowNestLaw" = some m.cls := findClass_of_methodNamed B.named
  have hlocks := B.notSynchronized
  have htb : c.exceptionTable.toList = tableOf [(0, 10, 13, 19)] := vx_table (x := y_L_order) B (hts _ List.mem_cons_self)
  subst hsz
  have hD := hD0.self (sz := s.heap.size)
  generalize hAe : va_A (lx_ws cJ cI h0 h1 n1 a1 e1 l1 b1 t1 h2 n2 a2 e2 l2 b2 t2 h4 c4 g5 (nI n) (nI (sp_lc n L)) L ab en lf bl tr (nI n) (nI r) mt (bs_i q1) (gf_T n L) ab2 en2 lf2 bl2 tr2 (nI n) (nI x) mt2 (bs_i q2) bo (bs_i q4) ou) s.heap.size = A at hD ⊢
  have hA : ∀ q : Nat, s.heap.size ≤ q → A q := fun q h => by rw [← hAe]; exact Or.inr h
  have hS : va_S A s.heap s.heap [] := va_S.rf
  have hP : va_P (dC, dI) vwCl (lx_ws cJ cI h0 h1 n1 a1 e1 l1 b1 t1 h2 n2 a2 e2 l2 b2 t2 h4 c4 g5 (nI n) (nI (sp_lc n L)) L ab en lf bl tr (nI n) (nI r) mt (bs_i q1) (gf_T n L) ab2 en2 lf2 bl2 tr2 (nI n) (nI x) mt2 (bs_i q2) bo (bs_i q4) ou) s.heap := hP
  have hl := lv_entry ([.ref h0, .int v0, .int (bs_i lo), .ref g5]) (n := 5) (Nat.le_of_ble_eq_true rfl)
  rw [lg_entry_eq]
  generalize (lg_sl ([.ref h0, .int v0, .int (bs_i lo), .ref g5]) ++ List.replicate (5 - (lg_sl ([.ref h0, .int v0, .int (bs_i lo), .ref g5])).length) Slot.unset).toArray = ls at hl ⊢
  have hl : lv_has ls 5 [(0, .ref h0), (1, .int v0), (2, .int (bs_i lo)), (3, .ref g5)] := hl
  refine lv_aload_n hx hb d_L_order_0 rfl (lv_at hl 3 rfl) ?_
  refine lv_iconst (v := nI 0) hx hb d_L_order_1 (by decide) ?_
  refine lv_aload_n hx hb d_L_order_2 rfl (lv_at hl 0 rfl) ?_
  refine lv_iload_n hx hb d_L_order_3 rfl (lv_at hl 1 rfl) ?_
  refine lv_iload_n hx hb d_L_order_4 rfl (lv_at hl 2 rfl) ?_
  have hPc := hP.sub (ws' := fn_ws cJ cI h0 h1 n1 a1 e1 l1 b1 t1 h2 n2 a2 e2 l2 b2 t2 h4 c4 (nI n) (nI (sp_lc n L)) L ab en lf bl tr (nI n) (nI r) mt (bs_i q1) (gf_T n L) ab2 en2 lf2 bl2 tr2 (nI n) (nI x) mt2 (bs_i q2) bo (bs_i q4)) [0, 1, 2, 3, 4, 5, 6, 7, 8, 9, 10, 11, 12, 13, 14, 15, 16] rfl
  have hDc := hD.sub (ws' := fn_ws cJ cI h0 h1 n1 a1 e1 l1 b1 t1 h2 n2 a2 e2 l2 b2 t2 h4 c4 (nI n) (nI (sp_lc n L)) L ab en lf bl tr (nI n) (nI r) mt (bs_i q1) (gf_T n L) ab2 en2 lf2 bl2 tr2 (nI n) (nI x) mt2 (bs_i q2) bo (bs_i q4)) [0, 1, 2, 3, 4, 5, 6, 7, 8, 9, 10, 11, 12, 13, 14, 15, 16] (by decide) rfl
  have hFc := va_free (wc := fn_ws cJ cI h0 h1 n1 a1 e1 l1 b1 t1 h2 n2 a2 e2 l2 b2 t2 h4 c4 (nI n) (nI (sp_lc n L)) L ab en lf bl tr (nI n) (nI r) mt (bs_i q1) (gf_T n L) ab2 en2 lf2 bl2 tr2 (nI n) (nI x) mt2 (bs_i q2) bo (bs_i q4)) hD hS hA [0, 1, 2, 3, 4, 5, 6, 7, 8, 9, 10, 11, 12, 13, 14, 15, 16] rfl
  refine vx_calli (vx_runV (C := "FlowNest") (b := h0) (As := [.int v0, .int (bs_i lo)]) (rest := [.int (nI 0), .ref g5]) ⟨hx, hb, hml, hown, hts⟩ (c_F_order l hl9 dC dI cJ cI h0 h1 n1 a1 e1 l1 b1 t1 h2 n2 a2 e2 l2 b2 t2 h4 c4 s.heap.size sa sb ab en lf bl tr mt ab2 en2 lf2 bl2 tr2 mt2 bo n r x L q1 q2 q4 v0 lo hn hL hI1 hI2 hI4) (cwV 2 hts (nm_gV nm_404 nm_405 nm_406 nm_1 nm_c_F_order) rfl rfl rfl (by decide +kernel) ⟨Nat.le_of_ble_eq_true rfl, Nat.le_of_ble_eq_true rfl⟩) ⟨cw_blindT, va_recv hK hP (ci := 2) rfl (q0 := 0) rfl, cw_preT hPc hDc hK hNw hX⟩ rfl rfl hl.1 rfl (lv_room (Nat.le_of_ble_eq_true rfl)) d_L_order_5 ⟨Nat.le_of_ble_eq_true rfl, Nat.le_of_ble_eq_true rfl⟩) hS (fun q _ h => hFc q h) hFc (fun q h1 h2 => absurd h2 (by omega)) (fun E ce q9 u t H1 locs ht hvm hpx hbx hz1 hk1 hS hce hcv hcl => ?_) (fun r1 u9 t H1 locs ht hvm hw hB hz1 hk1 hS => ?_)
  · have hkk : ∀ q : Nat, q < s.heap.size → H1[q]? = s.heap[q]? := fun q h => hk1 q h (by omega)
    have hP := va_Pk hP hkk
    clear hkk hk1 hz1 hPc hDc ht
    generalize H1 = H at hP hS hce ⊢
    subst hbx
    refine vx_catch (own := "FlowNestLaw") (name := "java/lang/IndexOutOfBoundsException") hown [] ⟨0, 10, 13, 19⟩ [] htb (fun z hz => nomatch hz) (by decide) (by decide) (hts _ (List.mem_cons_of_mem _ nm_276)) (xw_cI hX.1) hce hcv hcl ?_
    refine W.eq (g2 := F0 m 13 ls [.ref q9]) rfl ?_
    refine lv_astore (lv' := [(4, .ref q9), (0, .ref h0), (1, .int v0), (2, .int (bs_i lo)), (3, .ref g5)]) hx hb d_L_order_13 hl (by decide) rfl (fun ls hl => ?_)
    refine lv_iconst (v := nI 1) hx hb d_L_order_15 (by decide) ?_
    exact W.widen (k := 1) (n := 6) (Nat.le_of_ble_eq_true rfl) (Nat.le_of_ble_eq_true rfl) (W.iret (v := nI 1) hx hb hr (fun t ht hW => ⟨⟨(nI 1), (q1, ab, en, lf, bl, tr, mt, q2, ab2, en2, lf2, bl2, tr2, mt2, q4, bo, ou), rfl, ⟨⟨hI1, hI2, hI4⟩, Or.inr ⟨rfl, hpx⟩⟩, by rw [ht]; exact hP, hD⟩, hS.F ht⟩) hS.2.2 d_L_order_16)
  · obtain ⟨p91, ab92, en93, lf94, bl95, tr96, mt97, s98, yb99, yn910, yf911, yl912, yr913, ym914, w915, bo916⟩ := u9
    obtain ⟨hP1, hD1⟩ := hB
    rw [ht] at hP1
    obtain ⟨hP, hD⟩ := va_join (wr := ([17] : List Nat).filterMap (fun (i : Nat) => (lx_ws cJ cI h0 h1 n1 a1 e1 l1 b1 t1 h2 n2 a2 e2 l2 b2 t2 h4 c4 g5 (nI n) (nI (sp_lc n L)) L ab en lf bl tr (nI n) (nI r) mt (bs_i q1) (gf_T n L) ab2 en2 lf2 bl2 tr2 (nI n) (nI x) mt2 (bs_i q2) bo (bs_i q4) ou)[i]?)) (w1 := fn_ws cJ cI h0 h1 n1 a1 e1 l1 b1 t1 h2 n2 a2 e2 l2 b2 t2 h4 c4 (nI n) (nI (sp_lc n L)) L ab92 en93 lf94 bl95 tr96 (nI n) (nI r) mt97 (bs_i p91) (gf_T n L) yb99 yn910 yf911 yl912 yr913 (nI n) (nI x) ym914 (bs_i s98) bo916 (bs_i w915)) hP hD [0, 1, 2, 3, 4, 5, 6, 7, 8, 9, 10, 11, 12, 13, 14, 15, 16] [17] rfl rfl (by decide) (by decide) hk1 hFc hP1 hD1
    generalize H1 = H at hP hS ⊢
    have hP : va_P (dC, dI) vwCl (lx_ws cJ cI h0 h1 n1 a1 e1 l1 b1 t1 h2 n2 a2 e2 l2 b2 t2 h4 c4 g5 (nI n) (nI (sp_lc n L)) L ab92 en93 lf94 bl95 tr96 (nI n) (nI r) mt97 (bs_i p91) (gf_T n L) yb99 yn910 yf911 yl912 yr913 (nI n) (nI x) ym914 (bs_i s98) bo916 (bs_i w915) ou) H := hP.sub (ws' := lx_ws cJ cI h0 h1 n1 a1 e1 l1 b1 t1 h2 n2 a2 e2 l2 b2 t2 h4 c4 g5 (nI n) (nI (sp_lc n L)) L ab92 en93 lf94 bl95 tr96 (nI n) (nI r) mt97 (bs_i p91) (gf_T n L) yb99 yn910 yf911 yl912 yr913 (nI n) (nI x) ym914 (bs_i s98) bo916 (bs_i w915) ou) [1, 2, 3, 4, 5, 6, 7, 8, 9, 10, 11, 12, 13, 14, 15, 16, 17, 0] rfl
    have hD : va_D A (lx_ws cJ cI h0 h1 n1 a1 e1 l1 b1 t1 h2 n2 a2 e2 l2 b2 t2 h4 c4 g5 (nI n) (nI (sp_lc n L)) L ab92 en93 lf94 bl95 tr96 (nI n) (nI r) mt97 (bs_i p91) (gf_T n L) yb99 yn910 yf911 yl912 yr913 (nI n) (nI x) ym914 (bs_i s98) bo916 (bs_i w915) ou) := hD.sub (ws' := lx_ws cJ cI h0 h1 n1 a1 e1 l1 b1 t1 h2 n2 a2 e2 l2 b2 t2 h4 c4 g5 (nI n) (nI (sp_lc n L)) L ab92 en93 lf94 bl95 tr96 (nI n) (nI r) mt97 (bs_i p91) (gf_T n L) yb99 yn910 yf911 yl912 yr913 (nI n) (nI x) ym914 (bs_i s98) bo916 (bs_i w915) ou) [1, 2, 3, 4, 5, 6, 7, 8, 9, 10, 11, 12, 13, 14, 15, 16, 17, 0] (by decide) rfl
    obtain ⟨g1, g2, g4, k, hk_k, rfl, ha9⟩ := hw
    have hi9 := And.intro g1 (And.intro g2 g4)
    refine lv_i2l (v := r1.toInt64) hx hb d_L_order_8 rfl ?_
    refine wl_last (i := 0) hx hb hK hP hD hS 17 0 rfl rfl (by omega) (by decide) d_L_order_9 (fun H locs hP hD hS => ?_)
    have hP : va_P (dC, dI) vwCl (lx_ws cJ cI h0 h1 n1 a1 e1 l1 b1 t1 h2 n2 a2 e2 l2 b2 t2 h4 c4 g5 (nI n) (nI (sp_lc n L)) L ab92 en93 lf94 bl95 tr96 (nI n) (nI r) mt97 (bs_i p91) (gf_T n L) yb99 yn910 yf911 yl912 yr913 (nI n) (nI x) ym914 (bs_i s98) bo916 (bs_i w915) (vp_updL ou 0 r1.toInt64)) H := hP
    have hD : va_D A (lx_ws cJ cI h0 h1 n1 a1 e1 l1 b1 t1 h2 n2 a2 e2 l2 b2 t2 h4 c4 g5 (nI n) (nI (sp_lc n L)) L ab92 en93 lf94 bl95 tr96 (nI n) (nI r) mt97 (bs_i p91) (gf_T n L) yb99 yn910 yf911 yl912 yr913 (nI n) (nI x) ym914 (bs_i s98) bo916 (bs_i w915) (vp_updL ou 0 r1.toInt64)) := hD
    refine lv_goto (tgt := 17) hx hb d_L_order_10 (by decide) ?_
    refine lv_iconst (v := nI 0) hx hb d_L_order_17 (by decide) ?_
    exact W.widen (k := 1) (n := 6) (Nat.le_of_ble_eq_true rfl) (Nat.le_of_ble_eq_true rfl) (W.iret (v := nI 0) hx hb hr (fun t ht hW => ⟨⟨(nI 0), (p91, ab92, en93, lf94, bl95, tr96, mt97, s98, yb99, yn910, yf911, yl912, yr913, ym914, w915, bo916, vp_updL ou 0 r1.toInt64), rfl, ⟨hi9, Or.inl ⟨rfl, k, hk_k, rfl, r1, pk_uLs, ha9⟩⟩, by rw [ht]; exact hP, hD⟩, hS.F ht⟩) hS.2.2 d_L_order_18)
