/-! contracts of the law's wrappers of what changes (laid by wip/gen/wrap.py) -/
set_option maxHeartbeats 4000000 in
set_option maxRecDepth 100000 in
theorem c_L_begin (l : Launch) (hl9 : l.stackTraces = false) (dC : Nat → ClassId) (dI : Nat → Nat → Nat) (cJ cI : ClassId) (h0 h1 n1 a1 e1 l1 b1 t1 h2 n2 a2 e2 l2 b2 t2 h4 c4 g5 hs sa sb : Nat) (ab : Nat → Int64) (en : Nat → Int32) (lf : Nat → Int32) (bl : Nat → Int32) (tr : Nat → Int32) (mt : Int64) (ab2 : Nat → Int64) (en2 : Nat → Int32) (lf2 : Nat → Int32) (bl2 : Nat → Int32) (tr2 : Nat → Int32) (mt2 : Int64) (bo : Nat → Int64) (ou : Nat → Int64) (n r x : Nat) (L : Nat → Int64) (q1 q2 q4 : Bool) (v0 : Int32)  : Met l y_L_begin w_L_begin ({ frames := 7, cells := 1, slots := 6, locals := 104 }) (va_Pc [.ref h0, .int v0, .ref g5] (cw_T (dC, dI) cJ cI (lx_ws cJ cI h0 h1 n1 a1 e1 l1 b1 t1 h2 n2 a2 e2 l2 b2 t2 h4 c4 g5 (nI n) (nI (sp_lc n L)) L ab en lf bl tr (nI n) (nI r) mt (bs_i q1) (gf_T n L) ab2 en2 lf2 bl2 tr2 (nI n) (nI x) mt2 (bs_i q2) bo (bs_i q4) ou) hs sa sb)) (va_Qi (fun (r9 : Int32) (u9 : Nat × Nat × Nat × Int32 × (Nat → Int64) × (Nat → Int64) × Bool × Bool × Bool × (Nat → Int64)) => match u9 with | (n9, y9, z9, c9, L9, M9, p9, s9, w9, ou9) => (r9 = nI 0 ∧ 1 ≤ n9 ∧ n9 ≤ 48 ∧ v0 = nI n9 ∧ y9 = 0 ∧ z9 = n9 - 1 ∧ c9 = nI 0 ∧ (L9 = fun _ => 0) ∧ (M9 = fun _ => 0) ∧ p9 = true ∧ s9 = true ∧ w9 = true ∧ ou9 0 = (nI n).toInt64) ∨ (r9 = nI 1 ∧ (¬ ∃ m, 1 ≤ m ∧ m ≤ 48 ∧ v0 = nI m) ∧ n9 = n ∧ y9 = r ∧ z9 = x ∧ c9 = nI (sp_lc n L) ∧ L9 = L ∧ M9 = gf_T n L ∧ p9 = q1 ∧ s9 = q2 ∧ w9 = q4)) (fun (u9 : Nat × Nat × Nat × Int32 × (Nat → Int64) × (Nat → Int64) × Bool × Bool × Bool × (Nat → Int64)) (t : State) => match u9 with | (n9, y9, z9, c9, L9, M9, p9, s9, w9, ou9) => va_P (dC, dI) vwCl (lx_ws cJ cI h0 h1 n1 a1 e1 l1 b1 t1 h2 n2 a2 e2 l2 b2 t2 h4 c4 g5 (nI n9) c9 L9 ab en lf bl tr (nI n9) (nI y9) mt (bs_i p9) M9 ab2 en2 lf2 bl2 tr2 (nI n9) (nI z9) mt2 (bs_i s9) bo (bs_i w9) ou9) t.heap ∧ va_D (va_A (lx_ws cJ cI h0 h1 n1 a1 e1 l1 b1 t1 h2 n2 a2 e2 l2 b2 t2 h4 c4 g5 (nI n) (nI (sp_lc n L)) L ab en lf bl tr (nI n) (nI r) mt (bs_i q1) (gf_T n L) ab2 en2 lf2 bl2 tr2 (nI n) (nI x) mt2 (bs_i q2) bo (bs_i q4) ou) hs) (lx_ws cJ cI h0 h1 n1 a1 e1 l1 b1 t1 h2 n2 a2 e2 l2 b2 t2 h4 c4 g5 (nI n9) c9 L9 ab en lf bl tr (nI n9) (nI y9) mt (bs_i p9) M9 ab2 en2 lf2 bl2 tr2 (nI n9) (nI z9) mt2 (bs_i s9) bo (bs_i w9) ou9)) (va_A (lx_ws cJ cI h0 h1 n1 a1 e1 l1 b1 t1 h2 n2 a2 e2 l2 b2 t2 h4 c4 g5 (nI n) (nI (sp_lc n L)) L ab en lf bl tr (nI n) (nI r) mt (bs_i q1) (gf_T n L) ab2 en2 lf2 bl2 tr2 (nI n) (nI x) mt2 (bs_i q2) bo (bs_i q4) ou) hs)) 1 6 (va_A (lx_ws cJ cI h0 h1 n1 a1 e1 l1 b1 t1 h2 n2 a2 e2 l2 b2 t2 h4 c4 g5 (nI n) (nI (sp_lc n L)) L ab en lf bl tr (nI n) (nI r) mt (bs_i q1) (gf_T n L) ab2 en2 lf2 bl2 tr2 (nI n) (nI x) mt2 (bs_i q2) bo (bs_i q4) ou) hs) := by
  refine mt_ofWH (cc := b_L_begin) (maxL := 4) (ret := (some .int)) (hh := [(0, 9, 12, 13)]) (by decide) rfl ?_
  intro p e s m args below meth c s₁ B hml hv9
  obtain ⟨rfl, ⟨hsz, ⟨hP, hK, hNw⟩, hD0⟩, hX⟩ := hv9
  have hx := B.exec
  have hb := B.bytes
  have hr := B.returns
  have hts := atoms_spec (ws := w_L_begin) B.pre
  have hown : s.vm.findClass "FlowNestLaw" = some m.cls := findClass_of_methodNamed B.named
  have hlocks := B.notSynchronized
  have htb : c.exceptionTable.toList = tableOf [(0, 9, 12, 13)] := vx_table (x := y_L_begin) B (hts _ List.mem_cons_self)
  subst hsz
  have hD := hD0.self (sz := s.heap.size)
  generalize hAe : va_A (lx_ws cJ cI h0 h1 n1 a1 e1 l1 b1 t1 h2 n2 a2 e2 l2 b2 t2 h4 c4 g5 (nI n) (nI (sp_lc n L)) L ab en lf bl tr (nI n) (nI r) mt (bs_i q1) (gf_T n L) ab2 en2 lf2 bl2 tr2 (nI n) (nI x) mt2 (bs_i q2) bo (bs_i q4) ou) s.heap.size = A at hD ⊢
  have hA : ∀ q : Nat, s.heap.size ≤ q → A q := fun q h => by rw [← hAe]; exact Or.inr h
  have hS : va_S A s.heap s.heap [] := va_S.rf
  have hP : va_P (dC, dI) vwCl (lx_ws cJ cI h0 h1 n1 a1 e1 l1 b1 t1 h2 n2 a2 e2 l2 b2 t2 h4 c4 g5 (nI n) (nI (sp_lc n L)) L ab en lf bl tr (nI n) (nI r) mt (bs_i q1) (gf_T n L) ab2 en2 lf2 bl2 tr2 (nI n) (nI x) mt2 (bs_i q2) bo (bs_i q4) ou) s.heap := hP
  have hl := lv_entry ([.ref h0, .int v0, .ref g5]) (n := 4) (Nat.le_of_ble_eq_true rfl)
  rw [lg_entry_eq]
  generalize (lg_sl ([.ref h0, .int v0, .ref g5]) ++ List.replicate (4 - (lg_sl ([.ref h0, .int v0, .ref g5])).length) Slot.unset).toArray = ls at hl ⊢
  have hl : lv_has ls 4 [(0, .ref h0), (1, .int v0), (2, .ref g5)] := hl
  refine lv_aload_n hx hb d_L_begin_0 rfl (lv_at hl 2 rfl) ?_
  refine lv_iconst (v := nI 0) hx hb d_L_begin_1 (by decide) ?_
  refine lv_aload_n hx hb d_L_begin_2 rfl (lv_at hl 0 rfl) ?_
  refine lv_iload_n hx hb d_L_begin_3 rfl (lv_at hl 1 rfl) ?_
  have hPc := hP.sub (ws' := fn_ws cJ cI h0 h1 n1 a1 e1 l1 b1 t1 h2 n2 a2 e2 l2 b2 t2 h4 c4 (nI n) (nI (sp_lc n L)) L ab en lf bl tr (nI n) (nI r) mt (bs_i q1) (gf_T n L) ab2 en2 lf2 bl2 tr2 (nI n) (nI x) mt2 (bs_i q2) bo (bs_i q4)) [0, 1, 2, 3, 4, 5, 6, 7, 8, 9, 10, 11, 12, 13, 14, 15, 16] rfl
  have hDc := hD.sub (ws' := fn_ws cJ cI h0 h1 n1 a1 e1 l1 b1 t1 h2 n2 a2 e2 l2 b2 t2 h4 c4 (nI n) (nI (sp_lc n L)) L ab en lf bl tr (nI n) (nI r) mt (bs_i q1) (gf_T n L) ab2 en2 lf2 bl2 tr2 (nI n) (nI x) mt2 (bs_i q2) bo (bs_i q4)) [0, 1, 2, 3, 4, 5, 6, 7, 8, 9, 10, 11, 12, 13, 14, 15, 16] (by decide) rfl
  have hFc := va_free (wc := fn_ws cJ cI h0 h1 n1 a1 e1 l1 b1 t1 h2 n2 a2 e2 l2 b2 t2 h4 c4 (nI n) (nI (sp_lc n L)) L ab en lf bl tr (nI n) (nI r) mt (bs_i q1) (gf_T n L) ab2 en2 lf2 bl2 tr2 (nI n) (nI x) mt2 (bs_i q2) bo (bs_i q4)) hD hS hA [0, 1, 2, 3, 4, 5, 6, 7, 8, 9, 10, 11, 12, 13, 14, 15, 16] rfl
  refine vx_calli (vx_runV (C := "FlowNest") (b := h0) (As := [.int v0]) (rest := [.int (nI 0), .ref g5]) ⟨hx, hb, hml, hown, hts⟩ (c_F_begin l hl9 dC dI cJ cI h0 h1 n1 a1 e1 l1 b1 t1 h2 n2 a2 e2 l2 b2 t2 h4 c4 s.heap.size sa sb ab en lf bl tr mt ab2 en2 lf2 bl2 tr2 mt2 bo n r x L q1 q2 q4 v0) (cwV 1 hts (nm_gV nm_195 nm_196 nm_197 nm_1 nm_c_F_begin) rfl rfl rfl (by decide +kernel) ⟨Nat.le_of_ble_eq_true rfl, Nat.le_of_ble_eq_true rfl⟩) ⟨cw_blindT, va_recv hK hP (ci := 2) rfl (q0 := 0) rfl, cw_preT hPc hDc hK hNw hX⟩ rfl rfl hl.1 rfl (lv_room (Nat.le_of_ble_eq_true rfl)) d_L_begin_4 ⟨Nat.le_of_ble_eq_true rfl, Nat.le_of_ble_eq_true rfl⟩) hS (fun q _ h => hFc q h) hFc (fun q h1 h2 => absurd h2 (by omega)) (fun E ce q9 u t H1 locs ht hvm hpx hbx hz1 hk1 hS hce hcv hcl => ?_) (fun r1 u9 t H1 locs ht hvm hw hB hz1 hk1 hS => ?_)
  · have hkk : ∀ q : Nat, q < s.heap.size → H1[q]? = s.heap[q]? := fun q h => hk1 q h (by omega)
    have hP := va_Pk hP hkk
    clear hkk hk1 hz1 hPc hDc ht
    generalize H1 = H at hP hS hce ⊢
    subst hbx
    refine vx_catch (own := "FlowNestLaw") (name := "java/lang/IllegalArgumentException") hown [] ⟨0, 9, 12, 13⟩ [] htb (fun z hz => nomatch hz) (by decide) (by decide) (hts _ (List.mem_cons_of_mem _ nm_194)) (xw_cA hX.1) hce hcv hcl ?_
    refine W.eq (g2 := F0 m 12 ls [.ref q9]) rfl ?_
    refine lv_astore_n (lv' := [(3, .ref q9), (0, .ref h0), (1, .int v0), (2, .ref g5)]) hx hb d_L_begin_12 rfl hl (by decide) rfl (fun ls hl => ?_)
    refine lv_iconst (v := nI 1) hx hb d_L_begin_13 (by decide) ?_
    exact W.widen (k := 1) (n := 6) (Nat.le_of_ble_eq_true rfl) (Nat.le_of_ble_eq_true rfl) (W.iret (v := nI 1) hx hb hr (fun t ht hW => ⟨⟨(nI 1), (n, r, x, nI (sp_lc n L), L, gf_T n L, q1, q2, q4, ou), rfl, Or.inr ⟨rfl, hpx, rfl, rfl, rfl, rfl, rfl, rfl, rfl, rfl, rfl⟩, by rw [ht]; exact hP, hD⟩, hS.F ht⟩) hS.2.2 d_L_begin_14)
  · obtain ⟨m91, rfl⟩ : ∃ z, z = u9 := ⟨_, rfl⟩
    obtain ⟨hP1, hD1⟩ := hB
    rw [ht] at hP1
    obtain ⟨hP, hD⟩ := va_join (wr := ([17] : List Nat).filterMap (fun (i : Nat) => (lx_ws cJ cI h0 h1 n1 a1 e1 l1 b1 t1 h2 n2 a2 e2 l2 b2 t2 h4 c4 g5 (nI n) (nI (sp_lc n L)) L ab en lf bl tr (nI n) (nI r) mt (bs_i q1) (gf_T n L) ab2 en2 lf2 bl2 tr2 (nI n) (nI x) mt2 (bs_i q2) bo (bs_i q4) ou)[i]?)) (w1 := fn_ws cJ cI h0 h1 n1 a1 e1 l1 b1 t1 h2 n2 a2 e2 l2 b2 t2 h4 c4 (nI m91) (nI 0) (fun _ => 0) ab en lf bl tr (nI m91) (nI 0) mt (nI 1) (fun _ => 0) ab2 en2 lf2 bl2 tr2 (nI m91) (nI (m91 - 1)) mt2 (nI 1) bo (nI 1)) hP hD [0, 1, 2, 3, 4, 5, 6, 7, 8, 9, 10, 11, 12, 13, 14, 15, 16] [17] rfl rfl (by decide) (by decide) hk1 hFc hP1 hD1
    generalize H1 = H at hP hS ⊢
    have hP : va_P (dC, dI) vwCl (lx_ws cJ cI h0 h1 n1 a1 e1 l1 b1 t1 h2 n2 a2 e2 l2 b2 t2 h4 c4 g5 (nI m91) (nI 0) (fun _ => 0) ab en lf bl tr (nI m91) (nI 0) mt (nI 1) (fun _ => 0) ab2 en2 lf2 bl2 tr2 (nI m91) (nI (m91 - 1)) mt2 (nI 1) bo (nI 1) ou) H := hP.sub (ws' := lx_ws cJ cI h0 h1 n1 a1 e1 l1 b1 t1 h2 n2 a2 e2 l2 b2 t2 h4 c4 g5 (nI m91) (nI 0) (fun _ => 0) ab en lf bl tr (nI m91) (nI 0) mt (nI 1) (fun _ => 0) ab2 en2 lf2 bl2 tr2 (nI m91) (nI (m91 - 1)) mt2 (nI 1) bo (nI 1) ou) [1, 2, 3, 4, 5, 6, 7, 8, 9, 10, 11, 12, 13, 14, 15, 16, 17, 0] rfl
    have hD : va_D A (lx_ws cJ cI h0 h1 n1 a1 e1 l1 b1 t1 h2 n2 a2 e2 l2 b2 t2 h4 c4 g5 (nI m91) (nI 0) (fun _ => 0) ab en lf bl tr (nI m91) (nI 0) mt (nI 1) (fun _ => 0) ab2 en2 lf2 bl2 tr2 (nI m91) (nI (m91 - 1)) mt2 (nI 1) bo (nI 1) ou) := hD.sub (ws' := lx_ws cJ cI h0 h1 n1 a1 e1 l1 b1 t1 h2 n2 a2 e2 l2 b2 t2 h4 c4 g5 (nI m91) (nI 0) (fun _ => 0) ab en lf bl tr (nI m91) (nI 0) mt (nI 1) (fun _ => 0) ab2 en2 lf2 bl2 tr2 (nI m91) (nI (m91 - 1)) mt2 (nI 1) bo (nI 1) ou) [1, 2, 3, 4, 5, 6, 7, 8, 9, 10, 11, 12, 13, 14, 15, 16, 17, 0] (by decide) rfl
    obtain ⟨g1, g2, g3, ha9⟩ := hw
    subst ha9
    refine lv_i2l (v := (nI n).toInt64) hx hb d_L_begin_7 rfl ?_
    refine wl_last (i := 0) hx hb hK hP hD hS 17 0 rfl rfl (by omega) (by decide) d_L_begin_8 (fun H locs hP hD hS => ?_)
    have hP : va_P (dC, dI) vwCl (lx_ws cJ cI h0 h1 n1 a1 e1 l1 b1 t1 h2 n2 a2 e2 l2 b2 t2 h4 c4 g5 (nI m91) (nI 0) (fun _ => 0) ab en lf bl tr (nI m91) (nI 0) mt (nI 1) (fun _ => 0) ab2 en2 lf2 bl2 tr2 (nI m91) (nI (m91 - 1)) mt2 (nI 1) bo (nI 1) (vp_updL ou 0 ((nI n).toInt64))) H := hP
    have hD : va_D A (lx_ws cJ cI h0 h1 n1 a1 e1 l1 b1 t1 h2 n2 a2 e2 l2 b2 t2 h4 c4 g5 (nI m91) (nI 0) (fun _ => 0) ab en lf bl tr (nI m91) (nI 0) mt (nI 1) (fun _ => 0) ab2 en2 lf2 bl2 tr2 (nI m91) (nI (m91 - 1)) mt2 (nI 1) bo (nI 1) (vp_updL ou 0 ((nI n).toInt64))) := hD
    refine lv_goto (tgt := 15) hx hb d_L_begin_9 (by decide) ?_
    refine lv_iconst (v := nI 0) hx hb d_L_begin_15 (by decide) ?_
    exact W.widen (k := 1) (n := 6) (Nat.le_of_ble_eq_true rfl) (Nat.le_of_ble_eq_true rfl) (W.iret (v := nI 0) hx hb hr (fun t ht hW => ⟨⟨(nI 0), (m91, 0, m91 - 1, nI 0, fun _ => 0, fun _ => 0, true, true, true, vp_updL ou 0 ((nI n).toInt64)), rfl, Or.inl ⟨rfl, g1, g2, g3, rfl, rfl, rfl, rfl, rfl, rfl, rfl, rfl, pk_uLs⟩, by rw [ht]; exact hP, hD⟩, hS.F ht⟩) hS.2.2 d_L_begin_16)
set_option maxHeartbeats 4000000 in
set_option maxRecDepth 100000 in
theorem c_L_link (l : Launch) (hl9 : l.stackTraces = false) (dC : Nat → ClassId) (dI : Nat → Nat → Nat) (cJ cI : ClassId) (h0 h1 n1 a1 e1 l1 b1 t1 h2 n2 a2 e2 l2 b2 t2 h4 c4 g5 hs sa sb : Nat) (ab : Nat → Int64) (en : Nat → Int32) (lf : Nat → Int32) (bl : Nat → Int32) (tr : Nat → Int32) (mt : Int64) (ab2 : Nat → Int64) (en2 : Nat → Int32) (lf2 : Nat → Int32) (bl2 : Nat → Int32) (tr2 : Nat → Int32) (mt2 : Int64) (bo : Nat → Int64) (ou : Nat → Int64) (n r x : Nat) (L : Nat → Int64) (q1 q2 q4 : Bool) (u0 v0 : Int32) (hn : n ≤ 48) (hL : ∀ u v, gf_E n L u v → v < n) (hI1 : fv_S n r L q1 ab en lf bl mt) (hI2 : fv_S n x (gf_T n L) q2 ab2 en2 lf2 bl2 mt2) (hI4 : fv_N n r L q4 bo) : Met l y_L_link w_L_link ({ frames := 8, cells := 2, slots := 12, locals := 126 }) (va_Pc [.ref h0, .int u0, .int v0, .ref g5] (cw_T (dC, dI) cJ cI (lx_ws cJ cI h0 h1 n1 a1 e1 l1 b1 t1 h2 n2 a2 e2 l2 b2 t2 h4 c4 g5 (nI n) (nI (sp_lc n L)) L ab en lf bl tr (nI n) (nI r) mt (bs_i q1) (gf_T n L) ab2 en2 lf2 bl2 tr2 (nI n) (nI x) mt2 (bs_i q2) bo (bs_i q4) ou) hs sa sb)) (va_Qi (fun (r9 : Int32) (u9 : (Nat → Int64) × (Nat → Int64) × Int32 × Bool × Bool × Bool × (Nat → Int64)) => match u9 with | (L9, M9, c9, p9, s9, w9, ou9) => (r9 = nI 0 ∧ ∃ k j, k < n ∧ j < n ∧ u0 = nI k ∧ v0 = nI j ∧ L9 = vp_updL L k (L k ^^^ bs_b j) ∧ M9 = gf_T n L9 ∧ c9 = nI (sp_lc n L9) ∧ p9 = true ∧ s9 = true ∧ w9 = true ∧ ou9 0 = (bs_i (!bs_t (L k) j)).toInt64) ∨ (r9 = nI 1 ∧ (¬ ((∃ k, k < n ∧ u0 = nI k) ∧ ∃ j, j < n ∧ v0 = nI j)) ∧ L9 = L ∧ M9 = gf_T n L ∧ c9 = nI (sp_lc n L) ∧ p9 = q1 ∧ s9 = q2 ∧ w9 = q4)) (fun (u9 : (Nat → Int64) × (Nat → Int64) × Int32 × Bool × Bool × Bool × (Nat → Int64)) (t : State) => match u9 with | (L9, M9, c9, p9, s9, w9, ou9) => va_P (dC, dI) vwCl (lx_ws cJ cI h0 h1 n1 a1 e1 l1 b1 t1 h2 n2 a2 e2 l2 b2 t2 h4 c4 g5 (nI n) c9 L9 ab en lf bl tr (nI n) (nI r) mt (bs_i p9) M9 ab2 en2 lf2 bl2 tr2 (nI n) (nI x) mt2 (bs_i s9) bo (bs_i w9) ou9) t.heap ∧ va_D (va_A (lx_ws cJ cI h0 h1 n1 a1 e1 l1 b1 t1 h2 n2 a2 e2 l2 b2 t2 h4 c4 g5 (nI n) (nI (sp_lc n L)) L ab en lf bl tr (nI n) (nI r) mt (bs_i q1) (gf_T n L) ab2 en2 lf2 bl2 tr2 (nI n) (nI x) mt2 (bs_i q2) bo (bs_i q4) ou) hs) (lx_ws cJ cI h0 h1 n1 a1 e1 l1 b1 t1 h2 n2 a2 e2 l2 b2 t2 h4 c4 g5 (nI n) c9 L9 ab en lf bl tr (nI n) (nI r) mt (bs_i p9) M9 ab2 en2 lf2 bl2 tr2 (nI n) (nI x) mt2 (bs_i s9) bo (bs_i w9) ou9)) (va_A (lx_ws cJ cI h0 h1 n1 a1 e1 l1 b1 t1 h2 n2 a2 e2 l2 b2 t2 h4 c4 g5 (nI n) (nI (sp_lc n L)) L ab en lf bl tr (nI n) (nI r) mt (bs_i q1) (gf_T n L) ab2 en2 lf2 bl2 tr2 (nI n) (nI x) mt2 (bs_i q2) bo (bs_i q4) ou) hs)) 2 12 (va_A (lx_ws cJ cI h0 h1 n1 a1 e1 l1 b1 t1 h2 n2 a2 e2 l2 b2 t2 h4 c4 g5 (nI n) (nI (sp_lc n L)) L ab en lf bl tr (nI n) (nI r) mt (bs_i q1) (gf_T n L) ab2 en2 lf2 bl2 tr2 (nI n) (nI x) mt2 (bs_i q2) bo (bs_i q4) ou) hs) := by
  refine mt_ofWH (cc := b_L_link) (maxL := 5) (ret := (some .int)) (hh := [(0, 10, 13, 19)]) (by decide) rfl ?_
  intro p e s m args below meth c s₁ B hml hv9
  obtain ⟨rfl, ⟨hsz, ⟨hP, hK, hNw⟩, hD0⟩, hX⟩ := hv9
  have hx := B.exec
  have hb := B.bytes
  have hr := B.returns
  have hts := atoms_spec (ws := w_L_link) B.pre
  have hown : s.vm.findClass "FlowNestLaw" = some m.cls := findClass_of_methodNamed B.named
  have hlocks := B.notSynchronized
  have htb : c.exceptionTable.toList = tableOf [(0, 10, 13, 19)] := vx_table (x := y_L_link) B (hts _ List.mem_cons_self)
  subst hsz
  have hD := hD0.self (sz := s.heap.size)
  generalize hAe : va_A (lx_ws cJ cI h0 h1 n1 a1 e1 l1 b1 t1 h2 n2 a2 e2 l2 b2 t2 h4 c4 g5 (nI n) (nI (sp_lc n L)) L ab en lf bl tr (nI n) (nI r) mt (bs_i q1) (gf_T n L) ab2 en2 lf2 bl2 tr2 (nI n) (nI x) mt2 (bs_i q2) bo (bs_i q4) ou) s.heap.size = A at hD ⊢
  have hA : ∀ q : Nat, s.heap.size ≤ q → A q := fun q h => by rw [← hAe]; exact Or.inr h
  have hS : va_S A s.heap s.heap [] := va_S.rf
  have hP : va_P (dC, dI) vwCl (lx_ws cJ cI h0 h1 n1 a1 e1 l1 b1 t1 h2 n2 a2 e2 l2 b2 t2 h4 c4 g5 (nI n) (nI (sp_lc n L)) L ab en lf bl tr (nI n) (nI r) mt (bs_i q1) (gf_T n L) ab2 en2 lf2 bl2 tr2 (nI n) (nI x) mt2 (bs_i q2) bo (bs_i q4) ou) s.heap := hP
  have hl := lv_entry ([.ref h0, .int u0, .int v0, .ref g5]) (n := 5) (Nat.le_of_ble_eq_true rfl)
  rw [lg_entry_eq]
  generalize (lg_sl ([.ref h0, .int u0, .int v0, .ref g5]) ++ List.replicate (5 - (lg_sl ([.ref h0, .int u0, .int v0, .ref g5])).length) Slot.unset).toArray = ls at hl ⊢
  have hl : lv_has ls 5 [(0, .ref h0), (1, .int u0), (2, .int v0), (3, .ref g5)] := hl
  refine lv_aload_n hx hb d_L_link_0 rfl (lv_at hl 3 rfl) ?_
  refine lv_iconst (v := nI 0) hx hb d_L_link_1 (by decide) ?_
  refine lv_aload_n hx hb d_L_link_2 rfl (lv_at hl 0 rfl) ?_
  refine lv_iload_n hx hb d_L_link_3 rfl (lv_at hl 1 rfl) ?_
  refine lv_iload_n hx hb d_L_link_4 rfl (lv_at hl 2 rfl) ?_
  have hPc := hP.sub (ws' := fn_ws cJ cI h0 h1 n1 a1 e1 l1 b1 t1 h2 n2 a2 e2 l2 b2 t2 h4 c4 (nI n) (nI (sp_lc n L)) L ab en lf bl tr (nI n) (nI r) mt (bs_i q1) (gf_T n L) ab2 en2 lf2 bl2 tr2 (nI n) (nI x) mt2 (bs_i q2) bo (bs_i q4)) [0, 1, 2, 3, 4, 5, 6, 7, 8, 9, 10, 11, 12, 13, 14, 15, 16] rfl
  have hDc := hD.sub (ws' := fn_ws cJ cI h0 h1 n1 a1 e1 l1 b1 t1 h2 n2 a2 e2 l2 b2 t2 h4 c4 (nI n) (nI (sp_lc n L)) L ab en lf bl tr (nI n) (nI r) mt (bs_i q1) (gf_T n L) ab2 en2 lf2 bl2 tr2 (nI n) (nI x) mt2 (bs_i q2) bo (bs_i q4)) [0, 1, 2, 3, 4, 5, 6, 7, 8, 9, 10, 11, 12, 13, 14, 15, 16] (by decide) rfl
  have hFc := va_free (wc := fn_ws cJ cI h0 h1 n1 a1 e1 l1 b1 t1 h2 n2 a2 e2 l2 b2 t2 h4 c4 (nI n) (nI (sp_lc n L)) L ab en lf bl tr (nI n) (nI r) mt (bs_i q1) (gf_T n L) ab2 en2 lf2 bl2 tr2 (nI n) (nI x) mt2 (bs_i q2) bo (bs_i q4)) hD hS hA [0, 1, 2, 3, 4, 5, 6, 7, 8, 9, 10, 11, 12, 13, 14, 15, 16] rfl
  refine vx_calli (vx_runV (C := "FlowNest") (b := h0) (As := [.int u0, .int v0]) (rest := [.int (nI 0), .ref g5]) ⟨hx, hb, hml, hown, hts⟩ (c_F_link l hl9 dC dI cJ cI h0 h1 n1 a1 e1 l1 b1 t1 h2 n2 a2 e2 l2 b2 t2 h4 c4 s.heap.size sa sb ab en lf bl tr mt ab2 en2 lf2 bl2 tr2 mt2 bo n r x L q1 q2 q4 u0 v0 hn hL hI1 hI2 hI4) (cwV 2 hts (nm_gV nm_277 nm_278 nm_279 nm_1 nm_c_F_link) rfl rfl rfl (by decide +kernel) ⟨Nat.le_of_ble_eq_true rfl, Nat.le_of_ble_eq_true rfl⟩) ⟨cw_blindT, va_recv hK hP (ci := 2) rfl (q0 := 0) rfl, cw_preT hPc hDc hK hNw hX⟩ rfl rfl hl.1 rfl (lv_room (Nat.le_of_ble_eq_true rfl)) d_L_link_5 ⟨Nat.le_of_ble_eq_true rfl, Nat.le_of_ble_eq_true rfl⟩) hS (fun q _ h => hFc q h) hFc (fun q h1 h2 => absurd h2 (by omega)) (fun E ce q9 u t H1 locs ht hvm hpx hbx hz1 hk1 hS hce hcv hcl => ?_) (fun r1 u9 t H1 locs ht hvm hw hB hz1 hk1 hS => ?_)
  · have hkk : ∀ q : Nat, q < s.heap.size → H1[q]? = s.heap[q]? := fun q h => hk1 q h (by omega)
    have hP := va_Pk hP hkk
    clear hkk hk1 hz1 hPc hDc ht
    generalize H1 = H at hP hS hce ⊢
    subst hbx
    refine vx_catch (own := "FlowNestLaw") (name := "java/lang/IndexOutOfBoundsException") hown [] ⟨0, 10, 13, 19⟩ [] htb (fun z hz => nomatch hz) (by decide) (by decide) (hts _ (List.mem_cons_of_mem _ nm_276)) (xw_cI hX.1) hce hcv hcl ?_
    refine W.eq (g2 := F0 m 13 ls [.ref q9]) rfl ?_
    refine lv_astore (lv' := [(4, .ref q9), (0, .ref h0), (1, .int u0), (2, .int v0), (3, .ref g5)]) hx hb d_L_link_13 hl (by decide) rfl (fun ls hl => ?_)
    refine lv_iconst (v := nI 1) hx hb d_L_link_15 (by decide) ?_
    exact W.widen (k := 2) (n := 12) (Nat.le_of_ble_eq_true rfl) (Nat.le_of_ble_eq_true rfl) (W.iret (v := nI 1) hx hb hr (fun t ht hW => ⟨⟨(nI 1), (L, gf_T n L, nI (sp_lc n L), q1, q2, q4, ou), rfl, Or.inr ⟨rfl, hpx, rfl, rfl, rfl, rfl, rfl, rfl⟩, by rw [ht]; exact hP, hD⟩, hS.F ht⟩) hS.2.2 d_L_link_16)
  · obtain ⟨L91, M92, c93⟩ := u9
    obtain ⟨hP1, hD1⟩ := hB
    rw [ht] at hP1
    obtain ⟨hP, hD⟩ := va_join (wr := ([17] : List Nat).filterMap (fun (i : Nat) => (lx_ws cJ cI h0 h1 n1 a1 e1 l1 b1 t1 h2 n2 a2 e2 l2 b2 t2 h4 c4 g5 (nI n) (nI (sp_lc n L)) L ab en lf bl tr (nI n) (nI r) mt (bs_i q1) (gf_T n L) ab2 en2 lf2 bl2 tr2 (nI n) (nI x) mt2 (bs_i q2) bo (bs_i q4) ou)[i]?)) (w1 := fn_ws cJ cI h0 h1 n1 a1 e1 l1 b1 t1 h2 n2 a2 e2 l2 b2 t2 h4 c4 (nI n) c93 L91 ab en lf bl tr (nI n) (nI r) mt (nI 1) M92 ab2 en2 lf2 bl2 tr2 (nI n) (nI x) mt2 (nI 1) bo (nI 1)) hP hD [0, 1, 2, 3, 4, 5, 6, 7, 8, 9, 10, 11, 12, 13, 14, 15, 16] [17] rfl rfl (by decide) (by decide) hk1 hFc hP1 hD1
    generalize H1 = H at hP hS ⊢
    have hP : va_P (dC, dI) vwCl (lx_ws cJ cI h0 h1 n1 a1 e1 l1 b1 t1 h2 n2 a2 e2 l2 b2 t2 h4 c4 g5 (nI n) c93 L91 ab en lf bl tr (nI n) (nI r) mt (nI 1) M92 ab2 en2 lf2 bl2 tr2 (nI n) (nI x) mt2 (nI 1) bo (nI 1) ou) H := hP.sub (ws' := lx_ws cJ cI h0 h1 n1 a1 e1 l1 b1 t1 h2 n2 a2 e2 l2 b2 t2 h4 c4 g5 (nI n) c93 L91 ab en lf bl tr (nI n) (nI r) mt (nI 1) M92 ab2 en2 lf2 bl2 tr2 (nI n) (nI x) mt2 (nI 1) bo (nI 1) ou) [1, 2, 3, 4, 5, 6, 7, 8, 9, 10, 11, 12, 13, 14, 15, 16, 17, 0] rfl
    have hD : va_D A (lx_ws cJ cI h0 h1 n1 a1 e1 l1 b1 t1 h2 n2 a2 e2 l2 b2 t2 h4 c4 g5 (nI n) c93 L91 ab en lf bl tr (nI n) (nI r) mt (nI 1) M92 ab2 en2 lf2 bl2 tr2 (nI n) (nI x) mt2 (nI 1) bo (nI 1) ou) := hD.sub (ws' := lx_ws cJ cI h0 h1 n1 a1 e1 l1 b1 t1 h2 n2 a2 e2 l2 b2 t2 h4 c4 g5 (nI n) c93 L91 ab en lf bl tr (nI n) (nI r) mt (nI 1) M92 ab2 en2 lf2 bl2 tr2 (nI n) (nI x) mt2 (nI 1) bo (nI 1) ou) [1, 2, 3, 4, 5, 6, 7, 8, 9, 10, 11, 12, 13, 14, 15, 16, 17, 0] (by decide) rfl
    obtain ⟨k, j, hk_k, hk_j, rfl, rfl, g1, g2, g3, ha9⟩ := hw
    subst ha9
    refine lv_i2l (v := (bs_i (!bs_t (L k) j)).toInt64) hx hb d_L_link_8 rfl ?_
    refine wl_last (i := 0) hx hb hK hP hD hS 17 0 rfl rfl (by omega) (by decide) d_L_link_9 (fun H locs hP hD hS => ?_)
    have hP : va_P (dC, dI) vwCl (lx_ws cJ cI h0 h1 n1 a1 e1 l1 b1 t1 h2 n2 a2 e2 l2 b2 t2 h4 c4 g5 (nI n) c93 L91 ab en lf bl tr (nI n) (nI r) mt (nI 1) M92 ab2 en2 lf2 bl2 tr2 (nI n) (nI x) mt2 (nI 1) bo (nI 1) (vp_updL ou 0 ((bs_i (!bs_t (L k) j)).toInt64))) H := hP
    have hD : va_D A (lx_ws cJ cI h0 h1 n1 a1 e1 l1 b1 t1 h2 n2 a2 e2 l2 b2 t2 h4 c4 g5 (nI n) c93 L91 ab en lf bl tr (nI n) (nI r) mt (nI 1) M92 ab2 en2 lf2 bl2 tr2 (nI n) (nI x) mt2 (nI 1) bo (nI 1) (vp_updL ou 0 ((bs_i (!bs_t (L k) j)).toInt64))) := hD
    refine lv_goto (tgt := 17) hx hb d_L_link_10 (by decide) ?_
    refine lv_iconst (v := nI 0) hx hb d_L_link_17 (by decide) ?_
    exact W.widen (k := 2) (n := 12) (Nat.le_of_ble_eq_true rfl) (Nat.le_of_ble_eq_true rfl) (W.iret (v := nI 0) hx hb hr (fun t ht hW => ⟨⟨(nI 0), (L91, M92, c93, true, true, true, vp_updL ou 0 ((bs_i (!bs_t (L k) j)).toInt64)), rfl, Or.inl ⟨rfl, k, j, hk_k, hk_j, rfl, rfl, g1, g2, g3, rfl, rfl, rfl, pk_uLs⟩, by rw [ht]; exact hP, hD⟩, hS.F ht⟩) hS.2.2 d_L_link_18)
set_option maxHeartbeats 4000000 in
set_option maxRecDepth 100000 in
theorem c_L_place (l : Launch) (hl9 : l.stackTraces = false) (dC : Nat → ClassId) (dI : Nat → Nat → Nat) (cJ cI : ClassId) (h0 h1 n1 a1 e1 l1 b1 t1 h2 n2 a2 e2 l2 b2 t2 h4 c4 g5 hs sa sb : Nat) (ab : Nat → Int64) (en : Nat → Int32) (lf : Nat → Int32) (bl : Nat → Int32) (tr : Nat → Int32) (mt : Int64) (ab2 : Nat → Int64) (en2 : Nat → Int32) (lf2 : Nat → Int32) (bl2 : Nat → Int32) (tr2 : Nat → Int32) (mt2 : Int64) (bo : Nat → Int64) (ou : Nat → Int64) (n r x : Nat) (L : Nat → Int64) (q1 q2 q4 : Bool) (v0 : Int32) (e9 : Bool) (hn : n ≤ 48) (hL : ∀ u v, gf_E n L u v → v < n) (hI1 : fv_S n r L q1 ab en lf bl mt) (hI2 : fv_S n x (gf_T n L) q2 ab2 en2 lf2 bl2 mt2) (hI4 : fv_N n r L q4 bo) : Met l y_L_place w_L_place ({ frames := 8, cells := 1, slots := 6, locals := 125 }) (va_Pc [.ref h0, .int v0, .int (bs_i e9), .ref g5] (cw_T (dC, dI) cJ cI (lx_ws cJ cI h0 h1 n1 a1 e1 l1 b1 t1 h2 n2 a2 e2 l2 b2 t2 h4 c4 g5 (nI n) (nI (sp_lc n L)) L ab en lf bl tr (nI n) (nI r) mt (bs_i q1) (gf_T n L) ab2 en2 lf2 bl2 tr2 (nI n) (nI x) mt2 (bs_i q2) bo (bs_i q4) ou) hs sa sb)) (va_Qi (fun (r9 : Int32) (u9 : Int32 × Int32 × Bool × Bool × Bool × (Nat → Int64)) => match u9 with | (y9, x9, p9, s9, w9, ou9) => (r9 = nI 0 ∧ ∃ k, k < n ∧ v0 = nI k ∧ y9 = (if e9 = true then nI r else nI k) ∧ x9 = (if e9 = true then nI k else nI x) ∧ p9 = (if e9 = true then q1 else true) ∧ s9 = (if e9 = true then true else q2) ∧ w9 = true ∧ ou9 0 = (if e9 = true then nI x else nI r : Int32).toInt64) ∨ (r9 = nI 1 ∧ (¬ ∃ k, k < n ∧ v0 = nI k) ∧ y9 = nI r ∧ x9 = nI x ∧ p9 = q1 ∧ s9 = q2 ∧ w9 = q4)) (fun (u9 : Int32 × Int32 × Bool × Bool × Bool × (Nat → Int64)) (t : State) => match u9 with | (y9, x9, p9, s9, w9, ou9) => va_P (dC, dI) vwCl (lx_ws cJ cI h0 h1 n1 a1 e1 l1 b1 t1 h2 n2 a2 e2 l2 b2 t2 h4 c4 g5 (nI n) (nI (sp_lc n L)) L ab en lf bl tr (nI n) y9 mt (bs_i p9) (gf_T n L) ab2 en2 lf2 bl2 tr2 (nI n) x9 mt2 (bs_i s9) bo (bs_i w9) ou9) t.heap ∧ va_D (va_A (lx_ws cJ cI h0 h1 n1 a1 e1 l1 b1 t1 h2 n2 a2 e2 l2 b2 t2 h4 c4 g5 (nI n) (nI (sp_lc n L)) L ab en lf bl tr (nI n) (nI r) mt (bs_i q1) (gf_T n L) ab2 en2 lf2 bl2 tr2 (nI n) (nI x) mt2 (bs_i q2) bo (bs_i q4) ou) hs) (lx_ws cJ cI h0 h1 n1 a1 e1 l1 b1 t1 h2 n2 a2 e2 l2 b2 t2 h4 c4 g5 (nI n) (nI (sp_lc n L)) L ab en lf bl tr (nI n) y9 mt (bs_i p9) (gf_T n L) ab2 en2 lf2 bl2 tr2 (nI n) x9 mt2 (bs_i s9) bo (bs_i w9) ou9)) (va_A (lx_ws cJ cI h0 h1 n1 a1 e1 l1 b1 t1 h2 n2 a2 e2 l2 b2 t2 h4 c4 g5 (nI n) (nI (sp_lc n L)) L ab en lf bl tr (nI n) (nI r) mt (bs_i q1) (gf_T n L) ab2 en2 lf2 bl2 tr2 (nI n) (nI x) mt2 (bs_i q2) bo (bs_i q4) ou) hs)) 1 6 (va_A (lx_ws cJ cI h0 h1 n1 a1 e1 l1 b1 t1 h2 n2 a2 e2 l2 b2 t2 h4 c4 g5 (nI n) (nI (sp_lc n L)) L ab en lf bl tr (nI n) (nI r) mt (bs_i q1) (gf_T n L) ab2 en2 lf2 bl2 tr2 (nI n) (nI x) mt2 (bs_i q2) bo (bs_i q4) ou) hs) := by
  refine mt_ofWH (cc := b_L_place) (maxL := 5) (ret := (some .int)) (hh := [(0, 10, 13, 19)]) (by decide) rfl ?_
  intro p e s m args below meth c s₁ B hml hv9
  obtain ⟨rfl, ⟨hsz, ⟨hP, hK, hNw⟩, hD0⟩, hX⟩ := hv9
  have hx := B.exec
  have hb := B.bytes
  have hr := B.returns
  have hts := atoms_spec (ws := w_L_place) B.pre
  have hown : s.vm.findClass "FlowNestLaw" = some m.cls := findClass_of_methodNamed B.named
  have hlocks := B.notSynchronized
  have htb : c.exceptionTable.toList = tableOf [(0, 10, 13, 19)] := vx_table (x := y_L_place) B (hts _ List.mem_cons_self)
  subst hsz
  have hD := hD0.self (sz := s.heap.size)
  generalize hAe : va_A (lx_ws cJ cI h0 h1 n1 a1 e1 l1 b1 t1 h2 n2 a2 e2 l2 b2 t2 h4 c4 g5 (nI n) (nI (sp_lc n L)) L ab en lf bl tr (nI n) (nI r) mt (bs_i q1) (gf_T n L) ab2 en2 lf2 bl2 tr2 (nI n) (nI x) mt2 (bs_i q2) bo (bs_i q4) ou) s.heap.size = A at hD ⊢
  have hA : ∀ q : Nat, s.heap.size ≤ q → A q := fun q h => by rw [← hAe]; exact Or.inr h
  have hS : va_S A s.heap s.heap [] := va_S.rf
  have hP : va_P (dC, dI) vwCl (lx_ws cJ cI h0 h1 n1 a1 e1 l1 b1 t1 h2 n2 a2 e2 l2 b2 t2 h4 c4 g5 (nI n) (nI (sp_lc n L)) L ab en lf bl tr (nI n) (nI r) mt (bs_i q1) (gf_T n L) ab2 en2 lf2 bl2 tr2 (nI n) (nI x) mt2 (bs_i q2) bo (bs_i q4) ou) s.heap := hP
  have hl := lv_entry ([.ref h0, .int v0, .int (bs_i e9), .ref g5]) (n := 5) (Nat.le_of_ble_eq_true rfl)
  rw [lg_entry_eq]
  generalize (lg_sl ([.ref h0, .int v0, .int (bs_i e9), .ref g5]) ++ List.replicate (5 - (lg_sl ([.ref h0, .int v0, .int (bs_i e9), .ref g5])).length) Slot.unset).toArray = ls at hl ⊢
  have hl : lv_has ls 5 [(0, .ref h0), (1, .int v0), (2, .int (bs_i e9)), (3, .ref g5)] := hl
  refine lv_aload_n hx hb d_L_place_0 rfl (lv_at hl 3 rfl) ?_
  refine lv_iconst (v := nI 0) hx hb d_L_place_1 (by decide) ?_
  refine lv_aload_n hx hb d_L_place_2 rfl (lv_at hl 0 rfl) ?_
  refine lv_iload_n hx hb d_L_place_3 rfl (lv_at hl 1 rfl) ?_
  refine lv_iload_n hx hb d_L_place_4 rfl (lv_at hl 2 rfl) ?_
  have hPc := hP.sub (ws' := fn_ws cJ cI h0 h1 n1 a1 e1 l1 b1 t1 h2 n2 a2 e2 l2 b2 t2 h4 c4 (nI n) (nI (sp_lc n L)) L ab en lf bl tr (nI n) (nI r) mt (bs_i q1) (gf_T n L) ab2 en2 lf2 bl2 tr2 (nI n) (nI x) mt2 (bs_i q2) bo (bs_i q4)) [0, 1, 2, 3, 4, 5, 6, 7, 8, 9, 10, 11, 12, 13, 14, 15, 16] rfl
  have hDc := hD.sub (ws' := fn_ws cJ cI h0 h1 n1 a1 e1 l1 b1 t1 h2 n2 a2 e2 l2 b2 t2 h4 c4 (nI n) (nI (sp_lc n L)) L ab en lf bl tr (nI n) (nI r) mt (bs_i q1) (gf_T n L) ab2 en2 lf2 bl2 tr2 (nI n) (nI x) mt2 (bs_i q2) bo (bs_i q4)) [0, 1, 2, 3, 4, 5, 6, 7, 8, 9, 10, 11, 12, 13, 14, 15, 16] (by decide) rfl
  have hFc := va_free (wc := fn_ws cJ cI h0 h1 n1 a1 e1 l1 b1 t1 h2 n2 a2 e2 l2 b2 t2 h4 c4 (nI n) (nI (sp_lc n L)) L ab en lf bl tr (nI n) (nI r) mt (bs_i q1) (gf_T n L) ab2 en2 lf2 bl2 tr2 (nI n) (nI x) mt2 (bs_i q2) bo (bs_i q4)) hD hS hA [0, 1, 2, 3, 4, 5, 6, 7, 8, 9, 10, 11, 12, 13, 14, 15, 16] rfl
  refine vx_calli (vx_runV (C := "FlowNest") (b := h0) (As := [.int v0, .int (bs_i e9)]) (rest := [.int (nI 0), .ref g5]) ⟨hx, hb, hml, hown, hts⟩ (c_F_place l hl9 dC dI cJ cI h0 h1 n1 a1 e1 l1 b1 t1 h2 n2 a2 e2 l2 b2 t2 h4 c4 s.heap.size sa sb ab en lf bl tr mt ab2 en2 lf2 bl2 tr2 mt2 bo n r x L q1 q2 q4 v0 e9 hn hL hI1 hI2 hI4) (cwV 2 hts (nm_gV nm_309 nm_310 nm_311 nm_1 nm_c_F_place) rfl rfl rfl (by decide +kernel) ⟨Nat.le_of_ble_eq_true rfl, Nat.le_of_ble_eq_true rfl⟩) ⟨cw_blindT, va_recv hK hP (ci := 2) rfl (q0 := 0) rfl, cw_preT hPc hDc hK hNw hX⟩ rfl rfl hl.1 rfl (lv_room (Nat.le_of_ble_eq_true rfl)) d_L_place_5 ⟨Nat.le_of_ble_eq_true rfl, Nat.le_of_ble_eq_true rfl⟩) hS (fun q _ h => hFc q h) hFc (fun q h1 h2 => absurd h2 (by omega)) (fun E ce q9 u t H1 locs ht hvm hpx hbx hz1 hk1 hS hce hcv hcl => ?_) (fun r1 u9 t H1 locs ht hvm hw hB hz1 hk1 hS => ?_)
  · have hkk : ∀ q : Nat, q < s.heap.size → H1[q]? = s.heap[q]? := fun q h => hk1 q h (by omega)
    have hP := va_Pk hP hkk
    clear hkk hk1 hz1 hPc hDc ht
    generalize H1 = H at hP hS hce ⊢
    subst hbx
    refine vx_catch (own := "FlowNestLaw") (name := "java/lang/IndexOutOfBoundsException") hown [] ⟨0, 10, 13, 19⟩ [] htb (fun z hz => nomatch hz) (by decide) (by decide) (hts _ (List.mem_cons_of_mem _ nm_276)) (xw_cI hX.1) hce hcv hcl ?_
    refine W.eq (g2 := F0 m 13 ls [.ref q9]) rfl ?_
    refine lv_astore (lv' := [(4, .ref q9), (0, .ref h0), (1, .int v0), (2, .int (bs_i e9)), (3, .ref g5)]) hx hb d_L_place_13 hl (by decide) rfl (fun ls hl => ?_)
    refine lv_iconst (v := nI 1) hx hb d_L_place_15 (by decide) ?_
    exact W.widen (k := 1) (n := 6) (Nat.le_of_ble_eq_true rfl) (Nat.le_of_ble_eq_true rfl) (W.iret (v := nI 1) hx hb hr (fun t ht hW => ⟨⟨(nI 1), (nI r, nI x, q1, q2, q4, ou), rfl, Or.inr ⟨rfl, hpx, rfl, rfl, rfl, rfl, rfl⟩, by rw [ht]; exact hP, hD⟩, hS.F ht⟩) hS.2.2 d_L_place_16)
  · obtain ⟨y91, x92, p93, s94⟩ := u9
    obtain ⟨hP1, hD1⟩ := hB
    rw [ht] at hP1
    obtain ⟨hP, hD⟩ := va_join (wr := ([17] : List Nat).filterMap (fun (i : Nat) => (lx_ws cJ cI h0 h1 n1 a1 e1 l1 b1 t1 h2 n2 a2 e2 l2 b2 t2 h4 c4 g5 (nI n) (nI (sp_lc n L)) L ab en lf bl tr (nI n) (nI r) mt (bs_i q1) (gf_T n L) ab2 en2 lf2 bl2 tr2 (nI n) (nI x) mt2 (bs_i q2) bo (bs_i q4) ou)[i]?)) (w1 := fn_ws cJ cI h0 h1 n1 a1 e1 l1 b1 t1 h2 n2 a2 e2 l2 b2 t2 h4 c4 (nI n) (nI (sp_lc n L)) L ab en lf bl tr (nI n) y91 mt (bs_i p93) (gf_T n L) ab2 en2 lf2 bl2 tr2 (nI n) x92 mt2 (bs_i s94) bo (nI 1)) hP hD [0, 1, 2, 3, 4, 5, 6, 7, 8, 9, 10, 11, 12, 13, 14, 15, 16] [17] rfl rfl (by decide) (by decide) hk1 hFc hP1 hD1
    generalize H1 = H at hP hS ⊢
    have hP : va_P (dC, dI) vwCl (lx_ws cJ cI h0 h1 n1 a1 e1 l1 b1 t1 h2 n2 a2 e2 l2 b2 t2 h4 c4 g5 (nI n) (nI (sp_lc n L)) L ab en lf bl tr (nI n) y91 mt (bs_i p93) (gf_T n L) ab2 en2 lf2 bl2 tr2 (nI n) x92 mt2 (bs_i s94) bo (nI 1) ou) H := hP.sub (ws' := lx_ws cJ cI h0 h1 n1 a1 e1 l1 b1 t1 h2 n2 a2 e2 l2 b2 t2 h4 c4 g5 (nI n) (nI (sp_lc n L)) L ab en lf bl tr (nI n) y91 mt (bs_i p93) (gf_T n L) ab2 en2 lf2 bl2 tr2 (nI n) x92 mt2 (bs_i s94) bo (nI 1) ou) [1, 2, 3, 4, 5, 6, 7, 8, 9, 10, 11, 12, 13, 14, 15, 16, 17, 0] rfl
    have hD : va_D A (lx_ws cJ cI h0 h1 n1 a1 e1 l1 b1 t1 h2 n2 a2 e2 l2 b2 t2 h4 c4 g5 (nI n) (nI (sp_lc n L)) L ab en lf bl tr (nI n) y91 mt (bs_i p93) (gf_T n L) ab2 en2 lf2 bl2 tr2 (nI n) x92 mt2 (bs_i s94) bo (nI 1) ou) := hD.sub (ws' := lx_ws cJ cI h0 h1 n1 a1 e1 l1 b1 t1 h2 n2 a2 e2 l2 b2 t2 h4 c4 g5 (nI n) (nI (sp_lc n L)) L ab en lf bl tr (nI n) y91 mt (bs_i p93) (gf_T n L) ab2 en2 lf2 bl2 tr2 (nI n) x92 mt2 (bs_i s94) bo (nI 1) ou) [1, 2, 3, 4, 5, 6, 7, 8, 9, 10, 11, 12, 13, 14, 15, 16, 17, 0] (by decide) rfl
    obtain ⟨k, hk_k, rfl, g1, g2, g3, g4, ha9⟩ := hw
    subst ha9
    refine lv_i2l (v := (if e9 = true then nI x else nI r).toInt64) hx hb d_L_place_8 rfl ?_
    refine wl_last (i := 0) hx hb hK hP hD hS 17 0 rfl rfl (by omega) (by decide) d_L_place_9 (fun H locs hP hD hS => ?_)
    have hP : va_P (dC, dI) vwCl (lx_ws cJ cI h0 h1 n1 a1 e1 l1 b1 t1 h2 n2 a2 e2 l2 b2 t2 h4 c4 g5 (nI n) (nI (sp_lc n L)) L ab en lf bl tr (nI n) y91 mt (bs_i p93) (gf_T n L) ab2 en2 lf2 bl2 tr2 (nI n) x92 mt2 (bs_i s94) bo (nI 1) (vp_updL ou 0 ((if e9 = true then nI x else nI r).toInt64))) H := hP
    have hD : va_D A (lx_ws cJ cI h0 h1 n1 a1 e1 l1 b1 t1 h2 n2 a2 e2 l2 b2 t2 h4 c4 g5 (nI n) (nI (sp_lc n L)) L ab en lf bl tr (nI n) y91 mt (bs_i p93) (gf_T n L) ab2 en2 lf2 bl2 tr2 (nI n) x92 mt2 (bs_i s94) bo (nI 1) (vp_updL ou 0 ((if e9 = true then nI x else nI r).toInt64))) := hD
    refine lv_goto (tgt := 17) hx hb d_L_place_10 (by decide) ?_
    refine lv_iconst (v := nI 0) hx hb d_L_place_17 (by decide) ?_
    exact W.widen (k := 1) (n := 6) (Nat.le_of_ble_eq_true rfl) (Nat.le_of_ble_eq_true rfl) (W.iret (v := nI 0) hx hb hr (fun t ht hW => ⟨⟨(nI 0), (y91, x92, p93, s94, true, vp_updL ou 0 ((if e9 = true then nI x else nI r).toInt64)), rfl, Or.inl ⟨rfl, k, hk_k, rfl, g1, g2, g3, g4, rfl, pk_uLs⟩, by rw [ht]; exact hP, hD⟩, hS.F ht⟩) hS.2.2 d_L_place_18)
