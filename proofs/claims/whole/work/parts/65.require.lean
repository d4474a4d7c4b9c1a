/-! contracts of FlowNest: requireVertex (laid by wip/gen/thr.py) -/
set_option maxHeartbeats 4000000 in
set_option maxRecDepth 100000 in
theorem c_F_requireVertex (l : Launch) (hl9 : l.stackTraces = false) (dC : Nat → ClassId) (dI : Nat → Nat → Nat) (cJ cI : ClassId) (h0 h1 h2 h4 hs sa sb : Nat) (fc : Int32) (n : Nat) (v0 : Int32) (hn : n ≤ 48) : vx_Met l y_F_requireVertex w_F_requireVertex ({ frames := 6, cells := 1, slots := 6, locals := 82 }) (va_Pc [.ref h0, .int v0] (cw_T (dC, dI) cJ cI (fo_ws cJ cI h0 h1 h2 h4 (nI n) fc) hs sa sb)) (va_Qv (fun (u9 : Unit) => ∃ k, k < n ∧ v0 = nI k) (fun (u9 : Unit) (t : State) => True) (fun q => hs ≤ q)) (vx_X (fun (_ : Unit) => ¬ ∃ k, k < n ∧ v0 = nI k) (fun E _ _ => E = "java/lang/IndexOutOfBoundsException") (fun q => hs ≤ q)) 1 6 (fun _ => False) := by
  refine vx_ofW (cc := b_F_requireVertex) (maxL := 2) (ret := none) (by decide) rfl ?_
  intro p e s m args below meth c s₁ B hml hxt hv9
  obtain ⟨rfl, ⟨hsz, ⟨hP, hK, hNw⟩, hD0⟩, hX⟩ := hv9
  have hx := B.exec
  have hb := B.bytes
  have hr := B.returns
  have hts := atoms_spec (ws := w_F_requireVertex) B.pre
  have hown : s.vm.findClass "FlowNest" = some m.cls := findClass_of_methodNamed B.named
  have hlocks := B.notSynchronized
  subst hsz
  have hS : va_S (fun q => s.heap.size ≤ q) s.heap s.heap [] := va_S.rf
  have hP : va_P (dC, dI) vwCl (fo_ws cJ cI h0 h1 h2 h4 (nI n) fc) s.heap := hP
  have hl := lv_entry ([.ref h0, .int v0]) (n := 2) (Nat.le_of_ble_eq_true rfl)
  rw [lg_entry_eq]
  generalize (lg_sl ([.ref h0, .int v0]) ++ List.replicate (2 - (lg_sl ([.ref h0, .int v0])).length) Slot.unset).toArray = ls at hl ⊢
  have hl : lv_has ls 2 [(0, .ref h0), (1, .int v0)] := hl
  refine lv_iload_n hx hb d_F_requireVertex_0 rfl (lv_at hl 1 rfl) ?_
  refine lv_if_lt (tgt := 12) hx hb d_F_requireVertex_1 (by decide) (fun hc1 => ?_) (fun hc1 => ?_)
  · exact vx_throwS (own := "FlowNest") (cls := "java/lang/IndexOutOfBoundsException") (names := ["java/lang/RuntimeException", "java/lang/Exception"]) (ik := 132) (is := 134) (ic := 136) (A := fun q => s.heap.size ≤ q) hx hb hl9 hown (by decide) (by decide) (hts _ (List.mem_cons_of_mem _ nm_285)) (hts _ (List.mem_cons_of_mem _ nm_10)) hX.2.2.1 (xw_hI hts hX.1) xw_aI3 hX.2.2.2.1 hX.2.2.2.2 hS (hl.1.trans hml.symm) d_F_requireVertex_12 d_F_requireVertex_15 d_F_requireVertex_16 d_F_requireVertex_18 d_F_requireVertex_21 (fun x hx => (hxt x hx).elim) (show _ + 1 ≤ _ from Nat.le_of_ble_eq_true rfl) (Nat.le_of_ble_eq_true rfl) (Nat.le_of_ble_eq_true rfl) (Nat.le_of_ble_eq_true rfl) hlocks (fun t hv hz hk => ⟨(), vn_lo hc1 n hn, rfl, hz, fun q hq _ => hk q hq⟩) (fun _ h => nomatch h) (Nat.le_of_ble_eq_true rfl) (Nat.le_of_ble_eq_true rfl)
  · refine lv_iload_n hx hb d_F_requireVertex_4 rfl (lv_at hl 1 rfl) ?_
    refine lv_aload_n hx hb d_F_requireVertex_5 rfl (lv_at hl 0 rfl) ?_
    refine va_get (D := (dC, dI)) (ci := 2) (v := .int (nI n)) (C := "FlowNest") (T := T_F) (N := 5) hx hb hts nm_iF hown hK hP 0 rfl rfl 3 (by decide) (hts _ (List.mem_cons_of_mem _ nm_86)) (fun _ h9 => h9) rfl d_F_requireVertex_6 ?_
    refine lv_icmp_lt (tgt := 22) hx hb d_F_requireVertex_9 (by decide) (fun hc9 => ?_) (fun hc9 => ?_)
    · exact vx_ret (W.widen (k := 1) (n := 6) (Nat.le_of_ble_eq_true rfl) (Nat.le_of_ble_eq_true rfl) (W.vret hx hb hr (fun t ht hW => ⟨⟨(), rfl, vn_in hc1 (Int32.not_le.mpr hc9) hn, trivial⟩, hS.F ht⟩) (fun _ h => nomatch h) d_F_requireVertex_22))
    · exact vx_throwS (own := "FlowNest") (cls := "java/lang/IndexOutOfBoundsException") (names := ["java/lang/RuntimeException", "java/lang/Exception"]) (ik := 132) (is := 134) (ic := 136) (A := fun q => s.heap.size ≤ q) hx hb hl9 hown (by decide) (by decide) (hts _ (List.mem_cons_of_mem _ nm_285)) (hts _ (List.mem_cons_of_mem _ nm_10)) hX.2.2.1 (xw_hI hts hX.1) xw_aI3 hX.2.2.2.1 hX.2.2.2.2 hS (hl.1.trans hml.symm) d_F_requireVertex_12 d_F_requireVertex_15 d_F_requireVertex_16 d_F_requireVertex_18 d_F_requireVertex_21 (fun x hx => (hxt x hx).elim) (show _ + 1 ≤ _ from Nat.le_of_ble_eq_true rfl) (Nat.le_of_ble_eq_true rfl) (Nat.le_of_ble_eq_true rfl) (Nat.le_of_ble_eq_true rfl) hlocks (fun t hv hz hk => ⟨(), vn_hi (Int32.not_lt.mp hc9) hn, rfl, hz, fun q hq _ => hk q hq⟩) (fun _ h => nomatch h) (Nat.le_of_ble_eq_true rfl) (Nat.le_of_ble_eq_true rfl)
