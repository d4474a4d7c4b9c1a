/-! contract of the reference's learn (laid by wip/gen/learn.py) -/
set_option maxHeartbeats 4000000 in
set_option maxRecDepth 100000 in
theorem c_M_learn_0 (l : Launch) (dC : Nat → ClassId) (dI : Nat → Nat → Nat) (cJ cI : ClassId) (h3 k3 o3 w3 v3 p3 e3 f3 q3 hs : Nat) (cd : Int32) (rc : Int64) (eg : Int64) (li : Nat → Int64) (so : Nat → Int64) (wi : Nat → Int64) (ew : Nat → Int64) (lo : Nat → Int64) (en : Nat → Int32) (le : Nat → Int32) (pi : Nat → Int32) (n r x : Nat) (hn : n ≤ 48) (hr9 : r < n) (hx9 : x < n) (hL : ∀ u v, gf_E n li u v → v < n) (hq : false = true → md_G n r x li rc eg so wi ew lo en le) : Met l y_M_learn w_M_learn ({ frames := 4, cells := 0, slots := 0, locals := 93 }) (va_Pc [.ref h3] (cw_M (dC, dI) cJ cI (md_ws cJ cI h3 k3 o3 w3 v3 p3 e3 f3 q3 cd (nI n) (nI r) (nI x) (nI 0) rc eg li so wi ew lo en le pi) hs)) (va_Qv (fun (u9 : Int64 × Int64 × (Nat → Int64) × (Nat → Int64) × (Nat → Int64) × (Nat → Int64) × (Nat → Int32) × (Nat → Int32) × (Nat → Int32)) => match u9 with | (rc9, eg9, so9, wi9, ew9, lo9, en9, le9, pi9) => md_G n r x li rc9 eg9 so9 wi9 ew9 lo9 en9 le9) (fun (u9 : Int64 × Int64 × (Nat → Int64) × (Nat → Int64) × (Nat → Int64) × (Nat → Int64) × (Nat → Int32) × (Nat → Int32) × (Nat → Int32)) (t : State) => match u9 with | (rc9, eg9, so9, wi9, ew9, lo9, en9, le9, pi9) => va_P (dC, dI) vwCl (md_ws cJ cI h3 k3 o3 w3 v3 p3 e3 f3 q3 cd (nI n) (nI r) (nI x) (nI 1) rc9 eg9 li so9 wi9 ew9 lo9 en9 le9 pi9) t.heap ∧ va_D (va_A (md_ws cJ cI h3 k3 o3 w3 v3 p3 e3 f3 q3 cd (nI n) (nI r) (nI x) (nI 0) rc eg li so wi ew lo en le pi) hs) (md_ws cJ cI h3 k3 o3 w3 v3 p3 e3 f3 q3 cd (nI n) (nI r) (nI x) (nI 1) rc9 eg9 li so9 wi9 ew9 lo9 en9 le9 pi9)) (va_A (md_ws cJ cI h3 k3 o3 w3 v3 p3 e3 f3 q3 cd (nI n) (nI r) (nI x) (nI 0) rc eg li so wi ew lo en le pi) hs)) 0 0 (va_A (md_ws cJ cI h3 k3 o3 w3 v3 p3 e3 f3 q3 cd (nI n) (nI r) (nI x) (nI 0) rc eg li so wi ew lo en le pi) hs) := by
  refine Met.ofW (cc := b_M_learn) (maxL := 3) (ret := none) (by decide) rfl ?_
  intro p e s m args below meth c s₁ B hml hv9
  obtain ⟨rfl, hsz, ⟨hP, hK, hNw⟩, hD0⟩ := hv9
  have hx := B.exec
  have hb := B.bytes
  have hr := B.returns
  have hts := atoms_spec (ws := w_M_learn) B.pre
  have hown : s.vm.findClass "FlowNestModel" = some m.cls := findClass_of_methodNamed B.named
  have hlocks := B.notSynchronized
  subst hsz
  have hD := hD0.self (sz := s.heap.size)
  generalize hAe : va_A (md_ws cJ cI h3 k3 o3 w3 v3 p3 e3 f3 q3 cd (nI n) (nI r) (nI x) (nI 0) rc eg li so wi ew lo en le pi) s.heap.size = A at hD ⊢
  have hA : ∀ q : Nat, s.heap.size ≤ q → A q := fun q h => by rw [← hAe]; exact Or.inr h
  have hS : va_S A s.heap s.heap [] := va_S.rf
  have hP : va_P (dC, dI) vwCl (md_ws cJ cI h3 k3 o3 w3 v3 p3 e3 f3 q3 cd (nI n) (nI r) (nI x) (nI 0) rc eg li so wi ew lo en le pi) s.heap := hP
  have hl := lv_entry ([.ref h3]) (n := 3) (Nat.le_of_ble_eq_true rfl)
  rw [lg_entry_eq]
  generalize (lg_sl ([.ref h3]) ++ List.replicate (3 - (lg_sl ([.ref h3])).length) Slot.unset).toArray = ls at hl ⊢
  have hl : lv_has ls 3 [(0, .ref h3)] := hl
  refine lv_aload_n hx hb d_M_learn_0 rfl (lv_at hl 0 rfl) ?_
  refine va_get (D := (dC, dI)) (ci := 3) (v := .int (nI 0)) (C := "FlowNestModel") (T := T_M) (N := 15) hx hb hts nm_iM hown hK hP 0 rfl rfl 6 (by decide) (hts _ (List.mem_cons_of_mem _ nm_420)) (fun _ h9 => h9) rfl d_M_learn_1 ?_
  refine wl_ifeqn (tgt := 8) hx hb (by omega) d_M_learn_4 (by decide) (fun hc4 => ?_) (fun hc4 => ?_)
  · refine lv_aload_n hx hb d_M_learn_8 rfl (lv_at hl 0 rfl) ?_
    refine lv_iconst (v := nI 1) hx hb d_M_learn_9 (by decide) ?_
    refine va_put (D := (dC, dI)) (ci := 3) (v := .int (nI 1)) (ty := .boolean) (C := "FlowNestModel") (T := T_M) (N := 15) hx hb hts nm_iM t_M t_M_ok nm_M hown hK hP hD hS 0 rfl rfl 6 (by decide) (hts _ (List.mem_cons_of_mem _ nm_420)) (fun _ h9 => h9) rfl (by decide +kernel) (by rfl) (by rfl) (Nat.le_of_ble_eq_true rfl) d_M_learn_10 (fun H locs hP hD hS => ?_)
    have hP : va_P (dC, dI) vwCl (md_ws cJ cI h3 k3 o3 w3 v3 p3 e3 f3 q3 cd (nI n) (nI r) (nI x) (nI 1) rc eg li so wi ew lo en le pi) H := hP
    have hD : va_D A (md_ws cJ cI h3 k3 o3 w3 v3 p3 e3 f3 q3 cd (nI n) (nI r) (nI x) (nI 1) rc eg li so wi ew lo en le pi) := hD
    refine lv_iconst (v := nI 0) hx hb d_M_learn_13 (by decide) ?_
    refine lv_istore_n (lv' := [(1, .int (nI 0)), (0, .ref h3)]) hx hb d_M_learn_14 rfl hl (by decide) rfl (fun ls hl => ?_)
    refine wl_loop (σ := (Nat → Int64) × Nat) (dC, dI) vwCl A 15 3 (fun (x0z : (Nat → Int64) × Nat) => match x0z with | (SO, v) => [(0, .ref h3), (1, .int (nI v))]) (fun (x0z : (Nat → Int64) × Nat) => match x0z with | (SO, v) => md_ws cJ cI h3 k3 o3 w3 v3 p3 e3 f3 q3 cd (nI n) (nI r) (nI x) (nI 1) rc eg li SO wi ew lo en le pi) (fun (x0z : (Nat → Int64) × Nat) => match x0z with | (SO, v) => v ≤ n ∧ ∀ y, y < v → SO y = gf_T n li y) (fun (x0z : (Nat → Int64) × Nat) => match x0z with | (SO, v) => n - v) ?_ (so, 0) (⟨Nat.zero_le n, fun y hy => by omega⟩) hP hD hS (lv_sub hl [1, 0] rfl)
    intro x0z hI ih H locs ls hP hD hS hl
    obtain ⟨SO, v⟩ := x0z
    have hI : v ≤ n ∧ ∀ y, y < v → SO y = gf_T n li y := hI
    have hP : va_P (dC, dI) vwCl (md_ws cJ cI h3 k3 o3 w3 v3 p3 e3 f3 q3 cd (nI n) (nI r) (nI x) (nI 1) rc eg li SO wi ew lo en le pi) H := hP
    have hD : va_D A (md_ws cJ cI h3 k3 o3 w3 v3 p3 e3 f3 q3 cd (nI n) (nI r) (nI x) (nI 1) rc eg li SO wi ew lo en le pi) := hD
    have hl : lv_has ls 3 [(0, .ref h3), (1, .int (nI v))] := hl
    have hIA := hI
    have ihA := ih
    refine lv_iload_n hx hb d_M_learn_15 rfl (lv_at hl 1 rfl) ?_
    refine lv_aload_n hx hb d_M_learn_16 rfl (lv_at hl 0 rfl) ?_
    refine va_get (D := (dC, dI)) (ci := 3) (v := .int (nI n)) (C := "FlowNestModel") (T := T_M) (N := 15) hx hb hts nm_iM hown hK hP 0 rfl rfl 1 (by decide) (hts _ (List.mem_cons_of_mem _ nm_415)) (fun _ h9 => h9) rfl d_M_learn_17 ?_
    refine wl_ige (tgt := 81) hx hb (by omega) (by omega) d_M_learn_20 (by decide) (fun hc20 => ?_) (fun hc20 => ?_)
    · have hso : ∀ y, y < n → SO y = gf_T n li y := fun y hy => hI.2 y (by omega)
      have hrc9 := md_rc (n := n) (r := r) (G := li) (by omega)
      clear hI ih
      refine lv_aload_n hx hb d_M_learn_81 rfl (lv_at hl 0 rfl) ?_
      refine lv_aload_n hx hb d_M_learn_82 rfl (lv_at hl 0 rfl) ?_
      refine lv_aload_n hx hb d_M_learn_83 rfl (lv_at hl 0 rfl) ?_
      refine va_get (D := (dC, dI)) (ci := 3) (v := .int (nI r)) (C := "FlowNestModel") (T := T_M) (N := 15) hx hb hts nm_iM hown hK hP 0 rfl rfl 2 (by decide) (hts _ (List.mem_cons_of_mem _ nm_416)) (fun _ h9 => h9) rfl d_M_learn_84 ?_
      refine lv_iconst (v := -1) hx hb d_M_learn_87 (by decide) ?_
      refine lv_iconst (v := nI 0) hx hb d_M_learn_88 (by decide) ?_
      refine vp_callSl (va_Run.run (va_runV (C := "FlowNestModel") (b := h3) (As := [.int (nI r), .int (-1), .int (nI 0)]) (rest := [.ref h3]) ⟨hx, hb, hml, hown, hts⟩ (c_M_comeTo_n0 l dC dI cJ cI h3 k3 o3 w3 v3 p3 e3 f3 q3 cd (nI r) (nI x) (nI 1) rc eg li SO wi ew lo en le pi n r  hn (by omega) ) (cwV 3 hts (nm_gV nm_496 nm_498 nm_s_M_comeTo nm_4 nm_c_M_comeTo) rfl rfl rfl (by decide +kernel) ⟨Nat.le_of_ble_eq_true rfl, Nat.le_of_ble_eq_true rfl⟩) ⟨cw_blind, va_recv hK hP (ci := 3) rfl (q0 := 0) rfl, cw_pre hP hK hNw⟩ rfl rfl hl.1 rfl (lv_room (Nat.le_of_ble_eq_true rfl)) d_M_learn_89 ⟨Nat.zero_le _, Nat.zero_le _⟩)) (fun r1 hr2 => ?_)
      subst hr2
      refine va_put (D := (dC, dI)) (ci := 3) (v := .long (sp_cm n li r 64)) (ty := .long) (C := "FlowNestModel") (T := T_M) (N := 15) hx hb hts nm_iM t_M t_M_ok nm_M hown hK hP hD hS 0 rfl rfl 7 (by decide) (hts _ (List.mem_cons_of_mem _ nm_421)) (fun _ h9 => h9) rfl (by decide +kernel) (by rfl) (by rfl) (Nat.le_of_ble_eq_true rfl) d_M_learn_92 (fun H locs hP hD hS => ?_)
      have hP : va_P (dC, dI) vwCl (md_ws cJ cI h3 k3 o3 w3 v3 p3 e3 f3 q3 cd (nI n) (nI r) (nI x) (nI 1) (sp_cm n li r 64) eg li SO wi ew lo en le pi) H := hP
      have hD : va_D A (md_ws cJ cI h3 k3 o3 w3 v3 p3 e3 f3 q3 cd (nI n) (nI r) (nI x) (nI 1) (sp_cm n li r 64) eg li SO wi ew lo en le pi) := hD
      refine lv_aload_n hx hb d_M_learn_95 rfl (lv_at hl 0 rfl) ?_
      refine lv_aload_n hx hb d_M_learn_96 rfl (lv_at hl 0 rfl) ?_
      refine lv_aload_n hx hb d_M_learn_97 rfl (lv_at hl 0 rfl) ?_
      refine va_get (D := (dC, dI)) (ci := 3) (v := .int (nI x)) (C := "FlowNestModel") (T := T_M) (N := 15) hx hb hts nm_iM hown hK hP 0 rfl rfl 3 (by decide) (hts _ (List.mem_cons_of_mem _ nm_417)) (fun _ h9 => h9) rfl d_M_learn_98 ?_
      refine lv_iconst (v := -1) hx hb d_M_learn_101 (by decide) ?_
      refine lv_iconst (v := nI 1) hx hb d_M_learn_102 (by decide) ?_
      refine vp_callSl (va_Run.run (va_runV (C := "FlowNestModel") (b := h3) (As := [.int (nI x), .int (-1), .int (nI 1)]) (rest := [.ref h3]) ⟨hx, hb, hml, hown, hts⟩ (c_M_comeTo_n1 l dC dI cJ cI h3 k3 o3 w3 v3 p3 e3 f3 q3 cd (nI r) (nI x) (nI 1) (sp_cm n li r 64) eg li SO wi ew lo en le pi n x  hn (by omega) ) (cwV 3 hts (nm_gV nm_496 nm_498 nm_s_M_comeTo nm_4 nm_c_M_comeTo) rfl rfl rfl (by decide +kernel) ⟨Nat.le_of_ble_eq_true rfl, Nat.le_of_ble_eq_true rfl⟩) ⟨cw_blind, va_recv hK hP (ci := 3) rfl (q0 := 0) rfl, cw_pre hP hK hNw⟩ rfl rfl hl.1 rfl (lv_room (Nat.le_of_ble_eq_true rfl)) d_M_learn_103 ⟨Nat.zero_le _, Nat.zero_le _⟩)) (fun r3 hr4 => ?_)
      subst hr4
      refine va_put (D := (dC, dI)) (ci := 3) (v := .long (sp_cm n SO x 64)) (ty := .long) (C := "FlowNestModel") (T := T_M) (N := 15) hx hb hts nm_iM t_M t_M_ok nm_M hown hK hP hD hS 0 rfl rfl 8 (by decide) (hts _ (List.mem_cons_of_mem _ nm_422)) (fun _ h9 => h9) rfl (by decide +kernel) (by rfl) (by rfl) (Nat.le_of_ble_eq_true rfl) d_M_learn_106 (fun H locs hP hD hS => ?_)
      have hP : va_P (dC, dI) vwCl (md_ws cJ cI h3 k3 o3 w3 v3 p3 e3 f3 q3 cd (nI n) (nI r) (nI x) (nI 1) (sp_cm n li r 64) (sp_cm n SO x 64) li SO wi ew lo en le pi) H := hP
      have hD : va_D A (md_ws cJ cI h3 k3 o3 w3 v3 p3 e3 f3 q3 cd (nI n) (nI r) (nI x) (nI 1) (sp_cm n li r 64) (sp_cm n SO x 64) li SO wi ew lo en le pi) := hD
      refine lv_iconst (v := nI 0) hx hb d_M_learn_109 (by decide) ?_
      refine lv_istore_n (lv' := [(1, .int (nI 0)), (0, .ref h3)]) hx hb d_M_learn_110 rfl hl (by decide) rfl (fun ls hl => ?_)
      refine wl_loop (σ := (Nat → Int64) × (Nat → Int64) × Nat) (dC, dI) vwCl A 111 3 (fun (x0z : (Nat → Int64) × (Nat → Int64) × Nat) => match x0z with | (W1, W2, v) => [(0, .ref h3), (1, .int (nI v))]) (fun (x0z : (Nat → Int64) × (Nat → Int64) × Nat) => match x0z with | (W1, W2, v) => md_ws cJ cI h3 k3 o3 w3 v3 p3 e3 f3 q3 cd (nI n) (nI r) (nI x) (nI 1) (sp_cm n li r 64) (sp_cm n SO x 64) li SO W1 W2 lo en le pi) (fun (x0z : (Nat → Int64) × (Nat → Int64) × Nat) => match x0z with | (W1, W2, v) => v ≤ n ∧ (∀ y, y < v → W1 y = sp_cm n li r y) ∧ (∀ y, y < v → W2 y = sp_cm n SO x y)) (fun (x0z : (Nat → Int64) × (Nat → Int64) × Nat) => match x0z with | (W1, W2, v) => n - v) ?_ (wi, ew, 0) (⟨Nat.zero_le n, fun y hy => by omega, fun y hy => by omega⟩) hP hD hS (lv_sub hl [1, 0] rfl)
      intro x0z hI ih H locs ls hP hD hS hl
      obtain ⟨W1, W2, v⟩ := x0z
      have hI : v ≤ n ∧ (∀ y, y < v → W1 y = sp_cm n li r y) ∧ (∀ y, y < v → W2 y = sp_cm n SO x y) := hI
      have hP : va_P (dC, dI) vwCl (md_ws cJ cI h3 k3 o3 w3 v3 p3 e3 f3 q3 cd (nI n) (nI r) (nI x) (nI 1) (sp_cm n li r 64) (sp_cm n SO x 64) li SO W1 W2 lo en le pi) H := hP
      have hD : va_D A (md_ws cJ cI h3 k3 o3 w3 v3 p3 e3 f3 q3 cd (nI n) (nI r) (nI x) (nI 1) (sp_cm n li r 64) (sp_cm n SO x 64) li SO W1 W2 lo en le pi) := hD
      have hl : lv_has ls 3 [(0, .ref h3), (1, .int (nI v))] := hl
      refine lv_iload_n hx hb d_M_learn_111 rfl (lv_at hl 1 rfl) ?_
      refine lv_aload_n hx hb d_M_learn_112 rfl (lv_at hl 0 rfl) ?_
      refine va_get (D := (dC, dI)) (ci := 3) (v := .int (nI n)) (C := "FlowNestModel") (T := T_M) (N := 15) hx hb hts nm_iM hown hK hP 0 rfl rfl 1 (by decide) (hts _ (List.mem_cons_of_mem _ nm_415)) (fun _ h9 => h9) rfl d_M_learn_113 ?_
      refine wl_ige (tgt := 157) hx hb (by omega) (by omega) d_M_learn_116 (by decide) (fun hc116 => ?_) (fun hc116 => ?_)
      · have hwi : ∀ y, y < n → W1 y = sp_cm n li r y := fun y hy => hI.2.1 y (by omega)
        have hew : ∀ y, y < n → W2 y = sp_cm n SO x y := fun y hy => hI.2.2 y (by omega)
        clear hI ih
        refine lv_iconst (v := nI 0) hx hb d_M_learn_157 (by decide) ?_
        refine lv_istore_n (lv' := [(1, .int (nI 0)), (0, .ref h3)]) hx hb d_M_learn_158 rfl hl (by decide) rfl (fun ls hl => ?_)
        refine wl_loop (σ := (Nat → Int64) × Nat) (dC, dI) vwCl A 159 3 (fun (x0z : (Nat → Int64) × Nat) => match x0z with | (LO, v) => [(0, .ref h3), (1, .int (nI v))]) (fun (x0z : (Nat → Int64) × Nat) => match x0z with | (LO, v) => md_ws cJ cI h3 k3 o3 w3 v3 p3 e3 f3 q3 cd (nI n) (nI r) (nI x) (nI 1) (sp_cm n li r 64) (sp_cm n SO x 64) li SO W1 W2 LO en le pi) (fun (x0z : (Nat → Int64) × Nat) => match x0z with | (LO, v) => v ≤ n ∧ ∀ y, y < v → LO y = sp_lp n li r y) (fun (x0z : (Nat → Int64) × Nat) => match x0z with | (LO, v) => n - v) ?_ (lo, 0) (⟨Nat.zero_le n, fun y hy => by omega⟩) hP hD hS (lv_sub hl [1, 0] rfl)
        intro x0z hI ih H locs ls hP hD hS hl
        obtain ⟨LO, v⟩ := x0z
        have hI : v ≤ n ∧ ∀ y, y < v → LO y = sp_lp n li r y := hI
        have hP : va_P (dC, dI) vwCl (md_ws cJ cI h3 k3 o3 w3 v3 p3 e3 f3 q3 cd (nI n) (nI r) (nI x) (nI 1) (sp_cm n li r 64) (sp_cm n SO x 64) li SO W1 W2 LO en le pi) H := hP
        have hD : va_D A (md_ws cJ cI h3 k3 o3 w3 v3 p3 e3 f3 q3 cd (nI n) (nI r) (nI x) (nI 1) (sp_cm n li r 64) (sp_cm n SO x 64) li SO W1 W2 LO en le pi) := hD
        have hl : lv_has ls 3 [(0, .ref h3), (1, .int (nI v))] := hl
        refine lv_iload_n hx hb d_M_learn_159 rfl (lv_at hl 1 rfl) ?_
        refine lv_aload_n hx hb d_M_learn_160 rfl (lv_at hl 0 rfl) ?_
        refine va_get (D := (dC, dI)) (ci := 3) (v := .int (nI n)) (C := "FlowNestModel") (T := T_M) (N := 15) hx hb hts nm_iM hown hK hP 0 rfl rfl 1 (by decide) (hts _ (List.mem_cons_of_mem _ nm_415)) (fun _ h9 => h9) rfl d_M_learn_161 ?_
        refine wl_ige (tgt := 184) hx hb (by omega) (by omega) d_M_learn_164 (by decide) (fun hc164 => ?_) (fun hc164 => ?_)
        · refine lv_aload_n hx hb d_M_learn_184 rfl (lv_at hl 0 rfl) ?_
          have hPc := hP.sub (ws' := md_ws cJ cI h3 k3 o3 w3 v3 p3 e3 f3 q3 cd (nI n) (nI r) (nI x) (nI 1) (sp_cm n li r 64) (sp_cm n SO x 64) li SO W1 W2 LO en le pi) [0, 1, 2, 3, 4, 5, 6, 7, 8] rfl
          have hDc := hD.sub (ws' := md_ws cJ cI h3 k3 o3 w3 v3 p3 e3 f3 q3 cd (nI n) (nI r) (nI x) (nI 1) (sp_cm n li r 64) (sp_cm n SO x 64) li SO W1 W2 LO en le pi) [0, 1, 2, 3, 4, 5, 6, 7, 8] (by decide) rfl
          have hFc := va_free (wc := md_ws cJ cI h3 k3 o3 w3 v3 p3 e3 f3 q3 cd (nI n) (nI r) (nI x) (nI 1) (sp_cm n li r 64) (sp_cm n SO x 64) li SO W1 W2 LO en le pi) hD hS hA [0, 1, 2, 3, 4, 5, 6, 7, 8] rfl
          refine va_callv (va_runV (C := "FlowNestModel") (b := h3) (As := []) (rest := []) ⟨hx, hb, hml, hown, hts⟩ (c_M_goOver l dC dI cJ cI h3 k3 o3 w3 v3 p3 e3 f3 q3 H.size cd (nI x) (nI 1) (sp_cm n li r 64) (sp_cm n SO x 64) li SO W1 W2 LO en le pi n r hn hr9 hL) (cwV 0 hts (nm_gV nm_512 nm_514 nm_s_M_goOver nm_4 nm_c_M_goOver) rfl rfl rfl (by decide +kernel) ⟨Nat.le_of_ble_eq_true rfl, Nat.le_of_ble_eq_true rfl⟩) ⟨cw_blindM, va_recv hK hP (ci := 3) rfl (q0 := 0) rfl, cw_preM hPc hDc hK hNw⟩ rfl rfl hl.1 rfl (lv_room (Nat.le_of_ble_eq_true rfl)) d_M_learn_185 ⟨Nat.zero_le _, Nat.zero_le _⟩) hS (fun q _ h => hFc q h) hFc (fun u9 t H1 locs ht hvm hw6 hB hz1 hk1 hS => ?_)
          obtain ⟨en7, le8, pi9⟩ := u9
          obtain ⟨hP1, hD1⟩ := hB
          rw [ht] at hP1
          obtain ⟨hP, hD⟩ := va_join (wr := ([] : List Nat).filterMap (fun (i : Nat) => (md_ws cJ cI h3 k3 o3 w3 v3 p3 e3 f3 q3 cd (nI n) (nI r) (nI x) (nI 1) (sp_cm n li r 64) (sp_cm n SO x 64) li SO W1 W2 LO en le pi)[i]?)) (w1 := md_ws cJ cI h3 k3 o3 w3 v3 p3 e3 f3 q3 cd (nI n) (nI r) (nI x) (nI 1) (sp_cm n li r 64) (sp_cm n SO x 64) li SO W1 W2 LO en7 le8 pi9) hP hD [0, 1, 2, 3, 4, 5, 6, 7, 8] [] rfl rfl (by decide) (by decide) hk1 hFc hP1 hD1
          generalize H1 = H at hP hS ⊢
          have hP : va_P (dC, dI) vwCl (md_ws cJ cI h3 k3 o3 w3 v3 p3 e3 f3 q3 cd (nI n) (nI r) (nI x) (nI 1) (sp_cm n li r 64) (sp_cm n SO x 64) li SO W1 W2 LO en7 le8 pi9) H := hP.sub (ws' := md_ws cJ cI h3 k3 o3 w3 v3 p3 e3 f3 q3 cd (nI n) (nI r) (nI x) (nI 1) (sp_cm n li r 64) (sp_cm n SO x 64) li SO W1 W2 LO en7 le8 pi9) [0, 1, 2, 3, 4, 5, 6, 7, 8] rfl
          have hD : va_D A (md_ws cJ cI h3 k3 o3 w3 v3 p3 e3 f3 q3 cd (nI n) (nI r) (nI x) (nI 1) (sp_cm n li r 64) (sp_cm n SO x 64) li SO W1 W2 LO en7 le8 pi9) := hD.sub (ws' := md_ws cJ cI h3 k3 o3 w3 v3 p3 e3 f3 q3 cd (nI n) (nI r) (nI x) (nI 1) (sp_cm n li r 64) (sp_cm n SO x 64) li SO W1 W2 LO en7 le8 pi9) [0, 1, 2, 3, 4, 5, 6, 7, 8] (by decide) rfl
          exact W.vret hx hb hr (fun t ht hW => ⟨⟨(sp_cm n li r 64, sp_cm n SO x 64, SO, W1, W2, LO, en7, le8, pi9), rfl, ⟨hso, hrc9, md_eg (by omega) hso, hwi, fun y hy => by rw [hew y hy, sp_cm_congr hso], fun y hy => hI.2 y (by omega), hw6.1, hw6.2⟩, by rw [ht]; exact hP, hD⟩, hS.F ht⟩) hS.2.2 d_M_learn_188
        · refine lv_aload_n hx hb d_M_learn_167 rfl (lv_at hl 0 rfl) ?_
          refine va_get (D := (dC, dI)) (ci := 3) (v := .ref p3) (C := "FlowNestModel") (T := T_M) (N := 15) hx hb hts nm_iM hown hK hP 0 rfl rfl 11 (by decide) (hts _ (List.mem_cons_of_mem _ nm_425)) (fun _ h9 => h9) rfl d_M_learn_168 ?_
          refine lv_iload_n hx hb d_M_learn_171 rfl (lv_at hl 1 rfl) ?_
          refine lv_aload_n hx hb d_M_learn_172 rfl (lv_at hl 0 rfl) ?_
          refine lv_iload_n hx hb d_M_learn_173 rfl (lv_at hl 1 rfl) ?_
          refine vp_callSl (va_Run.run (va_runV (C := "FlowNestModel") (b := h3) (As := [.int (nI v)]) (rest := [.int (nI v), .ref p3]) ⟨hx, hb, hml, hown, hts⟩ (c_M_loopFrom l dC dI cJ cI h3 k3 o3 w3 v3 p3 e3 f3 q3 cd (nI r) (nI x) (nI 1) (sp_cm n li r 64) (sp_cm n SO x 64) li SO W1 W2 LO en le pi n r v hn (by omega) hrc9 hso (fun u hu => md_gb_eq (by omega) hr9 hrc9 hwi hu (by omega))) (cwV 1 hts (nm_gV nm_500 nm_502 nm_s_M_loopFrom nm_4 nm_c_M_loopFrom) rfl rfl rfl (by decide +kernel) ⟨Nat.le_of_ble_eq_true rfl, Nat.le_of_ble_eq_true rfl⟩) ⟨cw_blind, va_recv hK hP (ci := 3) rfl (q0 := 0) rfl, cw_pre hP hK hNw⟩ rfl rfl hl.1 rfl (lv_room (Nat.le_of_ble_eq_true rfl)) d_M_learn_174 ⟨Nat.zero_le _, Nat.zero_le _⟩)) (fun r10 hr11 => ?_)
          subst hr11
          refine wl_last (i := v) hx hb hK hP hD hS 5 0 rfl rfl (by omega) (by decide) d_M_learn_177 (fun H locs hP hD hS => ?_)
          have hP : va_P (dC, dI) vwCl (md_ws cJ cI h3 k3 o3 w3 v3 p3 e3 f3 q3 cd (nI n) (nI r) (nI x) (nI 1) (sp_cm n li r 64) (sp_cm n SO x 64) li SO W1 W2 (vp_updL LO v (sp_lp n li r v)) en le pi) H := hP
          have hD : va_D A (md_ws cJ cI h3 k3 o3 w3 v3 p3 e3 f3 q3 cd (nI n) (nI r) (nI x) (nI 1) (sp_cm n li r 64) (sp_cm n SO x 64) li SO W1 W2 (vp_updL LO v (sp_lp n li r v)) en le pi) := hD
          refine lv_iinc (lv' := [(1, .int (nI (v + 1))), (0, .ref h3)]) (k := 1) (v := nI (v + 1)) hx hb d_M_learn_178 hl rfl (nI_1 v) (by decide) rfl (fun ls hl => ?_)
          refine lv_goto (tgt := 159) hx hb d_M_learn_181 (by decide) ?_
          exact ih ((vp_updL LO v (sp_lp n li r v)), (v + 1)) (show v + 1 ≤ n ∧ ∀ y, y < v + 1 → vp_updL LO v (sp_lp n li r v) y = sp_lp n li r y from ⟨by omega, vp_upto hI.2 rfl⟩) (show n - (v + 1) < n - v by omega) _ _ _ hP hD hS (lv_sub hl [1, 0] rfl)
      · refine lv_aload_n hx hb d_M_learn_119 rfl (lv_at hl 0 rfl) ?_
        refine va_get (D := (dC, dI)) (ci := 3) (v := .ref w3) (C := "FlowNestModel") (T := T_M) (N := 15) hx hb hts nm_iM hown hK hP 0 rfl rfl 9 (by decide) (hts _ (List.mem_cons_of_mem _ nm_423)) (fun _ h9 => h9) rfl d_M_learn_120 ?_
        refine lv_iload_n hx hb d_M_learn_123 rfl (lv_at hl 1 rfl) ?_
        refine lv_aload_n hx hb d_M_learn_124 rfl (lv_at hl 0 rfl) ?_
        refine lv_aload_n hx hb d_M_learn_125 rfl (lv_at hl 0 rfl) ?_
        refine va_get (D := (dC, dI)) (ci := 3) (v := .int (nI r)) (C := "FlowNestModel") (T := T_M) (N := 15) hx hb hts nm_iM hown hK hP 0 rfl rfl 2 (by decide) (hts _ (List.mem_cons_of_mem _ nm_416)) (fun _ h9 => h9) rfl d_M_learn_126 ?_
        refine lv_iload_n hx hb d_M_learn_129 rfl (lv_at hl 1 rfl) ?_
        refine lv_iconst (v := nI 0) hx hb d_M_learn_130 (by decide) ?_
        refine vp_callSl (va_Run.run (va_runV (C := "FlowNestModel") (b := h3) (As := [.int (nI r), .int (nI v), .int (nI 0)]) (rest := [.int (nI v), .ref w3]) ⟨hx, hb, hml, hown, hts⟩ (c_M_comeTo_b0 l dC dI cJ cI h3 k3 o3 w3 v3 p3 e3 f3 q3 cd (nI r) (nI x) (nI 1) (sp_cm n li r 64) (sp_cm n SO x 64) li SO W1 W2 lo en le pi n r v hn (by omega) (by omega)) (cwV 3 hts (nm_gV nm_496 nm_498 nm_s_M_comeTo nm_4 nm_c_M_comeTo) rfl rfl rfl (by decide +kernel) ⟨Nat.le_of_ble_eq_true rfl, Nat.le_of_ble_eq_true rfl⟩) ⟨cw_blind, va_recv hK hP (ci := 3) rfl (q0 := 0) rfl, cw_pre hP hK hNw⟩ rfl rfl hl.1 rfl (lv_room (Nat.le_of_ble_eq_true rfl)) d_M_learn_131 ⟨Nat.zero_le _, Nat.zero_le _⟩)) (fun r12 hr13 => ?_)
        subst hr13
        refine wl_last (i := v) hx hb hK hP hD hS 3 0 rfl rfl (by omega) (by decide) d_M_learn_134 (fun H locs hP hD hS => ?_)
        have hP : va_P (dC, dI) vwCl (md_ws cJ cI h3 k3 o3 w3 v3 p3 e3 f3 q3 cd (nI n) (nI r) (nI x) (nI 1) (sp_cm n li r 64) (sp_cm n SO x 64) li SO (vp_updL W1 v (sp_cm n li r v)) W2 lo en le pi) H := hP
        have hD : va_D A (md_ws cJ cI h3 k3 o3 w3 v3 p3 e3 f3 q3 cd (nI n) (nI r) (nI x) (nI 1) (sp_cm n li r 64) (sp_cm n SO x 64) li SO (vp_updL W1 v (sp_cm n li r v)) W2 lo en le pi) := hD
        refine lv_aload_n hx hb d_M_learn_135 rfl (lv_at hl 0 rfl) ?_
        refine va_get (D := (dC, dI)) (ci := 3) (v := .ref v3) (C := "FlowNestModel") (T := T_M) (N := 15) hx hb hts nm_iM hown hK hP 0 rfl rfl 10 (by decide) (hts _ (List.mem_cons_of_mem _ nm_424)) (fun _ h9 => h9) rfl d_M_learn_136 ?_
        refine lv_iload_n hx hb d_M_learn_139 rfl (lv_at hl 1 rfl) ?_
        refine lv_aload_n hx hb d_M_learn_140 rfl (lv_at hl 0 rfl) ?_
        refine lv_aload_n hx hb d_M_learn_141 rfl (lv_at hl 0 rfl) ?_
        refine va_get (D := (dC, dI)) (ci := 3) (v := .int (nI x)) (C := "FlowNestModel") (T := T_M) (N := 15) hx hb hts nm_iM hown hK hP 0 rfl rfl 3 (by decide) (hts _ (List.mem_cons_of_mem _ nm_417)) (fun _ h9 => h9) rfl d_M_learn_142 ?_
        refine lv_iload_n hx hb d_M_learn_145 rfl (lv_at hl 1 rfl) ?_
        refine lv_iconst (v := nI 1) hx hb d_M_learn_146 (by decide) ?_
        refine vp_callSl (va_Run.run (va_runV (C := "FlowNestModel") (b := h3) (As := [.int (nI x), .int (nI v), .int (nI 1)]) (rest := [.int (nI v), .ref v3]) ⟨hx, hb, hml, hown, hts⟩ (c_M_comeTo_b1 l dC dI cJ cI h3 k3 o3 w3 v3 p3 e3 f3 q3 cd (nI r) (nI x) (nI 1) (sp_cm n li r 64) (sp_cm n SO x 64) li SO (vp_updL W1 v (sp_cm n li r v)) W2 lo en le pi n x v hn (by omega) (by omega)) (cwV 3 hts (nm_gV nm_496 nm_498 nm_s_M_comeTo nm_4 nm_c_M_comeTo) rfl rfl rfl (by decide +kernel) ⟨Nat.le_of_ble_eq_true rfl, Nat.le_of_ble_eq_true rfl⟩) ⟨cw_blind, va_recv hK hP (ci := 3) rfl (q0 := 0) rfl, cw_pre hP hK hNw⟩ rfl rfl hl.1 rfl (lv_room (Nat.le_of_ble_eq_true rfl)) d_M_learn_147 ⟨Nat.zero_le _, Nat.zero_le _⟩)) (fun r14 hr15 => ?_)
        subst hr15
        refine wl_last (i := v) hx hb hK hP hD hS 4 0 rfl rfl (by omega) (by decide) d_M_learn_150 (fun H locs hP hD hS => ?_)
        have hP : va_P (dC, dI) vwCl (md_ws cJ cI h3 k3 o3 w3 v3 p3 e3 f3 q3 cd (nI n) (nI r) (nI x) (nI 1) (sp_cm n li r 64) (sp_cm n SO x 64) li SO (vp_updL W1 v (sp_cm n li r v)) (vp_updL W2 v (sp_cm n SO x v)) lo en le pi) H := hP
        have hD : va_D A (md_ws cJ cI h3 k3 o3 w3 v3 p3 e3 f3 q3 cd (nI n) (nI r) (nI x) (nI 1) (sp_cm n li r 64) (sp_cm n SO x 64) li SO (vp_updL W1 v (sp_cm n li r v)) (vp_updL W2 v (sp_cm n SO x v)) lo en le pi) := hD
        refine lv_iinc (lv' := [(1, .int (nI (v + 1))), (0, .ref h3)]) (k := 1) (v := nI (v + 1)) hx hb d_M_learn_151 hl rfl (nI_1 v) (by decide) rfl (fun ls hl => ?_)
        refine lv_goto (tgt := 111) hx hb d_M_learn_154 (by decide) ?_
        exact ih ((vp_updL W1 v (sp_cm n li r v)), (vp_updL W2 v (sp_cm n SO x v)), (v + 1)) (show v + 1 ≤ n ∧ (∀ y, y < v + 1 → vp_updL W1 v (sp_cm n li r v) y = sp_cm n li r y) ∧ (∀ y, y < v + 1 → vp_updL W2 v (sp_cm n SO x v) y = sp_cm n SO x y) from ⟨by omega, vp_upto hI.2.1 rfl, vp_upto hI.2.2 rfl⟩) (show n - (v + 1) < n - v by omega) _ _ _ hP hD hS (lv_sub hl [1, 0] rfl)
    · refine lv_aload_n hx hb d_M_learn_23 rfl (lv_at hl 0 rfl) ?_
      refine va_get (D := (dC, dI)) (ci := 3) (v := .ref o3) (C := "FlowNestModel") (T := T_M) (N := 15) hx hb hts nm_iM hown hK hP 0 rfl rfl 5 (by decide) (hts _ (List.mem_cons_of_mem _ nm_419)) (fun _ h9 => h9) rfl d_M_learn_24 ?_
      refine lv_iload_n hx hb d_M_learn_27 rfl (lv_at hl 1 rfl) ?_
      refine lv_lconst (v := 0) hx hb d_M_learn_28 (by decide) ?_
      refine wl_last (i := v) hx hb hK hP hD hS 2 0 rfl rfl (by omega) (by decide) d_M_learn_29 (fun H locs hP hD hS => ?_)
      have hP : va_P (dC, dI) vwCl (md_ws cJ cI h3 k3 o3 w3 v3 p3 e3 f3 q3 cd (nI n) (nI r) (nI x) (nI 1) rc eg li (vp_updL SO v 0) wi ew lo en le pi) H := hP
      have hD : va_D A (md_ws cJ cI h3 k3 o3 w3 v3 p3 e3 f3 q3 cd (nI n) (nI r) (nI x) (nI 1) rc eg li (vp_updL SO v 0) wi ew lo en le pi) := hD
      refine lv_iconst (v := nI 0) hx hb d_M_learn_30 (by decide) ?_
      refine lv_istore_n (lv' := [(2, .int (nI 0)), (0, .ref h3), (1, .int (nI v))]) hx hb d_M_learn_31 rfl hl (by decide) rfl (fun ls hl => ?_)
      refine wl_loop (σ := Nat) (dC, dI) vwCl A 32 3 (fun (u : Nat) => [(0, .ref h3), (1, .int (nI v)), (2, .int (nI u))]) (fun (u : Nat) => md_ws cJ cI h3 k3 o3 w3 v3 p3 e3 f3 q3 cd (nI n) (nI r) (nI x) (nI 1) rc eg li (vp_updL SO v (cl_be li v u)) wi ew lo en le pi) (fun (u : Nat) => u ≤ n) (fun (u : Nat) => n - u) ?_ 0 (Nat.zero_le n) hP hD hS (lv_sub hl [1, 2, 0] rfl)
      intro u hI ih H locs ls hP hD hS hl
      have hI : u ≤ n := hI
      have hP : va_P (dC, dI) vwCl (md_ws cJ cI h3 k3 o3 w3 v3 p3 e3 f3 q3 cd (nI n) (nI r) (nI x) (nI 1) rc eg li (vp_updL SO v (cl_be li v u)) wi ew lo en le pi) H := hP
      have hD : va_D A (md_ws cJ cI h3 k3 o3 w3 v3 p3 e3 f3 q3 cd (nI n) (nI r) (nI x) (nI 1) rc eg li (vp_updL SO v (cl_be li v u)) wi ew lo en le pi) := hD
      have hl : lv_has ls 3 [(0, .ref h3), (1, .int (nI v)), (2, .int (nI u))] := hl
      refine lv_iload_n hx hb d_M_learn_32 rfl (lv_at hl 2 rfl) ?_
      refine lv_aload_n hx hb d_M_learn_33 rfl (lv_at hl 0 rfl) ?_
      refine va_get (D := (dC, dI)) (ci := 3) (v := .int (nI n)) (C := "FlowNestModel") (T := T_M) (N := 15) hx hb hts nm_iM hown hK hP 0 rfl rfl 1 (by decide) (hts _ (List.mem_cons_of_mem _ nm_415)) (fun _ h9 => h9) rfl d_M_learn_34 ?_
      refine wl_ige (tgt := 75) hx hb (by omega) (by omega) d_M_learn_37 (by decide) (fun hc37 => ?_) (fun hc37 => ?_)
      · refine lv_iinc (lv' := [(1, .int (nI (v + 1))), (0, .ref h3), (2, .int (nI u))]) (k := 1) (v := nI (v + 1)) hx hb d_M_learn_75 hl rfl (nI_1 v) (by decide) rfl (fun ls hl => ?_)
        refine lv_goto (tgt := 15) hx hb d_M_learn_78 (by decide) ?_
        rw [show u = n by omega] at hP hD
        exact ihA ((vp_updL SO v (cl_be li v n)), (v + 1)) (show v + 1 ≤ n ∧ ∀ y, y < v + 1 → vp_updL SO v (cl_be li v n) y = gf_T n li y from ⟨by omega, vp_upto hIA.2 (cl_be_T (by omega) li v)⟩) (show n - (v + 1) < n - v by omega) _ _ _ hP hD hS (lv_sub hl [1, 0] rfl)
      · refine lv_aload_n hx hb d_M_learn_40 rfl (lv_at hl 0 rfl) ?_
        refine va_get (D := (dC, dI)) (ci := 3) (v := .ref o3) (C := "FlowNestModel") (T := T_M) (N := 15) hx hb hts nm_iM hown hK hP 0 rfl rfl 5 (by decide) (hts _ (List.mem_cons_of_mem _ nm_419)) (fun _ h9 => h9) rfl d_M_learn_41 ?_
        refine lv_iload_n hx hb d_M_learn_44 rfl (lv_at hl 1 rfl) ?_
        refine lv_dup2_11 hx hb d_M_learn_45 rfl rfl ?_
        refine wl_lald (i := v) hx hb hK hP 2 0 rfl rfl (by omega) (by decide) d_M_learn_46 ?_
        rw [show (vp_updL SO v (cl_be li v u)) v = cl_be li v u from pk_uLs]
        refine lv_aload_n hx hb d_M_learn_47 rfl (lv_at hl 0 rfl) ?_
        refine va_get (D := (dC, dI)) (ci := 3) (v := .ref k3) (C := "FlowNestModel") (T := T_M) (N := 15) hx hb hts nm_iM hown hK hP 0 rfl rfl 4 (by decide) (hts _ (List.mem_cons_of_mem _ nm_418)) (fun _ h9 => h9) rfl d_M_learn_48 ?_
        refine lv_iload_n hx hb d_M_learn_51 rfl (lv_at hl 2 rfl) ?_
        refine wl_lald (i := u) hx hb hK hP 1 0 rfl rfl (by omega) (by decide) d_M_learn_52 ?_
        refine lv_iload_n hx hb d_M_learn_53 rfl (lv_at hl 1 rfl) ?_
        refine vp_callSi (va_Run.run (va_runS (As := [.long (li u), .int (nI v)]) (rest := [.long (cl_be li v u), .int (nI v), .ref o3]) ⟨hx, hb, hml, hown, hts⟩ (c_M_has l (li u) v (by omega)) (va_cwS 2 hts (nm_gS nm_476 nm_477 nm_4 nm_c_M_has) rfl rfl rfl (by decide +kernel) ⟨Nat.le_of_ble_eq_true rfl, Nat.le_of_ble_eq_true rfl⟩) ⟨fun _ _ _ _ q => ⟨q.1, trivial⟩, fun U hU hW => ⟨rfl, trivial⟩⟩ rfl rfl hl.1 rfl (lv_room (Nat.le_of_ble_eq_true rfl)) d_M_learn_54 ⟨Nat.zero_le _, Nat.zero_le _⟩)) (fun r hr => ?_)
        subst hr
        refine wl_ifeqb (tgt := 66) hx hb d_M_learn_57 (by decide) (fun hc57 => ?_) (fun hc57 => ?_)
        · refine lv_lconst (v := 0) hx hb d_M_learn_66 (by decide) ?_
          refine lv_lor hx hb d_M_learn_67 ?_
          refine wl_last (i := v) hx hb hK hP hD hS 2 0 rfl rfl (by omega) (by decide) d_M_learn_68 (fun H locs hP hD hS => ?_)
          have hP : va_P (dC, dI) vwCl (md_ws cJ cI h3 k3 o3 w3 v3 p3 e3 f3 q3 cd (nI n) (nI r) (nI x) (nI 1) rc eg li (vp_updL (vp_updL SO v (cl_be li v u)) v ((cl_be li v u) ||| 0)) wi ew lo en le pi) H := hP
          have hD : va_D A (md_ws cJ cI h3 k3 o3 w3 v3 p3 e3 f3 q3 cd (nI n) (nI r) (nI x) (nI 1) rc eg li (vp_updL (vp_updL SO v (cl_be li v u)) v ((cl_be li v u) ||| 0)) wi ew lo en le pi) := hD
          refine lv_iinc (lv' := [(2, .int (nI (u + 1))), (0, .ref h3), (1, .int (nI v))]) (k := 2) (v := nI (u + 1)) hx hb d_M_learn_69 hl rfl (nI_1 u) (by decide) rfl (fun ls hl => ?_)
          refine lv_goto (tgt := 32) hx hb d_M_learn_72 (by decide) ?_
          rw [vp_uu] at hP hD
          rw [bs_or0, show cl_be li v u = cl_be li v (u + 1) from (if_neg (Bool.eq_false_iff.mp hc57)).symm] at hP hD
          exact ih (u + 1) (show u + 1 ≤ n by omega) (show n - (u + 1) < n - u by omega) _ _ _ hP hD hS (lv_sub hl [1, 2, 0] rfl)
        · refine lv_lconst (v := 1) hx hb d_M_learn_60 (by decide) ?_
          refine lv_iload_n hx hb d_M_learn_61 rfl (lv_at hl 2 rfl) ?_
          refine lv_lshl (v := bs_b u) hx hb d_M_learn_62 rfl ?_
          refine lv_goto (tgt := 67) hx hb d_M_learn_63 (by decide) ?_
          refine lv_lor hx hb d_M_learn_67 ?_
          refine wl_last (i := v) hx hb hK hP hD hS 2 0 rfl rfl (by omega) (by decide) d_M_learn_68 (fun H locs hP hD hS => ?_)
          have hP : va_P (dC, dI) vwCl (md_ws cJ cI h3 k3 o3 w3 v3 p3 e3 f3 q3 cd (nI n) (nI r) (nI x) (nI 1) rc eg li (vp_updL (vp_updL SO v (cl_be li v u)) v ((cl_be li v u) ||| (bs_b u))) wi ew lo en le pi) H := hP
          have hD : va_D A (md_ws cJ cI h3 k3 o3 w3 v3 p3 e3 f3 q3 cd (nI n) (nI r) (nI x) (nI 1) rc eg li (vp_updL (vp_updL SO v (cl_be li v u)) v ((cl_be li v u) ||| (bs_b u))) wi ew lo en le pi) := hD
          refine lv_iinc (lv' := [(2, .int (nI (u + 1))), (0, .ref h3), (1, .int (nI v))]) (k := 2) (v := nI (u + 1)) hx hb d_M_learn_69 hl rfl (nI_1 u) (by decide) rfl (fun ls hl => ?_)
          refine lv_goto (tgt := 32) hx hb d_M_learn_72 (by decide) ?_
          rw [vp_uu] at hP hD
          rw [show cl_be li v u ||| bs_b u = cl_be li v (u + 1) from (if_pos hc57).symm] at hP hD
          exact ih (u + 1) (show u + 1 ≤ n by omega) (show n - (u + 1) < n - u by omega) _ _ _ hP hD hS (lv_sub hl [1, 2, 0] rfl)
  · exact absurd hc4 (by decide)
set_option maxHeartbeats 4000000 in
set_option maxRecDepth 100000 in
theorem c_M_learn_1 (l : Launch) (dC : Nat → ClassId) (dI : Nat → Nat → Nat) (cJ cI : ClassId) (h3 k3 o3 w3 v3 p3 e3 f3 q3 hs : Nat) (cd : Int32) (rc : Int64) (eg : Int64) (li : Nat → Int64) (so : Nat → Int64) (wi : Nat → Int64) (ew : Nat → Int64) (lo : Nat → Int64) (en : Nat → Int32) (le : Nat → Int32) (pi : Nat → Int32) (n r x : Nat) (hn : n ≤ 48) (hr9 : r < n) (hx9 : x < n) (hL : ∀ u v, gf_E n li u v → v < n) (hq : true = true → md_G n r x li rc eg so wi ew lo en le) : Met l y_M_learn w_M_learn ({ frames := 4, cells := 0, slots := 0, locals := 93 }) (va_Pc [.ref h3] (cw_M (dC, dI) cJ cI (md_ws cJ cI h3 k3 o3 w3 v3 p3 e3 f3 q3 cd (nI n) (nI r) (nI x) (nI 1) rc eg li so wi ew lo en le pi) hs)) (va_Qv (fun (u9 : Int64 × Int64 × (Nat → Int64) × (Nat → Int64) × (Nat → Int64) × (Nat → Int64) × (Nat → Int32) × (Nat → Int32) × (Nat → Int32)) => match u9 with | (rc9, eg9, so9, wi9, ew9, lo9, en9, le9, pi9) => md_G n r x li rc9 eg9 so9 wi9 ew9 lo9 en9 le9) (fun (u9 : Int64 × Int64 × (Nat → Int64) × (Nat → Int64) × (Nat → Int64) × (Nat → Int64) × (Nat → Int32) × (Nat → Int32) × (Nat → Int32)) (t : State) => match u9 with | (rc9, eg9, so9, wi9, ew9, lo9, en9, le9, pi9) => va_P (dC, dI) vwCl (md_ws cJ cI h3 k3 o3 w3 v3 p3 e3 f3 q3 cd (nI n) (nI r) (nI x) (nI 1) rc9 eg9 li so9 wi9 ew9 lo9 en9 le9 pi9) t.heap ∧ va_D (va_A (md_ws cJ cI h3 k3 o3 w3 v3 p3 e3 f3 q3 cd (nI n) (nI r) (nI x) (nI 1) rc eg li so wi ew lo en le pi) hs) (md_ws cJ cI h3 k3 o3 w3 v3 p3 e3 f3 q3 cd (nI n) (nI r) (nI x) (nI 1) rc9 eg9 li so9 wi9 ew9 lo9 en9 le9 pi9)) (va_A (md_ws cJ cI h3 k3 o3 w3 v3 p3 e3 f3 q3 cd (nI n) (nI r) (nI x) (nI 1) rc eg li so wi ew lo en le pi) hs)) 0 0 (va_A (md_ws cJ cI h3 k3 o3 w3 v3 p3 e3 f3 q3 cd (nI n) (nI r) (nI x) (nI 1) rc eg li so wi ew lo en le pi) hs) := by
  refine Met.ofW (cc := b_M_learn) (maxL := 3) (ret := none) (by decide) rfl ?_
  intro p e s m args below meth c s₁ B hml hv9
  obtain ⟨rfl, hsz, ⟨hP, hK, hNw⟩, hD0⟩ := hv9
  have hx := B.exec
  have hb := B.bytes
  have hr := B.returns
  have hts := atoms_spec (ws := w_M_learn) B.pre
  have hown : s.vm.findClass "FlowNestModel" = some m.cls := findClass_of_methodNamed B.named
  have hlocks := B.notSynchronized
  subst hsz
  have hD := hD0.self (sz := s.heap.size)
  generalize hAe : va_A (md_ws cJ cI h3 k3 o3 w3 v3 p3 e3 f3 q3 cd (nI n) (nI r) (nI x) (nI 1) rc eg li so wi ew lo en le pi) s.heap.size = A at hD ⊢
  have hA : ∀ q : Nat, s.heap.size ≤ q → A q := fun q h => by rw [← hAe]; exact Or.inr h
  have hS : va_S A s.heap s.heap [] := va_S.rf
  have hP : va_P (dC, dI) vwCl (md_ws cJ cI h3 k3 o3 w3 v3 p3 e3 f3 q3 cd (nI n) (nI r) (nI x) (nI 1) rc eg li so wi ew lo en le pi) s.heap := hP
  have hl := lv_entry ([.ref h3]) (n := 3) (Nat.le_of_ble_eq_true rfl)
  rw [lg_entry_eq]
  generalize (lg_sl ([.ref h3]) ++ List.replicate (3 - (lg_sl ([.ref h3])).length) Slot.unset).toArray = ls at hl ⊢
  have hl : lv_has ls 3 [(0, .ref h3)] := hl
  refine lv_aload_n hx hb d_M_learn_0 rfl (lv_at hl 0 rfl) ?_
  refine va_get (D := (dC, dI)) (ci := 3) (v := .int (nI 1)) (C := "FlowNestModel") (T := T_M) (N := 15) hx hb hts nm_iM hown hK hP 0 rfl rfl 6 (by decide) (hts _ (List.mem_cons_of_mem _ nm_420)) (fun _ h9 => h9) rfl d_M_learn_1 ?_
  refine wl_ifeqn (tgt := 8) hx hb (by omega) d_M_learn_4 (by decide) (fun hc4 => ?_) (fun hc4 => ?_)
  · exact absurd hc4 (by decide)
  · exact W.vret hx hb hr (fun t ht hW => ⟨⟨(rc, eg, so, wi, ew, lo, en, le, pi), rfl, hq rfl, by rw [ht]; exact hP, hD⟩, hS.F ht⟩) hS.2.2 d_M_learn_7
theorem c_M_learn (l : Launch) (dC : Nat → ClassId) (dI : Nat → Nat → Nat) (cJ cI : ClassId) (h3 k3 o3 w3 v3 p3 e3 f3 q3 hs : Nat) (cd : Int32) (rc : Int64) (eg : Int64) (li : Nat → Int64) (so : Nat → Int64) (wi : Nat → Int64) (ew : Nat → Int64) (lo : Nat → Int64) (en : Nat → Int32) (le : Nat → Int32) (pi : Nat → Int32) (n r x : Nat) (q : Bool) (hn : n ≤ 48) (hr9 : r < n) (hx9 : x < n) (hL : ∀ u v, gf_E n li u v → v < n) (hq : q = true → md_G n r x li rc eg so wi ew lo en le) : Met l y_M_learn w_M_learn ({ frames := 4, cells := 0, slots := 0, locals := 93 }) (va_Pc [.ref h3] (cw_M (dC, dI) cJ cI (md_ws cJ cI h3 k3 o3 w3 v3 p3 e3 f3 q3 cd (nI n) (nI r) (nI x) (bs_i q) rc eg li so wi ew lo en le pi) hs)) (va_Qv (fun (u9 : Int64 × Int64 × (Nat → Int64) × (Nat → Int64) × (Nat → Int64) × (Nat → Int64) × (Nat → Int32) × (Nat → Int32) × (Nat → Int32)) => match u9 with | (rc9, eg9, so9, wi9, ew9, lo9, en9, le9, pi9) => md_G n r x li rc9 eg9 so9 wi9 ew9 lo9 en9 le9) (fun (u9 : Int64 × Int64 × (Nat → Int64) × (Nat → Int64) × (Nat → Int64) × (Nat → Int64) × (Nat → Int32) × (Nat → Int32) × (Nat → Int32)) (t : State) => match u9 with | (rc9, eg9, so9, wi9, ew9, lo9, en9, le9, pi9) => va_P (dC, dI) vwCl (md_ws cJ cI h3 k3 o3 w3 v3 p3 e3 f3 q3 cd (nI n) (nI r) (nI x) (nI 1) rc9 eg9 li so9 wi9 ew9 lo9 en9 le9 pi9) t.heap ∧ va_D (va_A (md_ws cJ cI h3 k3 o3 w3 v3 p3 e3 f3 q3 cd (nI n) (nI r) (nI x) (bs_i q) rc eg li so wi ew lo en le pi) hs) (md_ws cJ cI h3 k3 o3 w3 v3 p3 e3 f3 q3 cd (nI n) (nI r) (nI x) (nI 1) rc9 eg9 li so9 wi9 ew9 lo9 en9 le9 pi9)) (va_A (md_ws cJ cI h3 k3 o3 w3 v3 p3 e3 f3 q3 cd (nI n) (nI r) (nI x) (bs_i q) rc eg li so wi ew lo en le pi) hs)) 0 0 (va_A (md_ws cJ cI h3 k3 o3 w3 v3 p3 e3 f3 q3 cd (nI n) (nI r) (nI x) (bs_i q) rc eg li so wi ew lo en le pi) hs) := by
  cases q
  · exact c_M_learn_0 l dC dI cJ cI h3 k3 o3 w3 v3 p3 e3 f3 q3 hs cd rc eg li so wi ew lo en le pi n r x hn hr9 hx9 hL hq
  · exact c_M_learn_1 l dC dI cJ cI h3 k3 o3 w3 v3 p3 e3 f3 q3 hs cd rc eg li so wi ew lo en le pi n r x hn hr9 hx9 hL hq
