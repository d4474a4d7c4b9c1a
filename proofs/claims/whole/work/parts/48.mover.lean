/-! contract of the reference's goOver (laid by wip/gen/mover.py) -/
set_option maxHeartbeats 4000000 in
set_option maxRecDepth 100000 in
theorem c_M_goOver (l : Launch) (dC : Nat → ClassId) (dI : Nat → Nat → Nat) (cJ cI : ClassId) (h3 k3 o3 w3 v3 p3 e3 f3 q3 hs : Nat) (cd : Int32) (ex : Int32) (kn : Int32) (rc : Int64) (eg : Int64) (li : Nat → Int64) (so : Nat → Int64) (wi : Nat → Int64) (ew : Nat → Int64) (lo : Nat → Int64) (en : Nat → Int32) (le : Nat → Int32) (pi : Nat → Int32) (n r : Nat) (hn : n ≤ 48) (hr9 : r < n) (hL : ∀ u v, gf_E n li u v → v < n) : Met l y_M_goOver w_M_goOver ({ frames := 1, cells := 0, slots := 0, locals := 22 }) (va_Pc [.ref h3] (cw_M (dC, dI) cJ cI (md_ws cJ cI h3 k3 o3 w3 v3 p3 e3 f3 q3 cd (nI n) (nI r) ex kn rc eg li so wi ew lo en le pi) hs)) (va_Qv (fun (u9 : (Nat → Int32) × (Nat → Int32) × (Nat → Int32)) => match u9 with | (en9, le9, pi9) => (∀ v, v < n → en9 v = (df_F n li r (fun _ => 0)).2.1 v) ∧ (∀ v, v < n → le9 v = (df_F n li r (fun _ => 0)).2.2.1 v)) (fun (u9 : (Nat → Int32) × (Nat → Int32) × (Nat → Int32)) (t : State) => match u9 with | (en9, le9, pi9) => va_P (dC, dI) vwCl (md_ws cJ cI h3 k3 o3 w3 v3 p3 e3 f3 q3 cd (nI n) (nI r) ex kn rc eg li so wi ew lo en9 le9 pi9) t.heap ∧ va_D (va_A (md_ws cJ cI h3 k3 o3 w3 v3 p3 e3 f3 q3 cd (nI n) (nI r) ex kn rc eg li so wi ew lo en le pi) hs) (md_ws cJ cI h3 k3 o3 w3 v3 p3 e3 f3 q3 cd (nI n) (nI r) ex kn rc eg li so wi ew lo en9 le9 pi9)) (va_A (md_ws cJ cI h3 k3 o3 w3 v3 p3 e3 f3 q3 cd (nI n) (nI r) ex kn rc eg li so wi ew lo en le pi) hs)) 0 0 (va_A (md_ws cJ cI h3 k3 o3 w3 v3 p3 e3 f3 q3 cd (nI n) (nI r) ex kn rc eg li so wi ew lo en le pi) hs) := by
  refine Met.ofW (cc := b_M_goOver) (maxL := 6) (ret := none) (by decide) rfl ?_
  intro p e s m args below meth c s₁ B hml hv9
  obtain ⟨rfl, hsz, ⟨hP, hK, hNw⟩, hD0⟩ := hv9
  have hx := B.exec
  have hb := B.bytes
  have hr := B.returns
  have hts := atoms_spec (ws := w_M_goOver) B.pre
  have hown : s.vm.findClass "FlowNestModel" = some m.cls := findClass_of_methodNamed B.named
  have hlocks := B.notSynchronized
  subst hsz
  have hD := hD0.self (sz := s.heap.size)
  generalize hAe : va_A (md_ws cJ cI h3 k3 o3 w3 v3 p3 e3 f3 q3 cd (nI n) (nI r) ex kn rc eg li so wi ew lo en le pi) s.heap.size = A at hD ⊢
  have hA : ∀ q : Nat, s.heap.size ≤ q → A q := fun q h => by rw [← hAe]; exact Or.inr h
  have hS : va_S A s.heap s.heap [] := va_S.rf
  have hP : va_P (dC, dI) vwCl (md_ws cJ cI h3 k3 o3 w3 v3 p3 e3 f3 q3 cd (nI n) (nI r) ex kn rc eg li so wi ew lo en le pi) s.heap := hP
  have hl := lv_entry ([.ref h3]) (n := 6) (Nat.le_of_ble_eq_true rfl)
  rw [lg_entry_eq]
  generalize (lg_sl ([.ref h3]) ++ List.replicate (6 - (lg_sl ([.ref h3])).length) Slot.unset).toArray = ls at hl ⊢
  have hl : lv_has ls 6 [(0, .ref h3)] := hl
  refine lv_iconst (v := nI 0) hx hb d_M_goOver_0 (by decide) ?_
  refine lv_istore_n (lv' := [(1, .int (nI 0)), (0, .ref h3)]) hx hb d_M_goOver_1 rfl hl (by decide) rfl (fun ls hl => ?_)
  rw [show en = fi_c en (-1) 0 from fi_0 en (-1), show le = fi_c le (-1) 0 from fi_0 le (-1)] at hP hD
  refine wl_loop (σ := Nat) (dC, dI) vwCl A 2 6 (fun (v : Nat) => [(0, .ref h3), (1, .int (nI v))]) (fun (v : Nat) => md_ws cJ cI h3 k3 o3 w3 v3 p3 e3 f3 q3 cd (nI n) (nI r) ex kn rc eg li so wi ew lo (fi_c en (-1) v) (fi_c le (-1) v) pi) (fun (v : Nat) => v ≤ n) (fun (v : Nat) => n - v) ?_ 0 (Nat.zero_le n) hP hD hS (lv_sub hl [1, 0] rfl)
  intro v hI ih H locs ls hP hD hS hl
  have hI : v ≤ n := hI
  have hP : va_P (dC, dI) vwCl (md_ws cJ cI h3 k3 o3 w3 v3 p3 e3 f3 q3 cd (nI n) (nI r) ex kn rc eg li so wi ew lo (fi_c en (-1) v) (fi_c le (-1) v) pi) H := hP
  have hD : va_D A (md_ws cJ cI h3 k3 o3 w3 v3 p3 e3 f3 q3 cd (nI n) (nI r) ex kn rc eg li so wi ew lo (fi_c en (-1) v) (fi_c le (-1) v) pi) := hD
  have hl : lv_has ls 6 [(0, .ref h3), (1, .int (nI v))] := hl
  refine lv_iload_n hx hb d_M_goOver_2 rfl (lv_at hl 1 rfl) ?_
  refine lv_aload_n hx hb d_M_goOver_3 rfl (lv_at hl 0 rfl) ?_
  refine va_get (D := (dC, dI)) (ci := 3) (v := .int (nI n)) (C := "FlowNestModel") (T := T_M) (N := 15) hx hb hts nm_iM hown hK hP 0 rfl rfl 1 (by decide) (hts _ (List.mem_cons_of_mem _ nm_415)) (fun _ h9 => h9) rfl d_M_goOver_4 ?_
  refine wl_ige (tgt := 30) hx hb (by omega) (by omega) d_M_goOver_7 (by decide) (fun hc7 => ?_) (fun hc7 => ?_)
  · refine lv_iconst (v := nI 1) hx hb d_M_goOver_30 (by decide) ?_
    refine lv_istore_n (lv' := [(1, .int (nI 1)), (0, .ref h3)]) hx hb d_M_goOver_31 rfl hl (by decide) rfl (fun ls hl => ?_)
    refine lv_iconst (v := nI 0) hx hb d_M_goOver_32 (by decide) ?_
    refine lv_istore_n (lv' := [(2, .int (nI 0)), (1, .int (nI 1)), (0, .ref h3)]) hx hb d_M_goOver_33 rfl hl (by decide) rfl (fun ls hl => ?_)
    refine lv_iconst (v := nI 1) hx hb d_M_goOver_34 (by decide) ?_
    refine lv_istore_n (lv' := [(3, .int (nI 1)), (2, .int (nI 0)), (1, .int (nI 1)), (0, .ref h3)]) hx hb d_M_goOver_35 rfl hl (by decide) rfl (fun ls hl => ?_)
    refine lv_aload_n hx hb d_M_goOver_36 rfl (lv_at hl 3 rfl) ?_
    refine va_get (D := (dC, dI)) (ci := 3) (v := .ref q3) (C := "FlowNestModel") (T := T_M) (N := 15) hx hb hts nm_iM hown hK hP 0 rfl rfl 14 (by decide) (hts _ (List.mem_cons_of_mem _ nm_428)) (fun _ h9 => h9) rfl d_M_goOver_37 ?_
    refine lv_iconst (v := nI 0) hx hb d_M_goOver_40 (by decide) ?_
    refine lv_aload_n hx hb d_M_goOver_41 rfl (lv_at hl 3 rfl) ?_
    refine va_get (D := (dC, dI)) (ci := 3) (v := .int (nI r)) (C := "FlowNestModel") (T := T_M) (N := 15) hx hb hts nm_iM hown hK hP 0 rfl rfl 2 (by decide) (hts _ (List.mem_cons_of_mem _ nm_416)) (fun _ h9 => h9) rfl d_M_goOver_42 ?_
    refine wl_iast (i := 0) hx hb hK hP hD hS 8 1 rfl rfl (by omega) (by decide) d_M_goOver_45 (fun H locs hP hD hS => ?_)
    have hP : va_P (dC, dI) vwCl (md_ws cJ cI h3 k3 o3 w3 v3 p3 e3 f3 q3 cd (nI n) (nI r) ex kn rc eg li so wi ew lo (fi_c en (-1) v) (fi_c le (-1) v) (upd pi 0 (nI r))) H := hP
    have hD : va_D A (md_ws cJ cI h3 k3 o3 w3 v3 p3 e3 f3 q3 cd (nI n) (nI r) ex kn rc eg li so wi ew lo (fi_c en (-1) v) (fi_c le (-1) v) (upd pi 0 (nI r))) := hD
    refine lv_aload_n hx hb d_M_goOver_46 rfl (lv_at hl 3 rfl) ?_
    refine va_get (D := (dC, dI)) (ci := 3) (v := .ref e3) (C := "FlowNestModel") (T := T_M) (N := 15) hx hb hts nm_iM hown hK hP 0 rfl rfl 12 (by decide) (hts _ (List.mem_cons_of_mem _ nm_426)) (fun _ h9 => h9) rfl d_M_goOver_47 ?_
    refine lv_aload_n hx hb d_M_goOver_50 rfl (lv_at hl 3 rfl) ?_
    refine va_get (D := (dC, dI)) (ci := 3) (v := .int (nI r)) (C := "FlowNestModel") (T := T_M) (N := 15) hx hb hts nm_iM hown hK hP 0 rfl rfl 2 (by decide) (hts _ (List.mem_cons_of_mem _ nm_416)) (fun _ h9 => h9) rfl d_M_goOver_51 ?_
    refine lv_iconst (v := nI 0) hx hb d_M_goOver_54 (by decide) ?_
    refine wl_iast (i := r) hx hb hK hP hD hS 6 1 rfl rfl (by omega) (by decide) d_M_goOver_55 (fun H locs hP hD hS => ?_)
    have hP : va_P (dC, dI) vwCl (md_ws cJ cI h3 k3 o3 w3 v3 p3 e3 f3 q3 cd (nI n) (nI r) ex kn rc eg li so wi ew lo (upd (fi_c en (-1) v) r (nI 0)) (fi_c le (-1) v) (upd pi 0 (nI r))) H := hP
    have hD : va_D A (md_ws cJ cI h3 k3 o3 w3 v3 p3 e3 f3 q3 cd (nI n) (nI r) ex kn rc eg li so wi ew lo (upd (fi_c en (-1) v) r (nI 0)) (fi_c le (-1) v) (upd pi 0 (nI r))) := hD
    refine wl_loop (σ := Nat × (Nat → Int32) × (Nat → Int32) × (Nat → Int32)) (dC, dI) vwCl A 56 6 (fun (x : Nat × (Nat → Int32) × (Nat → Int32) × (Nat → Int32)) => match x with | (k, E, F, T) => [(0, .ref h3), (1, .int (nI (df_it n li (df_0 r (fun _ => 0)) k).2.2.2.2.1)), (2, .int (nI (df_it n li (df_0 r (fun _ => 0)) k).2.2.2.2.2)), (3, .int (nI (df_it n li (df_0 r (fun _ => 0)) k).1.length))]) (fun (x : Nat × (Nat → Int32) × (Nat → Int32) × (Nat → Int32)) => match x with | (k, E, F, T) => md_ws cJ cI h3 k3 o3 w3 v3 p3 e3 f3 q3 cd (nI n) (nI r) ex kn rc eg li so wi ew lo E F T) (fun (x : Nat × (Nat → Int32) × (Nat → Int32) × (Nat → Int32)) => match x with | (k, E, F, T) => k ≤ 2 * n ∧ df_tr (df_it n li (df_0 r (fun _ => 0)) k).1 T ∧ (∀ x9, x9 < n → E x9 = (df_it n li (df_0 r (fun _ => 0)) k).2.1 x9) ∧ (∀ x9, x9 < n → F x9 = (df_it n li (df_0 r (fun _ => 0)) k).2.2.1 x9)) (fun (x : Nat × (Nat → Int32) × (Nat → Int32) × (Nat → Int32)) => match x with | (k, E, F, T) => 2 * n - k) ?_ (0, (upd (fi_c en (-1) v) r (nI 0)), (fi_c le (-1) v), (upd pi 0 (nI r))) (show 0 ≤ 2 * n ∧ df_tr (df_it n li (df_0 r (fun _ => 0)) 0).1 (upd pi 0 (nI r)) ∧ (∀ x9, x9 < n → (upd (fi_c en (-1) v) r (nI 0)) x9 = (df_it n li (df_0 r (fun _ => 0)) 0).2.1 x9) ∧ (∀ x9, x9 < n → (fi_c le (-1) v) x9 = (df_it n li (df_0 r (fun _ => 0)) 0).2.2.1 x9) from ⟨Nat.zero_le _, df_tr_1 r pi, by rw [show v = n by omega]; exact md_u0, by rw [show v = n by omega]; exact fi_e le (-1)⟩) hP hD hS (lv_sub hl [3, 2, 1, 0] rfl)
    intro x hI ih H locs ls hP hD hS hl
    obtain ⟨k, E, F, T⟩ := x
    have hI : k ≤ 2 * n ∧ df_tr (df_it n li (df_0 r (fun _ => 0)) k).1 T ∧ (∀ x9, x9 < n → E x9 = (df_it n li (df_0 r (fun _ => 0)) k).2.1 x9) ∧ (∀ x9, x9 < n → F x9 = (df_it n li (df_0 r (fun _ => 0)) k).2.2.1 x9) := hI
    have hP : va_P (dC, dI) vwCl (md_ws cJ cI h3 k3 o3 w3 v3 p3 e3 f3 q3 cd (nI n) (nI r) ex kn rc eg li so wi ew lo E F T) H := hP
    have hD : va_D A (md_ws cJ cI h3 k3 o3 w3 v3 p3 e3 f3 q3 cd (nI n) (nI r) ex kn rc eg li so wi ew lo E F T) := hD
    have hl : lv_has ls 6 [(0, .ref h3), (1, .int (nI (df_it n li (df_0 r (fun _ => 0)) k).2.2.2.2.1)), (2, .int (nI (df_it n li (df_0 r (fun _ => 0)) k).2.2.2.2.2)), (3, .int (nI (df_it n li (df_0 r (fun _ => 0)) k).1.length))] := hl
    have hIz := df_Iit (show n ≤ 64 by omega) hL hr9 (fun _ => 0) k
    have hcnt := df_cnt (n := n) (r := r) (L := li) (fun _ => 0) k
    rcases hz : df_it n li (df_0 r (fun _ => 0)) k with ⟨tl0, en1, lf1, bl1, a, g⟩
    rw [hz] at hl hI hIz hcnt
    have hl : lv_has ls 6 [(0, .ref h3), (1, .int (nI a)), (2, .int (nI g)), (3, .int (nI tl0.length))] := hl
    have hI : k ≤ 2 * n ∧ df_tr tl0 T ∧ (∀ v, v < n → E v = en1 v) ∧ (∀ v, v < n → F v = lf1 v) := hI
    have hcnt : tl0 = [] ∨ a + g = k + 1 := hcnt
    obtain ⟨d1, d2, d3, d4, d5, d6, d7, d8, d9, d10, d11⟩ := hIz
    have han : a ≤ n := by rw [d6]; exact ct_le _ _
    have hI0 := hI
    have ih0 := ih
    refine lv_iload_n hx hb d_M_goOver_56 rfl (lv_at hl 3 rfl) ?_
    refine wl_iflen (tgt := 164) hx hb (by omega) d_M_goOver_57 (by decide) (fun hc57 => ?_) (fun hc57 => ?_)
    · have hF : df_F n li r (fun _ => 0) = (tl0, en1, lf1, bl1, a, g) := (df_fin hI.1 (Or.inr (by rw [hz]; exact df_nil hc57))).trans hz
      exact W.vret hx hb hr (fun t ht hW => ⟨⟨(E, F, T), rfl, ⟨by rw [hF]; exact hI.2.2.1, by rw [hF]; exact hI.2.2.2⟩, by rw [ht]; exact hP, hD⟩, hS.F ht⟩) hS.2.2 d_M_goOver_164
    · obtain ⟨t, tl, rfl⟩ := df_cons hc57
      have hlen9 : (t :: tl).length = tl.length + 1 := rfl
      have ht := d1 t (by simp)
      have d7 : g + (tl.length + 1) = a := d7
      have hk9 : a + g = k + 1 := hcnt.resolve_left (fun q => by cases q)
      refine lv_aload_n hx hb d_M_goOver_60 rfl (lv_at hl 0 rfl) ?_
      refine va_get (D := (dC, dI)) (ci := 3) (v := .ref q3) (C := "FlowNestModel") (T := T_M) (N := 15) hx hb hts nm_iM hown hK hP 0 rfl rfl 14 (by decide) (hts _ (List.mem_cons_of_mem _ nm_428)) (fun _ h9 => h9) rfl d_M_goOver_61 ?_
      refine lv_iload_n hx hb d_M_goOver_64 rfl (lv_at hl 3 rfl) ?_
      refine lv_iconst (v := nI 1) hx hb d_M_goOver_65 (by decide) ?_
      refine wl_isubn hx hb (by omega) d_M_goOver_66 ?_
      refine wl_iald (i := (((t :: tl).length) - 1)) hx hb hK hP 8 1 rfl rfl (by omega) (by decide) d_M_goOver_67 ?_
      rw [show T (((t :: tl).length) - 1) = nI t from by rw [show ((t :: tl).length) - 1 = tl.length from rfl]; exact df_tr_top hI.2.1]
      refine lv_istore (lv' := [(4, .int (nI t)), (0, .ref h3), (1, .int (nI a)), (2, .int (nI g)), (3, .int (nI ((t :: tl).length)))]) hx hb d_M_goOver_68 hl (by decide) rfl (fun ls hl => ?_)
      refine lv_iconst (v := nI 0) hx hb d_M_goOver_70 (by decide) ?_
      refine lv_istore (lv' := [(5, .int (nI 0)), (4, .int (nI t)), (0, .ref h3), (1, .int (nI a)), (2, .int (nI g)), (3, .int (nI ((t :: tl).length)))]) hx hb d_M_goOver_71 hl (by decide) rfl (fun ls hl => ?_)
      refine wl_loop (σ := Nat) (dC, dI) vwCl A 73 6 (fun (w : Nat) => [(0, .ref h3), (1, .int (nI a)), (2, .int (nI g)), (3, .int (nI ((t :: tl).length))), (4, .int (nI t)), (5, .int (nI w))]) (fun (w : Nat) => md_ws cJ cI h3 k3 o3 w3 v3 p3 e3 f3 q3 cd (nI n) (nI r) ex kn rc eg li so wi ew lo E F T) (fun (w : Nat) => w ≤ n ∧ ∀ x, x < w → ¬ (bs_t (li t) x = true ∧ E x < 0)) (fun (w : Nat) => n - w) ?_ 0 (⟨Nat.zero_le n, fun x hx => by omega⟩) hP hD hS (lv_sub hl [2, 3, 4, 5, 1, 0] rfl)
      intro w hI ih H locs ls hP hD hS hl
      have hI : w ≤ n ∧ ∀ x, x < w → ¬ (bs_t (li t) x = true ∧ E x < 0) := hI
      have hP : va_P (dC, dI) vwCl (md_ws cJ cI h3 k3 o3 w3 v3 p3 e3 f3 q3 cd (nI n) (nI r) ex kn rc eg li so wi ew lo E F T) H := hP
      have hD : va_D A (md_ws cJ cI h3 k3 o3 w3 v3 p3 e3 f3 q3 cd (nI n) (nI r) ex kn rc eg li so wi ew lo E F T) := hD
      have hl : lv_has ls 6 [(0, .ref h3), (1, .int (nI a)), (2, .int (nI g)), (3, .int (nI ((t :: tl).length))), (4, .int (nI t)), (5, .int (nI w))] := hl
      refine lv_iload hx hb d_M_goOver_73 (lv_at hl 5 rfl) ?_
      refine lv_aload_n hx hb d_M_goOver_75 rfl (lv_at hl 0 rfl) ?_
      refine va_get (D := (dC, dI)) (ci := 3) (v := .int (nI n)) (C := "FlowNestModel") (T := T_M) (N := 15) hx hb hts nm_iM hown hK hP 0 rfl rfl 1 (by decide) (hts _ (List.mem_cons_of_mem _ nm_415)) (fun _ h9 => h9) rfl d_M_goOver_76 ?_
      refine wl_ige (tgt := 113) hx hb (by omega) (by omega) d_M_goOver_79 (by decide) (fun hc79 => ?_) (fun hc79 => ?_)
      · have hnx : df_nx n li en1 t = w := md_nx hI0.2.2.1 hI.1 hI.2 (fun q => absurd q (by omega))
        refine lv_iload hx hb d_M_goOver_113 (lv_at hl 5 rfl) ?_
        refine lv_aload_n hx hb d_M_goOver_115 rfl (lv_at hl 0 rfl) ?_
        refine va_get (D := (dC, dI)) (ci := 3) (v := .int (nI n)) (C := "FlowNestModel") (T := T_M) (N := 15) hx hb hts nm_iM hown hK hP 0 rfl rfl 1 (by decide) (hts _ (List.mem_cons_of_mem _ nm_415)) (fun _ h9 => h9) rfl d_M_goOver_116 ?_
        refine wl_ige (tgt := 147) hx hb (by omega) (by omega) d_M_goOver_119 (by decide) (fun hc119 => ?_) (fun hc119 => ?_)
        · have hz1 : df_it n li (df_0 r (fun _ => 0)) (k + 1) = (tl, en1, upd lf1 t (nI g), upd bl1 g (nI t), a, g + 1) := by rw [df_it_s, hz]; exact df_st_out (by rw [hnx]; omega)
          refine lv_aload_n hx hb d_M_goOver_147 rfl (lv_at hl 0 rfl) ?_
          refine va_get (D := (dC, dI)) (ci := 3) (v := .ref f3) (C := "FlowNestModel") (T := T_M) (N := 15) hx hb hts nm_iM hown hK hP 0 rfl rfl 13 (by decide) (hts _ (List.mem_cons_of_mem _ nm_427)) (fun _ h9 => h9) rfl d_M_goOver_148 ?_
          refine lv_iload hx hb d_M_goOver_151 (lv_at hl 4 rfl) ?_
          refine lv_iload_n hx hb d_M_goOver_153 rfl (lv_at hl 2 rfl) ?_
          refine wl_iast (i := t) hx hb hK hP hD hS 7 1 rfl rfl (by omega) (by decide) d_M_goOver_154 (fun H locs hP hD hS => ?_)
          have hP : va_P (dC, dI) vwCl (md_ws cJ cI h3 k3 o3 w3 v3 p3 e3 f3 q3 cd (nI n) (nI r) ex kn rc eg li so wi ew lo E (upd F t (nI g)) T) H := hP
          have hD : va_D A (md_ws cJ cI h3 k3 o3 w3 v3 p3 e3 f3 q3 cd (nI n) (nI r) ex kn rc eg li so wi ew lo E (upd F t (nI g)) T) := hD
          refine lv_iinc (lv' := [(2, .int (nI (g + 1))), (0, .ref h3), (1, .int (nI a)), (3, .int (nI ((t :: tl).length))), (4, .int (nI t)), (5, .int (nI w))]) (k := 2) (v := nI (g + 1)) hx hb d_M_goOver_155 hl rfl (nI_1 g) (by decide) rfl (fun ls hl => ?_)
          rw [show ((t :: tl).length) = tl.length + 1 from rfl] at hl
          refine lv_iinc (lv' := [(3, .int (nI tl.length)), (2, .int (nI (g + 1))), (0, .ref h3), (1, .int (nI a)), (4, .int (nI t)), (5, .int (nI w))]) (k := 3) (v := nI tl.length) hx hb d_M_goOver_158 hl rfl (pk_m1 tl.length) (by decide) rfl (fun ls hl => ?_)
          refine lv_goto (tgt := 56) hx hb d_M_goOver_161 (by decide) ?_
          exact ih0 ((k + 1), E, (upd F t (nI g)), T) (show (k + 1) ≤ 2 * n ∧ df_tr (df_it n li (df_0 r (fun _ => 0)) (k + 1)).1 T ∧ (∀ x9, x9 < n → E x9 = (df_it n li (df_0 r (fun _ => 0)) (k + 1)).2.1 x9) ∧ (∀ x9, x9 < n → (upd F t (nI g)) x9 = (df_it n li (df_0 r (fun _ => 0)) (k + 1)).2.2.1 x9) from by rw [hz1]; exact ⟨by omega, df_tr_pop hI0.2.1, hI0.2.2.1, md_ug hI0.2.2.2⟩) (show 2 * n - (k + 1) < 2 * n - k by omega) _ _ _ hP hD hS (by show lv_has ls 6 [(0, .ref h3), (1, .int (nI (df_it n li (df_0 r (fun _ => 0)) (k + 1)).2.2.2.2.1)), (2, .int (nI (df_it n li (df_0 r (fun _ => 0)) (k + 1)).2.2.2.2.2)), (3, .int (nI (df_it n li (df_0 r (fun _ => 0)) (k + 1)).1.length))]; rw [hz1]; exact lv_sub hl [2, 3, 1, 0] rfl)
        · exact absurd hc119 (by omega)
      · refine lv_aload_n hx hb d_M_goOver_82 rfl (lv_at hl 0 rfl) ?_
        refine va_get (D := (dC, dI)) (ci := 3) (v := .ref k3) (C := "FlowNestModel") (T := T_M) (N := 15) hx hb hts nm_iM hown hK hP 0 rfl rfl 4 (by decide) (hts _ (List.mem_cons_of_mem _ nm_418)) (fun _ h9 => h9) rfl d_M_goOver_83 ?_
        refine lv_iload hx hb d_M_goOver_86 (lv_at hl 4 rfl) ?_
        refine wl_lald (i := t) hx hb hK hP 1 0 rfl rfl (by omega) (by decide) d_M_goOver_88 ?_
        refine lv_iload hx hb d_M_goOver_89 (lv_at hl 5 rfl) ?_
        refine vp_callSi (va_Run.run (va_runS (As := [.long (li t), .int (nI w)]) (rest := []) ⟨hx, hb, hml, hown, hts⟩ (c_M_has l (li t) w (by omega)) (va_cwS 2 hts (nm_gS nm_476 nm_477 nm_4 nm_c_M_has) rfl rfl rfl (by decide +kernel) ⟨Nat.le_of_ble_eq_true rfl, Nat.le_of_ble_eq_true rfl⟩) ⟨fun _ _ _ _ q => ⟨q.1, trivial⟩, fun U hU hW => ⟨rfl, trivial⟩⟩ rfl rfl hl.1 rfl (lv_room (Nat.le_of_ble_eq_true rfl)) d_M_goOver_91 ⟨Nat.zero_le _, Nat.zero_le _⟩)) (fun r hr => ?_)
        subst hr
        refine wl_ifeqb (tgt := 107) hx hb d_M_goOver_94 (by decide) (fun hc94 => ?_) (fun hc94 => ?_)
        · refine lv_iinc (lv' := [(5, .int (nI (w + 1))), (0, .ref h3), (1, .int (nI a)), (2, .int (nI g)), (3, .int (nI ((t :: tl).length))), (4, .int (nI t))]) (k := 5) (v := nI (w + 1)) hx hb d_M_goOver_107 hl rfl (nI_1 w) (by decide) rfl (fun ls hl => ?_)
          refine lv_goto (tgt := 73) hx hb d_M_goOver_110 (by decide) ?_
          exact ih (w + 1) (show w + 1 ≤ n ∧ ∀ x, x < w + 1 → ¬ (bs_t (li t) x = true ∧ E x < 0) from ⟨by omega, lt_s hI.2 (fun q => by rw [q.1] at hc94; cases hc94)⟩) (show n - (w + 1) < n - w by omega) _ _ _ hP hD hS (lv_sub hl [1, 2, 3, 4, 5, 0] rfl)
        · refine lv_aload_n hx hb d_M_goOver_97 rfl (lv_at hl 0 rfl) ?_
          refine va_get (D := (dC, dI)) (ci := 3) (v := .ref e3) (C := "FlowNestModel") (T := T_M) (N := 15) hx hb hts nm_iM hown hK hP 0 rfl rfl 12 (by decide) (hts _ (List.mem_cons_of_mem _ nm_426)) (fun _ h9 => h9) rfl d_M_goOver_98 ?_
          refine lv_iload hx hb d_M_goOver_101 (lv_at hl 5 rfl) ?_
          refine wl_iald (i := w) hx hb hK hP 6 1 rfl rfl (by omega) (by decide) d_M_goOver_103 ?_
          refine lv_if_lt (tgt := 113) hx hb d_M_goOver_104 (by decide) (fun hc104 => ?_) (fun hc104 => ?_)
          · have hnx : df_nx n li en1 t = w := md_nx hI0.2.2.1 hI.1 hI.2 (fun _ => ⟨hc94, hc104⟩)
            refine lv_iload hx hb d_M_goOver_113 (lv_at hl 5 rfl) ?_
            refine lv_aload_n hx hb d_M_goOver_115 rfl (lv_at hl 0 rfl) ?_
            refine va_get (D := (dC, dI)) (ci := 3) (v := .int (nI n)) (C := "FlowNestModel") (T := T_M) (N := 15) hx hb hts nm_iM hown hK hP 0 rfl rfl 1 (by decide) (hts _ (List.mem_cons_of_mem _ nm_415)) (fun _ h9 => h9) rfl d_M_goOver_116 ?_
            refine wl_ige (tgt := 147) hx hb (by omega) (by omega) d_M_goOver_119 (by decide) (fun hc119 => ?_) (fun hc119 => ?_)
            · exact absurd hc119 (by omega)
            · have hz1 : df_it n li (df_0 r (fun _ => 0)) (k + 1) = (w :: t :: tl, upd en1 w (nI a), lf1, bl1, a + 1, g) := by rw [df_it_s, hz]; exact df_st_in hc119 hnx.symm
              have hI1 := df_Iit (show n ≤ 64 by omega) hL hr9 (fun _ => 0) (k + 1)
              rw [hz1] at hI1
              have han1 : a + 1 ≤ n := by rw [hI1.2.2.2.2.2.1]; exact ct_le _ _
              refine lv_aload_n hx hb d_M_goOver_122 rfl (lv_at hl 0 rfl) ?_
              refine va_get (D := (dC, dI)) (ci := 3) (v := .ref e3) (C := "FlowNestModel") (T := T_M) (N := 15) hx hb hts nm_iM hown hK hP 0 rfl rfl 12 (by decide) (hts _ (List.mem_cons_of_mem _ nm_426)) (fun _ h9 => h9) rfl d_M_goOver_123 ?_
              refine lv_iload hx hb d_M_goOver_126 (lv_at hl 5 rfl) ?_
              refine lv_iload_n hx hb d_M_goOver_128 rfl (lv_at hl 1 rfl) ?_
              refine wl_iast (i := w) hx hb hK hP hD hS 6 1 rfl rfl (by omega) (by decide) d_M_goOver_129 (fun H locs hP hD hS => ?_)
              have hP : va_P (dC, dI) vwCl (md_ws cJ cI h3 k3 o3 w3 v3 p3 e3 f3 q3 cd (nI n) (nI r) ex kn rc eg li so wi ew lo (upd E w (nI a)) F T) H := hP
              have hD : va_D A (md_ws cJ cI h3 k3 o3 w3 v3 p3 e3 f3 q3 cd (nI n) (nI r) ex kn rc eg li so wi ew lo (upd E w (nI a)) F T) := hD
              refine lv_iinc (lv' := [(1, .int (nI (a + 1))), (0, .ref h3), (2, .int (nI g)), (3, .int (nI ((t :: tl).length))), (4, .int (nI t)), (5, .int (nI w))]) (k := 1) (v := nI (a + 1)) hx hb d_M_goOver_130 hl rfl (nI_1 a) (by decide) rfl (fun ls hl => ?_)
              refine lv_aload_n hx hb d_M_goOver_133 rfl (lv_at hl 1 rfl) ?_
              refine va_get (D := (dC, dI)) (ci := 3) (v := .ref q3) (C := "FlowNestModel") (T := T_M) (N := 15) hx hb hts nm_iM hown hK hP 0 rfl rfl 14 (by decide) (hts _ (List.mem_cons_of_mem _ nm_428)) (fun _ h9 => h9) rfl d_M_goOver_134 ?_
              refine lv_iload_n hx hb d_M_goOver_137 rfl (lv_at hl 3 rfl) ?_
              refine lv_iload hx hb d_M_goOver_138 (lv_at hl 5 rfl) ?_
              refine wl_iast (i := ((t :: tl).length)) hx hb hK hP hD hS 8 1 rfl rfl (by omega) (by decide) d_M_goOver_140 (fun H locs hP hD hS => ?_)
              have hP : va_P (dC, dI) vwCl (md_ws cJ cI h3 k3 o3 w3 v3 p3 e3 f3 q3 cd (nI n) (nI r) ex kn rc eg li so wi ew lo (upd E w (nI a)) F (upd T ((t :: tl).length) (nI w))) H := hP
              have hD : va_D A (md_ws cJ cI h3 k3 o3 w3 v3 p3 e3 f3 q3 cd (nI n) (nI r) ex kn rc eg li so wi ew lo (upd E w (nI a)) F (upd T ((t :: tl).length) (nI w))) := hD
              refine lv_iinc (lv' := [(3, .int (nI (((t :: tl).length) + 1))), (1, .int (nI (a + 1))), (0, .ref h3), (2, .int (nI g)), (4, .int (nI t)), (5, .int (nI w))]) (k := 3) (v := nI (((t :: tl).length) + 1)) hx hb d_M_goOver_141 hl rfl (nI_1 ((t :: tl).length)) (by decide) rfl (fun ls hl => ?_)
              refine lv_goto (tgt := 161) hx hb d_M_goOver_144 (by decide) ?_
              refine lv_goto (tgt := 56) hx hb d_M_goOver_161 (by decide) ?_
              exact ih0 ((k + 1), (upd E w (nI a)), F, (upd T ((t :: tl).length) (nI w))) (show (k + 1) ≤ 2 * n ∧ df_tr (df_it n li (df_0 r (fun _ => 0)) (k + 1)).1 (upd T ((t :: tl).length) (nI w)) ∧ (∀ x9, x9 < n → (upd E w (nI a)) x9 = (df_it n li (df_0 r (fun _ => 0)) (k + 1)).2.1 x9) ∧ (∀ x9, x9 < n → F x9 = (df_it n li (df_0 r (fun _ => 0)) (k + 1)).2.2.1 x9) from by rw [hz1]; exact ⟨by omega, df_tr_push hI0.2.1, md_ug hI0.2.2.1, hI0.2.2.2⟩) (show 2 * n - (k + 1) < 2 * n - k by omega) _ _ _ hP hD hS (by show lv_has ls 6 [(0, .ref h3), (1, .int (nI (df_it n li (df_0 r (fun _ => 0)) (k + 1)).2.2.2.2.1)), (2, .int (nI (df_it n li (df_0 r (fun _ => 0)) (k + 1)).2.2.2.2.2)), (3, .int (nI (df_it n li (df_0 r (fun _ => 0)) (k + 1)).1.length))]; rw [hz1]; exact lv_sub hl [2, 1, 3, 0] rfl)
          · refine lv_iinc (lv' := [(5, .int (nI (w + 1))), (0, .ref h3), (1, .int (nI a)), (2, .int (nI g)), (3, .int (nI ((t :: tl).length))), (4, .int (nI t))]) (k := 5) (v := nI (w + 1)) hx hb d_M_goOver_107 hl rfl (nI_1 w) (by decide) rfl (fun ls hl => ?_)
            refine lv_goto (tgt := 73) hx hb d_M_goOver_110 (by decide) ?_
            exact ih (w + 1) (show w + 1 ≤ n ∧ ∀ x, x < w + 1 → ¬ (bs_t (li t) x = true ∧ E x < 0) from ⟨by omega, lt_s hI.2 (fun q => hc104 q.2)⟩) (show n - (w + 1) < n - w by omega) _ _ _ hP hD hS (lv_sub hl [1, 2, 3, 4, 5, 0] rfl)
  · refine lv_aload_n hx hb d_M_goOver_10 rfl (lv_at hl 0 rfl) ?_
    refine va_get (D := (dC, dI)) (ci := 3) (v := .ref e3) (C := "FlowNestModel") (T := T_M) (N := 15) hx hb hts nm_iM hown hK hP 0 rfl rfl 12 (by decide) (hts _ (List.mem_cons_of_mem _ nm_426)) (fun _ h9 => h9) rfl d_M_goOver_11 ?_
    refine lv_iload_n hx hb d_M_goOver_14 rfl (lv_at hl 1 rfl) ?_
    refine lv_iconst (v := -1) hx hb d_M_goOver_15 (by decide) ?_
    refine wl_iast (i := v) hx hb hK hP hD hS 6 1 rfl rfl (by omega) (by decide) d_M_goOver_16 (fun H locs hP hD hS => ?_)
    have hP : va_P (dC, dI) vwCl (md_ws cJ cI h3 k3 o3 w3 v3 p3 e3 f3 q3 cd (nI n) (nI r) ex kn rc eg li so wi ew lo (upd (fi_c en (-1) v) v (-1)) (fi_c le (-1) v) pi) H := hP
    have hD : va_D A (md_ws cJ cI h3 k3 o3 w3 v3 p3 e3 f3 q3 cd (nI n) (nI r) ex kn rc eg li so wi ew lo (upd (fi_c en (-1) v) v (-1)) (fi_c le (-1) v) pi) := hD
    refine lv_aload_n hx hb d_M_goOver_17 rfl (lv_at hl 0 rfl) ?_
    refine va_get (D := (dC, dI)) (ci := 3) (v := .ref f3) (C := "FlowNestModel") (T := T_M) (N := 15) hx hb hts nm_iM hown hK hP 0 rfl rfl 13 (by decide) (hts _ (List.mem_cons_of_mem _ nm_427)) (fun _ h9 => h9) rfl d_M_goOver_18 ?_
    refine lv_iload_n hx hb d_M_goOver_21 rfl (lv_at hl 1 rfl) ?_
    refine lv_iconst (v := -1) hx hb d_M_goOver_22 (by decide) ?_
    refine wl_iast (i := v) hx hb hK hP hD hS 7 1 rfl rfl (by omega) (by decide) d_M_goOver_23 (fun H locs hP hD hS => ?_)
    have hP : va_P (dC, dI) vwCl (md_ws cJ cI h3 k3 o3 w3 v3 p3 e3 f3 q3 cd (nI n) (nI r) ex kn rc eg li so wi ew lo (upd (fi_c en (-1) v) v (-1)) (upd (fi_c le (-1) v) v (-1)) pi) H := hP
    have hD : va_D A (md_ws cJ cI h3 k3 o3 w3 v3 p3 e3 f3 q3 cd (nI n) (nI r) ex kn rc eg li so wi ew lo (upd (fi_c en (-1) v) v (-1)) (upd (fi_c le (-1) v) v (-1)) pi) := hD
    refine lv_iinc (lv' := [(1, .int (nI (v + 1))), (0, .ref h3)]) (k := 1) (v := nI (v + 1)) hx hb d_M_goOver_24 hl rfl (nI_1 v) (by decide) rfl (fun ls hl => ?_)
    refine lv_goto (tgt := 2) hx hb d_M_goOver_27 (by decide) ?_
    rw [fi_s, fi_s] at hP hD
    exact ih (v + 1) (show v + 1 ≤ n by omega) (show n - (v + 1) < n - v by omega) _ _ _ hP hD hS (lv_sub hl [1, 0] rfl)
