/-! contracts of the leaves (laid by wip/gen/leaf.py) -/
theorem bs_i_t {b : Bool} (h : ¬ b = false) : bs_i b = nI 1 := by cases b <;> first | rfl | exact absurd rfl h
theorem bs_i_f {b : Bool} (h : b = false) : bs_i b = nI 0 := by rw [h]; rfl
set_option maxHeartbeats 4000000 in
set_option maxRecDepth 100000 in
theorem c_B_bitCount (l : Launch) (x : Int64) : Met l y_B_bitCount w_B_bitCount ({ frames := 0, cells := 0, slots := 0, locals := 0 }) (va_Pc [.long x] (fun _ => True)) (vp_Si (fun r => r = nI (bs_c x))) 0 0 (fun _ => False) := by
  refine Met.ofW (cc := b_B_bitCount) (maxL := 2) (ret := (some .int)) (by decide) rfl ?_
  intro p e s m args below meth c s₁ B hml hv9
  obtain ⟨rfl, -⟩ := hv9
  have hx := B.exec
  have hb := B.bytes
  have hr := B.returns
  have hts := atoms_spec (ws := w_B_bitCount) B.pre
  have hown : s.vm.findClass "java/lang/Long" = some m.cls := findClass_of_methodNamed B.named
  have hlocks := B.notSynchronized
  have hl := lv_entry ([.long x]) (n := 2) (Nat.le_of_ble_eq_true rfl)
  rw [lg_entry_eq]
  generalize (lg_sl ([.long x]) ++ List.replicate (2 - (lg_sl ([.long x])).length) Slot.unset).toArray = ls at hl ⊢
  have hl : lv_has ls 2 [(0, .long x)] := hl
  refine lv_lload_n hx hb d_B_bitCount_0 rfl (lv_at hl 0 rfl) ?_
  refine lv_lload_n hx hb d_B_bitCount_1 rfl (lv_at hl 0 rfl) ?_
  refine lv_iconst (v := nI 1) hx hb d_B_bitCount_2 (by decide) ?_
  refine lv_lushr (v := bs_ush x (nI 1)) hx hb d_B_bitCount_3 rfl ?_
  refine lv_ldc2 (v := 6148914691236517205) hx hb hown (hts _ (List.mem_cons_of_mem _ nm_129)) d_B_bitCount_4 ?_
  refine lv_land hx hb d_B_bitCount_7 ?_
  refine lv_lsub hx hb d_B_bitCount_8 ?_
  refine W.eq (g2 := F0 m 9 ls [.long (bs_p1 x)]) rfl ?_
  refine lv_lstore_n (lv' := [(0, .long (bs_p1 x))]) hx hb d_B_bitCount_9 rfl hl (by decide) rfl (fun ls hl => ?_)
  refine lv_lload_n hx hb d_B_bitCount_10 rfl (lv_at hl 0 rfl) ?_
  refine lv_ldc2 (v := 3689348814741910323) hx hb hown (hts _ (List.mem_cons_of_mem _ nm_130)) d_B_bitCount_11 ?_
  refine lv_land hx hb d_B_bitCount_14 ?_
  refine lv_lload_n hx hb d_B_bitCount_15 rfl (lv_at hl 0 rfl) ?_
  refine lv_iconst (v := nI 2) hx hb d_B_bitCount_16 (by decide) ?_
  refine lv_lushr (v := bs_ush (bs_p1 x) (nI 2)) hx hb d_B_bitCount_17 rfl ?_
  refine lv_ldc2 (v := 3689348814741910323) hx hb hown (hts _ (List.mem_cons_of_mem _ nm_130)) d_B_bitCount_18 ?_
  refine lv_land hx hb d_B_bitCount_21 ?_
  refine lv_ladd hx hb d_B_bitCount_22 ?_
  refine W.eq (g2 := F0 m 23 ls [.long (bs_p2 (bs_p1 x))]) rfl ?_
  refine lv_lstore_n (lv' := [(0, .long (bs_p2 (bs_p1 x)))]) hx hb d_B_bitCount_23 rfl hl (by decide) rfl (fun ls hl => ?_)
  refine lv_lload_n hx hb d_B_bitCount_24 rfl (lv_at hl 0 rfl) ?_
  refine lv_lload_n hx hb d_B_bitCount_25 rfl (lv_at hl 0 rfl) ?_
  refine lv_iconst (v := nI 4) hx hb d_B_bitCount_26 (by decide) ?_
  refine lv_lushr (v := bs_ush (bs_p2 (bs_p1 x)) (nI 4)) hx hb d_B_bitCount_27 rfl ?_
  refine lv_ladd hx hb d_B_bitCount_28 ?_
  refine lv_ldc2 (v := 1085102592571150095) hx hb hown (hts _ (List.mem_cons_of_mem _ nm_131)) d_B_bitCount_29 ?_
  refine lv_land hx hb d_B_bitCount_32 ?_
  refine W.eq (g2 := F0 m 33 ls [.long (bs_p3 (bs_p2 (bs_p1 x)))]) rfl ?_
  refine lv_lstore_n (lv' := [(0, .long (bs_p3 (bs_p2 (bs_p1 x))))]) hx hb d_B_bitCount_33 rfl hl (by decide) rfl (fun ls hl => ?_)
  refine lv_lload_n hx hb d_B_bitCount_34 rfl (lv_at hl 0 rfl) ?_
  refine lv_lload_n hx hb d_B_bitCount_35 rfl (lv_at hl 0 rfl) ?_
  refine lv_bipush (v := nI 8) hx hb d_B_bitCount_36 (by decide) ?_
  refine lv_lushr (v := bs_ush (bs_p3 (bs_p2 (bs_p1 x))) (nI 8)) hx hb d_B_bitCount_38 rfl ?_
  refine lv_ladd hx hb d_B_bitCount_39 ?_
  refine W.eq (g2 := F0 m 40 ls [.long (bs_p4 (bs_p3 (bs_p2 (bs_p1 x))))]) rfl ?_
  refine lv_lstore_n (lv' := [(0, .long (bs_p4 (bs_p3 (bs_p2 (bs_p1 x)))))]) hx hb d_B_bitCount_40 rfl hl (by decide) rfl (fun ls hl => ?_)
  refine lv_lload_n hx hb d_B_bitCount_41 rfl (lv_at hl 0 rfl) ?_
  refine lv_lload_n hx hb d_B_bitCount_42 rfl (lv_at hl 0 rfl) ?_
  refine lv_bipush (v := nI 16) hx hb d_B_bitCount_43 (by decide) ?_
  refine lv_lushr (v := bs_ush (bs_p4 (bs_p3 (bs_p2 (bs_p1 x)))) (nI 16)) hx hb d_B_bitCount_45 rfl ?_
  refine lv_ladd hx hb d_B_bitCount_46 ?_
  refine W.eq (g2 := F0 m 47 ls [.long (bs_p5 (bs_p4 (bs_p3 (bs_p2 (bs_p1 x)))))]) rfl ?_
  refine lv_lstore_n (lv' := [(0, .long (bs_p5 (bs_p4 (bs_p3 (bs_p2 (bs_p1 x))))))]) hx hb d_B_bitCount_47 rfl hl (by decide) rfl (fun ls hl => ?_)
  refine lv_lload_n hx hb d_B_bitCount_48 rfl (lv_at hl 0 rfl) ?_
  refine lv_lload_n hx hb d_B_bitCount_49 rfl (lv_at hl 0 rfl) ?_
  refine lv_bipush (v := nI 32) hx hb d_B_bitCount_50 (by decide) ?_
  refine lv_lushr (v := bs_ush (bs_p5 (bs_p4 (bs_p3 (bs_p2 (bs_p1 x))))) (nI 32)) hx hb d_B_bitCount_52 rfl ?_
  refine lv_ladd hx hb d_B_bitCount_53 ?_
  refine W.eq (g2 := F0 m 54 ls [.long (bs_p6 (bs_p5 (bs_p4 (bs_p3 (bs_p2 (bs_p1 x))))))]) rfl ?_
  refine lv_lstore_n (lv' := [(0, .long (bs_p6 (bs_p5 (bs_p4 (bs_p3 (bs_p2 (bs_p1 x)))))))]) hx hb d_B_bitCount_54 rfl hl (by decide) rfl (fun ls hl => ?_)
  refine lv_lload_n hx hb d_B_bitCount_55 rfl (lv_at hl 0 rfl) ?_
  refine lv_l2i (v := (bs_p6 (bs_p5 (bs_p4 (bs_p3 (bs_p2 (bs_p1 x)))))).toInt32) hx hb d_B_bitCount_56 rfl ?_
  refine lv_bipush (v := nI 127) hx hb d_B_bitCount_57 (by decide) ?_
  refine lv_iand hx hb d_B_bitCount_59 ?_
  exact W.iret (v := ((bs_p6 (bs_p5 (bs_p4 (bs_p3 (bs_p2 (bs_p1 x)))))).toInt32) &&& (nI 127)) hx hb hr (fun t ht hW => ⟨_, rfl, bs_pop_eq x, ht⟩) (fun _ h => nomatch h) d_B_bitCount_60
set_option maxHeartbeats 4000000 in
set_option maxRecDepth 100000 in
theorem c_F_bit (l : Launch) (v : Nat) : Met l y_F_bit w_F_bit ({ frames := 0, cells := 0, slots := 0, locals := 0 }) (va_Pc [.int (nI v)] (fun _ => True)) (vp_Sl (fun r => r = bs_b v)) 0 0 (fun _ => False) := by
  refine Met.ofW (cc := b_F_bit) (maxL := 1) (ret := (some .long)) (by decide) rfl ?_
  intro p e s m args below meth c s₁ B hml hv9
  obtain ⟨rfl, -⟩ := hv9
  have hx := B.exec
  have hb := B.bytes
  have hr := B.returns
  have hts := atoms_spec (ws := w_F_bit) B.pre
  have hown : s.vm.findClass "FlowNest" = some m.cls := findClass_of_methodNamed B.named
  have hlocks := B.notSynchronized
  have hl := lv_entry ([.int (nI v)]) (n := 1) (Nat.le_of_ble_eq_true rfl)
  rw [lg_entry_eq]
  generalize (lg_sl ([.int (nI v)]) ++ List.replicate (1 - (lg_sl ([.int (nI v)])).length) Slot.unset).toArray = ls at hl ⊢
  have hl : lv_has ls 1 [(0, .int (nI v))] := hl
  refine lv_lconst (v := 1) hx hb d_F_bit_0 (by decide) ?_
  refine lv_iload_n hx hb d_F_bit_1 rfl (lv_at hl 0 rfl) ?_
  refine lv_lshl (v := bs_b v) hx hb d_F_bit_2 rfl ?_
  exact W.lret (v := bs_b v) hx hb hr (fun t ht hW => ⟨_, rfl, rfl, ht⟩) (fun _ h => nomatch h) d_F_bit_3
set_option maxHeartbeats 4000000 in
set_option maxRecDepth 100000 in
theorem c_F_has (l : Launch) (x : Int64) (v : Nat) (hv : v < 64) : Met l y_F_has w_F_has ({ frames := 1, cells := 0, slots := 0, locals := 20 }) (va_Pc [.long x, .int (nI v)] (fun _ => True)) (vp_Si (fun r => r = bs_i (bs_t x v))) 0 0 (fun _ => False) := by
  refine Met.ofW (cc := b_F_has) (maxL := 3) (ret := (some .boolean)) (by decide) rfl ?_
  intro p e s m args below meth c s₁ B hml hv9
  obtain ⟨rfl, -⟩ := hv9
  have hx := B.exec
  have hb := B.bytes
  have hr := B.returns
  have hts := atoms_spec (ws := w_F_has) B.pre
  have hown : s.vm.findClass "FlowNest" = some m.cls := findClass_of_methodNamed B.named
  have hlocks := B.notSynchronized
  have hl := lv_entry ([.long x, .int (nI v)]) (n := 3) (Nat.le_of_ble_eq_true rfl)
  rw [lg_entry_eq]
  generalize (lg_sl ([.long x, .int (nI v)]) ++ List.replicate (3 - (lg_sl ([.long x, .int (nI v)])).length) Slot.unset).toArray = ls at hl ⊢
  have hl : lv_has ls 3 [(0, .long x), (2, .int (nI v))] := hl
  refine lv_lload_n hx hb d_F_has_0 rfl (lv_at hl 0 rfl) ?_
  refine lv_iload_n hx hb d_F_has_1 rfl (lv_at hl 1 rfl) ?_
  refine vp_callSl (va_Run.run (va_runS (As := [.int (nI v)]) (rest := [.long x]) ⟨hx, hb, hml, hown, hts⟩ (c_F_bit l v) (va_cwS 1 hts (nm_gS nm_139 nm_119 nm_1 nm_c_F_bit) rfl rfl rfl (by decide +kernel) ⟨Nat.le_of_ble_eq_true rfl, Nat.le_of_ble_eq_true rfl⟩) ⟨fun _ _ _ _ q => ⟨q.1, trivial⟩, fun U hU hW => ⟨rfl, trivial⟩⟩ rfl rfl hl.1 rfl (lv_room (Nat.le_of_ble_eq_true rfl)) d_F_has_2 ⟨Nat.zero_le _, Nat.zero_le _⟩)) (fun r hr => ?_)
  subst hr
  refine lv_land hx hb d_F_has_5 ?_
  refine lv_lconst (v := 0) hx hb d_F_has_6 (by decide) ?_
  refine wl_lcmpeq (tgt := 15) hx hb d_F_has_7 d_F_has_8 (by decide) (fun hc7 => ?_) (fun hc7 => ?_)
  · refine lv_iconst (v := nI 0) hx hb d_F_has_15 (by decide) ?_
    exact W.zret (v := nI 0) hx hb hr (by decide) (fun t ht hW => ⟨_, rfl, (bs_i_f ((bs_has hv).mp hc7)).symm, ht⟩) (fun _ h => nomatch h) d_F_has_16
  · refine lv_iconst (v := nI 1) hx hb d_F_has_11 (by decide) ?_
    refine lv_goto (tgt := 16) hx hb d_F_has_12 (by decide) ?_
    exact W.zret (v := nI 1) hx hb hr (by decide) (fun t ht hW => ⟨_, rfl, (bs_i_t (fun q => hc7 ((bs_has hv).mpr q))).symm, ht⟩) (fun _ h => nomatch h) d_F_has_16
set_option maxHeartbeats 4000000 in
set_option maxRecDepth 100000 in
theorem c_F_following (l : Launch) (x : Int64) (v : Int32) (k : Nat) (hk : v + 1 = nI k) (h64 : k < 64) : Met l y_F_following w_F_following ({ frames := 1, cells := 0, slots := 0, locals := 21 }) (va_Pc [.long x, .int v] (fun _ => True)) (vp_Si (fun r => r = nI (bs_fo x k))) 0 0 (fun _ => False) := by
  refine Met.ofW (cc := b_F_following) (maxL := 5) (ret := (some .int)) (by decide) rfl ?_
  intro p e s m args below meth c s₁ B hml hv9
  obtain ⟨rfl, -⟩ := hv9
  have hx := B.exec
  have hb := B.bytes
  have hr := B.returns
  have hts := atoms_spec (ws := w_F_following) B.pre
  have hown : s.vm.findClass "FlowNest" = some m.cls := findClass_of_methodNamed B.named
  have hlocks := B.notSynchronized
  have hl := lv_entry ([.long x, .int v]) (n := 5) (Nat.le_of_ble_eq_true rfl)
  rw [lg_entry_eq]
  generalize (lg_sl ([.long x, .int v]) ++ List.replicate (5 - (lg_sl ([.long x, .int v])).length) Slot.unset).toArray = ls at hl ⊢
  have hl : lv_has ls 5 [(0, .long x), (2, .int v)] := hl
  refine lv_lload_n hx hb d_F_following_0 rfl (lv_at hl 0 rfl) ?_
  refine lv_ldc2 (v := -1) hx hb hown (hts _ (List.mem_cons_of_mem _ nm_125)) d_F_following_1 ?_
  refine lv_iload_n hx hb d_F_following_4 rfl (lv_at hl 1 rfl) ?_
  refine lv_iconst (v := nI 1) hx hb d_F_following_5 (by decide) ?_
  refine lv_iadd hx hb d_F_following_6 ?_
  rw [show v + nI 1 = nI k from hk]
  refine lv_lshl (v := (-1) <<< ((nI k).toInt64 &&& 63)) hx hb d_F_following_7 rfl ?_
  refine lv_land hx hb d_F_following_8 ?_
  refine lv_lstore_n (lv' := [(3, .long (x &&& ((-1) <<< ((nI k).toInt64 &&& 63)))), (0, .long x), (2, .int v)]) hx hb d_F_following_9 rfl hl (by decide) rfl (fun ls hl => ?_)
  refine lv_lload_n hx hb d_F_following_10 rfl (lv_at hl 0 rfl) ?_
  refine lv_lload_n hx hb d_F_following_11 rfl (lv_at hl 0 rfl) ?_
  refine lv_lneg hx hb d_F_following_12 ?_
  refine lv_land hx hb d_F_following_13 ?_
  refine lv_lconst (v := 1) hx hb d_F_following_14 (by decide) ?_
  refine lv_lsub hx hb d_F_following_15 ?_
  refine vp_callSi (va_Run.run (va_runS (As := [.long (((x &&& ((-1) <<< ((nI k).toInt64 &&& 63))) &&& (-(x &&& ((-1) <<< ((nI k).toInt64 &&& 63))))) - 1)]) (rest := []) ⟨hx, hb, hml, hown, hts⟩ (c_B_bitCount l (((x &&& ((-1) <<< ((nI k).toInt64 &&& 63))) &&& (-(x &&& ((-1) <<< ((nI k).toInt64 &&& 63))))) - 1)) (va_cwS 1 hts (nm_gS nm_126 nm_127 nm_11 nm_c_B_bitCount) rfl rfl rfl (by decide +kernel) ⟨Nat.le_of_ble_eq_true rfl, Nat.le_of_ble_eq_true rfl⟩) ⟨fun _ _ _ _ q => ⟨q.1, trivial⟩, fun U hU hW => ⟨rfl, trivial⟩⟩ rfl rfl hl.1 rfl (lv_room (Nat.le_of_ble_eq_true rfl)) d_F_following_16 ⟨Nat.zero_le _, Nat.zero_le _⟩)) (fun r hr => ?_)
  subst hr
  exact W.iret (v := nI (bs_c (((x &&& ((-1) <<< ((nI k).toInt64 &&& 63))) &&& (-(x &&& ((-1) <<< ((nI k).toInt64 &&& 63))))) - 1))) hx hb hr (fun t ht hW => ⟨_, rfl, by rw [bs_fol x h64], ht⟩) (fun _ h => nomatch h) d_F_following_19
set_option maxHeartbeats 4000000 in
set_option maxRecDepth 100000 in
theorem c_M_has (l : Launch) (x : Int64) (v : Nat) (hv : v < 64) : Met l y_M_has w_M_has ({ frames := 0, cells := 0, slots := 0, locals := 0 }) (va_Pc [.long x, .int (nI v)] (fun _ => True)) (vp_Si (fun r => r = bs_i (bs_t x v))) 0 0 (fun _ => False) := by
  refine Met.ofW (cc := b_M_has) (maxL := 3) (ret := (some .boolean)) (by decide) rfl ?_
  intro p e s m args below meth c s₁ B hml hv9
  obtain ⟨rfl, -⟩ := hv9
  have hx := B.exec
  have hb := B.bytes
  have hr := B.returns
  have hts := atoms_spec (ws := w_M_has) B.pre
  have hown : s.vm.findClass "FlowNestModel" = some m.cls := findClass_of_methodNamed B.named
  have hlocks := B.notSynchronized
  have hl := lv_entry ([.long x, .int (nI v)]) (n := 3) (Nat.le_of_ble_eq_true rfl)
  rw [lg_entry_eq]
  generalize (lg_sl ([.long x, .int (nI v)]) ++ List.replicate (3 - (lg_sl ([.long x, .int (nI v)])).length) Slot.unset).toArray = ls at hl ⊢
  have hl : lv_has ls 3 [(0, .long x), (2, .int (nI v))] := hl
  refine lv_lload_n hx hb d_M_has_0 rfl (lv_at hl 0 rfl) ?_
  refine lv_iload_n hx hb d_M_has_1 rfl (lv_at hl 1 rfl) ?_
  refine lv_lshr (v := x >>> ((nI v).toInt64 &&& 63)) hx hb d_M_has_2 rfl ?_
  refine lv_lconst (v := 1) hx hb d_M_has_3 (by decide) ?_
  refine lv_land hx hb d_M_has_4 ?_
  refine lv_lconst (v := 1) hx hb d_M_has_5 (by decide) ?_
  refine wl_lcmpne (tgt := 14) hx hb d_M_has_6 d_M_has_7 (by decide) (fun hc6 => ?_) (fun hc6 => ?_)
  · refine lv_iconst (v := nI 0) hx hb d_M_has_14 (by decide) ?_
    exact W.zret (v := nI 0) hx hb hr (by decide) (fun t ht hW => ⟨_, rfl, (bs_i_f (Bool.eq_false_iff.mpr (fun q => hc6 ((bs_hasM hv).mpr q)))).symm, ht⟩) (fun _ h => nomatch h) d_M_has_15
  · refine lv_iconst (v := nI 1) hx hb d_M_has_10 (by decide) ?_
    refine lv_goto (tgt := 15) hx hb d_M_has_11 (by decide) ?_
    exact W.zret (v := nI 1) hx hb hr (by decide) (fun t ht hW => ⟨_, rfl, (bs_i_t (fun q => by rw [(bs_hasM hv).mp hc6] at q; cases q)).symm, ht⟩) (fun _ h => nomatch h) d_M_has_15
