/-! the law's loop: its test, a step, all of it (laid by wip/gen/head.py) -/
set_option maxHeartbeats 4000000 in
set_option maxRecDepth 100000 in
theorem law_test {p : Program} {l : Launch} {e : Env} {s : State} {m : MethodId} {below : List Frame} {meth : Method} {c : Code} {b Ln : Nat} {xs : Nat → Int32} {A : Nat → Prop} {Q : State → Prop} {dC : Nat → ClassId} {dI : Nat → Nat → Nat} {cJ cI : ClassId} {sa sb : Nat} (C9 : lw_C p l s m c b Ln xs A dC dI cJ cI sa sb) {cells slots i : Nat} (hi : i ≤ 2048) {h0 h3 g5 : Nat} {H : Heap} {locs : List Loc} {ls : Array Slot} (hS : va_S A s.heap H locs) (hl : lv_has ls 8 [(0, .ref b), (1, .ref h0), (2, .ref h3), (3, .ref g5), (4, .int (nI i))]) (ex : W p l e room_1 s m #[Value.ref b] below meth c H locs cells slots Q (F0 m 1245 ls [])) (go : i + 4 ≤ Ln → W p l e room_1 s m #[Value.ref b] below meth c H locs cells slots Q (F0 m 32 ls [])) : W p l e room_1 s m #[Value.ref b] below meth c H locs cells slots Q (F0 m 23 ls []) := by
  obtain ⟨hx, hb, hml, hown, hts, hNw, hK, hX0, hA1, hl9, hscr, hbl, hLn⟩ := C9
  have hbA : ¬ A b := fun z => absurd ((hA1 b).mp z) (by omega)
  refine lv_iload hx hb d_L_law_23 (lv_at hl 4 rfl) ?_
  refine lv_aload_n hx hb d_L_law_25 rfl (lv_at hl 0 rfl) ?_
  refine va_slen hx hb hscr hbl hbA hS d_L_law_26 ?_
  refine lv_iconst (v := nI 4) hx hb d_L_law_27 (by decide) ?_
  refine lv_isub hx hb d_L_law_28 ?_
  exact lv_icmp_gt (tgt := 1245) hx hb d_L_law_29 (by decide) (fun _ => ex) (fun hc => go (lw_no hLn hi hc))
set_option maxHeartbeats 4000000 in
set_option maxRecDepth 100000 in
theorem law_step {p : Program} {l : Launch} {e : Env} {s : State} {m : MethodId} {below : List Frame} {meth : Method} {c : Code} {b Ln : Nat} {xs : Nat → Int32} {A : Nat → Prop} {Q : State → Prop} {dC : Nat → ClassId} {dI : Nat → Nat → Nat} {cJ cI : ClassId} {h0 h1 n1 a1 e1 l1 b1 t1 h2 n2 a2 e2 l2 b2 t2 h4 c4 h3 k3 o3 w3 v3 p3 e3 f3 q3 g5 sa sb : Nat} (C9 : lw_C p l s m c b Ln xs A dC dI cJ cI sa sb) {cells slots i : Nat} (hi : i + 4 ≤ Ln) (hc9 : cells + 2 ≤ 1053) (hs9 : slots + 12 ≤ 9256) (back : ∀ (H : Heap) (locs : List Loc) (ls : Array Slot), lw_J A dC dI cJ cI h0 h1 n1 a1 e1 l1 b1 t1 h2 n2 a2 e2 l2 b2 t2 h4 c4 h3 k3 o3 w3 v3 p3 e3 f3 q3 g5 H → va_S A s.heap H locs → lv_has ls 8 [(0, .ref b), (1, .ref h0), (2, .ref h3), (3, .ref g5), (4, .int (nI i))] → W p l e room_1 s m #[Value.ref b] below meth c H locs (cells + 2) (slots + 12) Q (F0 m 1239 ls [])) {H : Heap} {locs : List Loc} {ls : Array Slot} (hJ : lw_J A dC dI cJ cI h0 h1 n1 a1 e1 l1 b1 t1 h2 n2 a2 e2 l2 b2 t2 h4 c4 h3 k3 o3 w3 v3 p3 e3 f3 q3 g5 H) (hS : va_S A s.heap H locs) (hl : lv_has ls 8 [(0, .ref b), (1, .ref h0), (2, .ref h3), (3, .ref g5), (4, .int (nI i))]) : W p l e room_1 s m #[Value.ref b] below meth c H locs cells slots Q (F0 m 32 ls []) := by
  have C8 := C9
  obtain ⟨hx, hb, hml, hown, hts, hNw, hK, hX0, hA1, hl9, hscr, hbl, hLn⟩ := C9
  have hbA : ¬ A b := fun z => absurd ((hA1 b).mp z) (by omega)
  refine lv_aload_n hx hb d_L_law_32 rfl (lv_at hl 0 rfl) ?_
  refine lv_iload hx hb d_L_law_33 (lv_at hl 4 rfl) ?_
  refine wl_sld hx hb hscr hbl hbA hS (i := i) (by omega) hLn d_L_law_35 ?_
  refine lv_bipush (v := nI 31) hx hb d_L_law_36 (by decide) ?_
  refine lv_iand hx hb d_L_law_38 ?_
  generalize xs i &&& nI 31 = z
  rcases lw_sw z with ⟨k, hk, rfl⟩ | ho
  · obtain rfl | rfl | rfl | rfl | rfl | rfl | rfl | rfl | rfl | rfl | rfl | rfl | rfl | rfl | rfl | rfl | rfl | rfl := (show k = 0 ∨ k = 1 ∨ k = 2 ∨ k = 3 ∨ k = 4 ∨ k = 5 ∨ k = 6 ∨ k = 7 ∨ k = 8 ∨ k = 9 ∨ k = 10 ∨ k = 11 ∨ k = 12 ∨ k = 13 ∨ k = 14 ∨ k = 15 ∨ k = 16 ∨ k = 17 by omega)
    · refine lv_tableIn (off := 85) (tgt := 124) hx hb d_L_law_39 (by decide) (by decide) (by decide) (by decide) ?_
      exact law_0 C8 hi hc9 hs9 back hJ hS hl
    · refine lv_tableIn (off := 141) (tgt := 180) hx hb d_L_law_39 (by decide) (by decide) (by decide) (by decide) ?_
      exact law_1 C8 hi hc9 hs9 back hJ hS hl
    · refine lv_tableIn (off := 209) (tgt := 248) hx hb d_L_law_39 (by decide) (by decide) (by decide) (by decide) ?_
      exact law_2 C8 hi hc9 hs9 back hJ hS hl
    · refine lv_tableIn (off := 293) (tgt := 332) hx hb d_L_law_39 (by decide) (by decide) (by decide) (by decide) ?_
      exact law_3 C8 hi hc9 hs9 back hJ hS hl
    · refine lv_tableIn (off := 384) (tgt := 423) hx hb d_L_law_39 (by decide) (by decide) (by decide) (by decide) ?_
      exact law_4 C8 hi hc9 hs9 back hJ hS hl
    · refine lv_tableIn (off := 468) (tgt := 507) hx hb d_L_law_39 (by decide) (by decide) (by decide) (by decide) ?_
      exact law_5 C8 hi hc9 hs9 back hJ hS hl
    · refine lv_tableIn (off := 571) (tgt := 610) hx hb d_L_law_39 (by decide) (by decide) (by decide) (by decide) ?_
      exact law_6 C8 hi hc9 hs9 back hJ hS hl
    · refine lv_tableIn (off := 627) (tgt := 666) hx hb d_L_law_39 (by decide) (by decide) (by decide) (by decide) ?_
      exact law_7 C8 hi hc9 hs9 back hJ hS hl
    · refine lv_tableIn (off := 682) (tgt := 721) hx hb d_L_law_39 (by decide) (by decide) (by decide) (by decide) ?_
      exact law_8 C8 hi hc9 hs9 back hJ hS hl
    · refine lv_tableIn (off := 740) (tgt := 779) hx hb d_L_law_39 (by decide) (by decide) (by decide) (by decide) ?_
      exact law_9 C8 hi hc9 hs9 back hJ hS hl
    · refine lv_tableIn (off := 795) (tgt := 834) hx hb d_L_law_39 (by decide) (by decide) (by decide) (by decide) ?_
      exact law_10 C8 hi hc9 hs9 back hJ hS hl
    · refine lv_tableIn (off := 870) (tgt := 909) hx hb d_L_law_39 (by decide) (by decide) (by decide) (by decide) ?_
      exact law_11 C8 hi hc9 hs9 back hJ hS hl
    · refine lv_tableIn (off := 925) (tgt := 964) hx hb d_L_law_39 (by decide) (by decide) (by decide) (by decide) ?_
      exact law_12 C8 hi hc9 hs9 back hJ hS hl
    · refine lv_tableIn (off := 938) (tgt := 977) hx hb d_L_law_39 (by decide) (by decide) (by decide) (by decide) ?_
      exact law_13 C8 hi hc9 hs9 back hJ hS hl
    · refine lv_tableIn (off := 994) (tgt := 1033) hx hb d_L_law_39 (by decide) (by decide) (by decide) (by decide) ?_
      exact law_14 C8 hi hc9 hs9 back hJ hS hl
    · refine lv_tableIn (off := 1078) (tgt := 1117) hx hb d_L_law_39 (by decide) (by decide) (by decide) (by decide) ?_
      exact law_15 C8 hi hc9 hs9 back hJ hS hl
    · refine lv_tableIn (off := 1091) (tgt := 1130) hx hb d_L_law_39 (by decide) (by decide) (by decide) (by decide) ?_
      exact law_16 C8 hi hc9 hs9 back hJ hS hl
    · refine lv_tableIn (off := 1175) (tgt := 1214) hx hb d_L_law_39 (by decide) (by decide) (by decide) (by decide) ?_
      exact law_17 C8 hi hc9 hs9 back hJ hS hl
  · refine lv_tableOut (tgt := 1239) hx hb d_L_law_39 ho (by decide) ?_
    refine W.widen (k := cells + 2) (n := slots + 12) (by omega) (by omega) ?_
    exact back _ _ _ hJ hS hl
set_option maxHeartbeats 4000000 in
set_option maxRecDepth 100000 in
theorem law_head {p : Program} {l : Launch} {e : Env} {s : State} {m : MethodId} {below : List Frame} {meth : Method} {c : Code} {b Ln : Nat} {xs : Nat → Int32} {A : Nat → Prop} {Q : State → Prop} {dC : Nat → ClassId} {dI : Nat → Nat → Nat} {cJ cI : ClassId} {h0 h1 n1 a1 e1 l1 b1 t1 h2 n2 a2 e2 l2 b2 t2 h4 c4 h3 k3 o3 w3 v3 p3 e3 f3 q3 g5 sa sb : Nat} (C9 : lw_C p l s m c b Ln xs A dC dI cJ cI sa sb) (done : ∀ (H : Heap) (locs : List Loc) (ls : Array Slot) (cells slots : Nat), cells ≤ 1053 → slots ≤ 9256 → va_S A s.heap H locs → W p l e room_1 s m #[Value.ref b] below meth c H locs cells slots Q (F0 m 1245 ls [])) : ∀ (k : Nat) {cells slots i : Nat}, Ln ≤ i + 4 * k → i ≤ 2048 → cells + 2 * k ≤ 1053 → slots + 12 * k ≤ 9256 → ∀ (H : Heap) (locs : List Loc) (ls : Array Slot), lw_J A dC dI cJ cI h0 h1 n1 a1 e1 l1 b1 t1 h2 n2 a2 e2 l2 b2 t2 h4 c4 h3 k3 o3 w3 v3 p3 e3 f3 q3 g5 H → va_S A s.heap H locs → lv_has ls 8 [(0, .ref b), (1, .ref h0), (2, .ref h3), (3, .ref g5), (4, .int (nI i))] → W p l e room_1 s m #[Value.ref b] below meth c H locs cells slots Q (F0 m 23 ls []) := by
  intro k
  induction k with
  | zero =>
    intro cells slots i u1 u2 u3 u4 H locs ls hJ hS hl
    exact law_test C9 u2 hS hl (done _ _ _ _ _ (by omega) (by omega) hS) (fun h => absurd h (by omega))
  | succ k ih =>
    intro cells slots i u1 u2 u3 u4 H locs ls hJ hS hl
    refine law_test C9 u2 hS hl (done _ _ _ _ _ (by omega) (by omega) hS) (fun hi => ?_)
    refine law_step C9 hi (by omega) (by omega) (fun H locs ls hJ hS hl => ?_) hJ hS hl
    obtain ⟨hx, hb, hml, hown, hts, hNw, hK, hX0, hA1, hl9, hscr, hbl, hLn⟩ := C9
    refine lv_iinc (lv' := [(4, .int (nI (i + 4))), (0, .ref b), (1, .ref h0), (2, .ref h3), (3, .ref g5)]) (k := 4) (v := nI (i + 4)) hx hb d_L_law_1239 hl rfl (by rw [show Int32.ofInt 4 = nI 4 from by decide]; exact nI_add i 4) (by decide) rfl (fun ls hl => ?_)
    refine lv_goto (tgt := 23) hx hb d_L_law_1242 (by decide) ?_
    exact ih (by omega) (by omega) (by omega) (by omega) _ _ _ hJ hS (lv_sub hl [1, 2, 3, 4, 0] rfl)
