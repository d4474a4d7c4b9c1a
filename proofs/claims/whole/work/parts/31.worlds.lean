/-! worlds: the cells of the class's objects and of the reference's -/
abbrev sd_ws (cJ cI : ClassId) (h1 n1 a1 e1 l1 b1 t1 : Nat) (nx ab : Nat → Int64) (en lf bl tr : Nat → Int32) (sz rt : Int32) (mt : Int64) (sl : Int32) : va_W :=
  [(h1, .inr (1, [.ref n1, .ref a1, .ref e1, .ref l1, .ref b1, .ref t1, .int sz, .int rt, .long mt, .int sl])), (n1, .inl (cJ, 48, .inr (.inl nx))), (a1, .inl (cJ, 48, .inr (.inl ab))), (e1, .inl (cI, 48, .inl en)), (l1, .inl (cI, 48, .inl lf)), (b1, .inl (cI, 48, .inl bl)), (t1, .inl (cI, 48, .inl tr))]
abbrev md_ws (cJ cI : ClassId) (h3 k3 o3 w3 v3 p3 e3 f3 q3 : Nat) (cd nn ey ex kn : Int32) (rc eg : Int64) (li so wi ew lo : Nat → Int64) (en le pi : Nat → Int32) : va_W :=
  [(h3, .inr (3, [.int cd, .int nn, .int ey, .int ex, .ref k3, .ref o3, .int kn, .long rc, .long eg, .ref w3, .ref v3, .ref p3, .ref e3, .ref f3, .ref q3])), (k3, .inl (cJ, 48, .inr (.inl li))), (o3, .inl (cJ, 48, .inr (.inl so))), (w3, .inl (cJ, 48, .inr (.inl wi))), (v3, .inl (cJ, 48, .inr (.inl ew))), (p3, .inl (cJ, 48, .inr (.inl lo))), (e3, .inl (cI, 48, .inl en)), (f3, .inl (cI, 48, .inl le)), (q3, .inl (cI, 49, .inl pi))]
/-- a world, the tables, the nest's links -/
def cw_B (D : va_G) (cJ cI : ClassId) (ws : va_W) (U : State) : Prop := va_P D vwCl ws U.heap ∧ va_K D vwCl [(cJ, .long), (cI, .int)] U ∧ nw_ok U
theorem cw_blind {av : List Value} {D : va_G} {cJ cI : ClassId} {ws : va_W} : FrameBlind (va_Pc av (cw_B D cJ cI ws)) := fun a U g mk q => ⟨q.1, q.2.1, va_K.moved (u := U) (U := U.calling g mk a) (Vm.Alike.refl U.vm) q.2.2.1, nw_same (u := U) (U := U.calling g mk a) rfl q.2.2.2⟩
theorem cw_pre {s : State} {H : Heap} {av : List Value} {D : va_G} {cJ cI : ClassId} {ws : va_W} (hP : va_P D vwCl ws H) (hK : va_K D vwCl [(cJ, .long), (cI, .int)] s) (hN : nw_ok s) : ∀ U : State, U.heap = H → s.WarmedH U.vm → va_Pc av (cw_B D cJ cI ws) av.toArray U := fun U hU hW => ⟨rfl, by rw [hU]; exact hP, va_K.moved hW.alike hK, nw_warm hW hN⟩
/-- the same of a method that writes: its cells are apart -/
def cw_M (D : va_G) (cJ cI : ClassId) (ws : va_W) (sz : Nat) (U : State) : Prop := U.heap.size = sz ∧ cw_B D cJ cI ws U ∧ va_D (fun _ => True) ws
theorem cw_blindM {av : List Value} {D : va_G} {cJ cI : ClassId} {ws : va_W} {sz : Nat} : FrameBlind (va_Pc av (cw_M D cJ cI ws sz)) := fun a U g mk q => ⟨q.1, q.2.1, (cw_blind a U g mk ⟨q.1, q.2.2.1⟩).2, q.2.2.2⟩
theorem cw_preM {s : State} {H : Heap} {av : List Value} {D : va_G} {cJ cI : ClassId} {ws : va_W} {A : Nat → Prop} (hP : va_P D vwCl ws H) (hD : va_D A ws) (hK : va_K D vwCl [(cJ, .long), (cI, .int)] s) (hN : nw_ok s) : ∀ U : State, U.heap = H → s.WarmedH U.vm → va_Pc av (cw_M D cJ cI ws H.size) av.toArray U := fun U hU hW => ⟨rfl, by rw [hU], (cw_pre (av := av) hP hK hN U hU hW).2, hD.weaken (fun _ _ _ _ => trivial)⟩
/-- what is worked out of a graph, seen from r -/
def sd_G (n r : Nat) (nx ab : Nat → Int64) (en lf bl : Nat → Int32) (mt : Int64) : Prop :=
  r < n ∧ (∀ u v, gf_E n nx u v → v < n) ∧ (∀ v, bs_t mt v = true ↔ gf_R (gf_E n nx) r v) ∧ cl_ok n nx r ab ∧ sd_bl n nx r (bs_c mt) bl lf ∧ ∃ b0, lf = (df_F n nx r b0).2.2.1 ∧ en = (df_F n nx r b0).2.1
