/-! the law's wrappers: FlowNest and the array for the answer -/
abbrev lx_ws (cJ cI : ClassId) (h0 h1 n1 a1 e1 l1 b1 t1 h2 n2 a2 e2 l2 b2 t2 h4 c4 g5 : Nat) (fz fc : Int32) (nx ab : Nat → Int64) (en lf bl tr : Nat → Int32) (sz rt : Int32) (mt : Int64) (sl : Int32) (nx2 ab2 : Nat → Int64) (en2 lf2 bl2 tr2 : Nat → Int32) (sz2 rt2 : Int32) (mt2 : Int64) (sl2 : Int32) (bo : Nat → Int64) (ns : Int32) (ou : Nat → Int64) : va_W :=
  fn_ws cJ cI h0 h1 n1 a1 e1 l1 b1 t1 h2 n2 a2 e2 l2 b2 t2 h4 c4 fz fc nx ab en lf bl tr sz rt mt sl nx2 ab2 en2 lf2 bl2 tr2 sz2 rt2 mt2 sl2 bo ns ++ [(g5, .inl (cJ, 1, .inr (.inl ou)))]
theorem xw_cA {args : Array Value} {s : State} (h : xw_ok s) : (Cond.castable "java/lang/IllegalArgumentException" "java/lang/IllegalArgumentException").before args s = true := xw_use h _ (List.mem_of_getElem? (i := 0) rfl)
theorem xw_cI {args : Array Value} {s : State} (h : xw_ok s) : (Cond.castable "java/lang/IndexOutOfBoundsException" "java/lang/IndexOutOfBoundsException").before args s = true := xw_use h _ (List.mem_of_getElem? (i := 1) rfl)
def bs_l (b : Bool) : Int64 := if b = true then 1 else 0
