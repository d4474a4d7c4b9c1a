/-! FlowNest: its cells, what it has worked out, and what a throw takes -/
abbrev fn_ws (cJ cI : ClassId) (h0 h1 n1 a1 e1 l1 b1 t1 h2 n2 a2 e2 l2 b2 t2 h4 c4 : Nat) (fz fc : Int32) (nx ab : Nat → Int64) (en lf bl tr : Nat → Int32) (sz rt : Int32) (mt : Int64) (sl : Int32) (nx2 ab2 : Nat → Int64) (en2 lf2 bl2 tr2 : Nat → Int32) (sz2 rt2 : Int32) (mt2 : Int64) (sl2 : Int32) (bo : Nat → Int64) (ns : Int32) : va_W :=
  (h0, .inr (2, [.ref h1, .ref h2, .ref h4, .int fz, .int fc])) :: (sd_ws cJ cI h1 n1 a1 e1 l1 b1 t1 nx ab en lf bl tr sz rt mt sl ++ (sd_ws cJ cI h2 n2 a2 e2 l2 b2 t2 nx2 ab2 en2 lf2 bl2 tr2 sz2 rt2 mt2 sl2 ++ ns_ws cJ cI h4 c4 bo ns))
abbrev fo_ws (cJ cI : ClassId) (h0 h1 h2 h4 : Nat) (fz fc : Int32) : va_W := [(h0, .inr (2, [.ref h1, .ref h2, .ref h4, .int fz, .int fc]))]
/-- a side: worked out, or to be worked out -/
def fv_S (n r : Nat) (L : Nat → Int64) (q : Bool) (ab : Nat → Int64) (en lf bl : Nat → Int32) (mt : Int64) : Prop := (n = 0 → q = false ∧ mt = 0) ∧ (0 < n → r < n) ∧ (0 < n → q = false → sd_G n r L ab en lf bl mt)
def fv_N (n r : Nat) (L : Nat → Int64) (q : Bool) (bo : Nat → Int64) : Prop := (n = 0 → q = false) ∧ (0 < n → q = false → ∀ v, v < n → bo v = sp_lp n L r v)
theorem fv_S_q {n r : Nat} {L : Nat → Int64} {q : Bool} {ab : Nat → Int64} {en lf bl : Nat → Int32} {mt : Int64} (h : fv_S n r L q ab en lf bl mt) (hL : ∀ u v, gf_E n L u v → v < n) : q = true → r < n ∧ ∀ u v, gf_E n L u v → v < n := fun e => ⟨h.2.1 (Nat.pos_of_ne_zero (fun z => by have := (h.1 z).1; rw [e] at this; cases this)), hL⟩
theorem fv_S_w {n r : Nat} {L : Nat → Int64} {q : Bool} {ab ab9 : Nat → Int64} {en en9 lf lf9 bl bl9 : Nat → Int32} {mt mt9 : Int64} (h : fv_S n r L q ab en lf bl mt) (h9 : (q = false → ab9 = ab ∧ en9 = en ∧ lf9 = lf ∧ bl9 = bl ∧ mt9 = mt) ∧ (q = true → sd_G n r L ab9 en9 lf9 bl9 mt9)) : fv_S n r L false ab9 en9 lf9 bl9 mt9 := by
  cases q with
  | false =>
    obtain ⟨rfl, rfl, rfl, rfl, rfl⟩ := h9.1 rfl
    exact h
  | true =>
    refine ⟨fun z => ?_, h.2.1, fun _ _ => h9.2 rfl⟩
    have := (h.1 z).1
    cases this
theorem fv_S_g {n r : Nat} {L : Nat → Int64} {ab : Nat → Int64} {en lf bl : Nat → Int32} {mt : Int64} (h : fv_S n r L false ab en lf bl mt) : 0 < n → sd_G n r L ab en lf bl mt := fun q => h.2.2 q rfl
theorem fv_S_t {n r : Nat} {L : Nat → Int64} (hr : r < n) {ab : Nat → Int64} {en lf bl : Nat → Int32} {mt : Int64} : fv_S n r L true ab en lf bl mt := ⟨fun z => by omega, fun _ => hr, fun _ e => by cases e⟩
theorem fv_N_t {n r : Nat} {L : Nat → Int64} (hn : 0 < n) {bo : Nat → Int64} : fv_N n r L true bo := ⟨fun z => by omega, fun _ e => by cases e⟩
theorem fv_N_w {n r : Nat} {L : Nat → Int64} {q : Bool} {bo bo9 : Nat → Int64} (h : fv_N n r L q bo) (h9 : (q = false → bo9 = bo) ∧ (q = true → ∀ v, v < n → bo9 v = sp_lp n L r v)) : fv_N n r L false bo9 := by
  cases q with
  | false => rw [h9.1 rfl]; exact h
  | true => exact ⟨fun _ => rfl, fun _ _ => h9.2 rfl⟩
theorem fv_N_q {n r : Nat} {L : Nat → Int64} {q : Bool} {bo : Nat → Int64} (h : fv_N n r L q bo) {ab : Nat → Int64} {en lf bl : Nat → Int32} {mt : Int64} (hs : fv_S n r L false ab en lf bl mt) : q = true → sd_G n r L ab en lf bl mt ∧ ∀ v, v < n → gf_T n L v = gf_T n L v := fun e => ⟨fv_S_g hs (Nat.pos_of_ne_zero (fun z => by have := h.1 z; rw [e] at this; cases this)), fun _ _ => rfl⟩
theorem fv_N_b {n r : Nat} {L : Nat → Int64} {bo : Nat → Int64} (h : fv_N n r L false bo) : ∀ v, v < n → bo v = sp_lp n L r v := fun v hv => h.2 (by omega) rfl v hv
/-! links turned round, one turned on or off -/
theorem gf_T_0 (n : Nat) : gf_T n (fun _ => 0) = fun _ => 0 := by
  funext v
  refine (gf_set_eq (fun i _ => ?_)).symm
  rw [bs_0]
  constructor
  · intro h; cases h
  · rintro ⟨-, h⟩; rw [bs_0] at h; cases h
theorem gf_T_tog {n : Nat} (hn : n ≤ 64) (L : Nat → Int64) {u v : Nat} (hu : u < n) (hv : v < 64) : gf_T n (vp_updL L u (L u ^^^ bs_b v)) = vp_updL (gf_T n L) v (gf_T n L v ^^^ bs_b u) := by
  funext w
  apply bs_ext
  intro i hi
  have e2 : bs_t (gf_T n (vp_updL L u (L u ^^^ bs_b v)) w) i = (decide (i < n) && bs_t (vp_updL L u (L u ^^^ bs_b v) i) w) := by
    rw [Bool.eq_iff_iff, gf_T_t hn, Bool.and_eq_true, decide_eq_true_eq]
  have e3 : bs_t (gf_T n L w) i = (decide (i < n) && bs_t (L i) w) := by
    rw [Bool.eq_iff_iff, gf_T_t hn, Bool.and_eq_true, decide_eq_true_eq]
  rw [e2]
  by_cases ew : w = v
  · subst ew
    rw [pk_uLs, bs_tog _ (by omega), e3]
    by_cases ei : i = u
    · subst ei
      rw [pk_uLs, bs_tog _ hv]
      simp [hu]
    · rw [pk_uLn ei]
      simp [ei]
  · rw [pk_uLn ew, e3]
    by_cases ei : i = u
    · subst ei
      rw [pk_uLs, bs_tog _ hv]
      simp [ew]
    · rw [pk_uLn ei]
theorem gf_L_tog {n : Nat} {L : Nat → Int64} (hL : ∀ u v, gf_E n L u v → v < n) {u v : Nat} (hv : v < n) (hn : n ≤ 64) : ∀ a b, gf_E n (vp_updL L u (L u ^^^ bs_b v)) a b → b < n := by
  rintro a b ⟨h1, h2⟩
  by_cases e : a = u
  · subst e
    rw [pk_uLs, bs_tog _ (by omega)] at h2
    by_cases e2 : b = v
    · omega
    · rw [show decide (b = v) = false from decide_eq_false e2, Bool.xor_false] at h2
      exact hL a b ⟨h1, h2⟩
  · rw [pk_uLn e] at h2
    exact hL a b ⟨h1, h2⟩
theorem gf_L_0 (n : Nat) : ∀ a b, gf_E n (fun _ => 0) a b → b < n := by
  rintro a b ⟨-, h⟩
  rw [bs_0] at h
  cases h
theorem sp_lc_0 (n : Nat) : sp_lc n (fun _ => 0) = 0 := sm_zero (fun i _ => by
  show bs_c 0 = 0
  unfold bs_c
  exact ct_zero (fun j _ => bs_0 j))
theorem lc_on {n : Nat} {L : Nat → Int64} {u v : Nat} (hu : u < n) (hv : v < 64) (h : bs_t (L u) v = false) : nI (sp_lc n L) + nI 1 = nI (sp_lc n (vp_updL L u (L u ^^^ bs_b v))) := by
  rw [(sp_lc_tog hu hv).1 h, nI_add]
theorem lc_off {n : Nat} {L : Nat → Int64} {u v : Nat} (hu : u < n) (hv : v < 64) (h : bs_t (L u) v = true) : nI (sp_lc n L) + -1 = nI (sp_lc n (vp_updL L u (L u ^^^ bs_b v))) := by
  rw [(sp_lc_tog hu hv).2 h, ← nI_add, Int32.add_assoc]
  rw [show (nI 1 + -1 : Int32) = 0 by decide, Int32.add_zero]
theorem bs_tg (x : Int64) {v : Nat} (hv : v < 64) : bs_t (x ^^^ bs_b v) v = !bs_t x v := by
  rw [bs_tog x hv]
  simp
theorem fv_met {n r : Nat} {L : Nat → Int64} {ab : Nat → Int64} {en lf bl : Nat → Int32} {mt : Int64} (hn : n ≤ 64) (h : fv_S n r L false ab en lf bl mt) : bs_c mt = ct_n (fun i => gf_d (gf_R (gf_E n L) r i)) n := by
  rcases Nat.eq_zero_or_pos n with e | e
  · subst e
    rw [(h.1 rfl).2]
    unfold bs_c
    exact ct_zero (fun j _ => bs_0 j)
  · obtain ⟨g1, g2, g3, -⟩ := fv_S_g h e
    rw [← bs_c_n hn (fun i hi => gf_lt g2 g1 ((g3 i).mp hi))]
    exact ct_congr (fun i _ => by rw [Bool.eq_iff_iff, g3, gf_di])
/-! words of a throw that no method's list may hold -/
def xw_ws : List Cond := [.castable "java/lang/IllegalArgumentException" "java/lang/IllegalArgumentException", .castable "java/lang/IndexOutOfBoundsException" "java/lang/IndexOutOfBoundsException", .declares ⟨"java/lang/RuntimeException", "<init>", "(Ljava/lang/String;)V"⟩, .declares ⟨"java/lang/Exception", "<init>", "(Ljava/lang/String;)V"⟩, .declares ⟨"java/lang/Throwable", "<init>", "(Ljava/lang/String;)V"⟩]
def xw_ok (U : State) : Prop := ∀ w ∈ xw_ws, va_Nw w U
theorem xw_tab : ∀ w ∈ xw_ws, w.onTables = true := by decide +kernel
theorem xw_tbl : ∀ w ∈ xw_ws, w ∈ lw_tbl := by decide +kernel
theorem xw_same {u U : State} (h : u.vm = U.vm) (hZ : xw_ok u) : xw_ok U := fun w hw => va_Nw.same (xw_tab w hw) h (hZ w hw)
theorem xw_of {args : Array Value} {U : State} (h : ∀ w ∈ lw_tbl, w.before args U = true) : xw_ok U := fun w hw => va_Nw.of (xw_tab w hw) (h w (xw_tbl w hw))
theorem xw_warm {s U : State} (hW : s.WarmedH U.vm) (hZ : xw_ok s) : xw_ok U := by
  intro w hw
  have h := hZ w hw
  unfold xw_ws at hw
  rcases List.mem_cons.mp hw with e | hw
  · rw [e] at h ⊢; exact va_Nw.warmC hW h
  rcases List.mem_cons.mp hw with e | hw
  · rw [e] at h ⊢; exact va_Nw.warmC hW h
  rcases List.mem_cons.mp hw with e | hw
  · rw [e] at h ⊢; exact va_Nw.warmD hW h
  rcases List.mem_cons.mp hw with e | hw
  · rw [e] at h ⊢; exact va_Nw.warmD hW h
  rcases List.mem_cons.mp hw with e | hw
  · rw [e] at h ⊢; exact va_Nw.warmD hW h
  cases hw
theorem xw_use {args : Array Value} {U : State} (h : xw_ok U) : ∀ w ∈ xw_ws, w.before args U = true := fun w hw => va_Nw.use (xw_tab w hw) (h w hw)
abbrev xw_aA : List Cond := vx_atS "FlowNest" 37 "java/lang/IllegalArgumentException" ["java/lang/RuntimeException", "java/lang/Exception"]
abbrev xw_aI : List Cond := vx_atS "FlowNest" 136 "java/lang/IndexOutOfBoundsException" ["java/lang/RuntimeException", "java/lang/Exception"]
theorem xw_aA1 : ∀ w ∈ xw_aA.filter goodWord, w ∈ lw_tbl := by decide +kernel
theorem xw_aI1 : ∀ w ∈ xw_aI.filter goodWord, w ∈ lw_tbl := by decide +kernel
theorem xw_aA2 : ∀ w ∈ xw_aA.filter (fun w => !goodWord w), w ∈ xw_ws := by decide +kernel
theorem xw_aI2 : ∀ w ∈ xw_aI.filter (fun w => !goodWord w), w ∈ xw_ws := by decide +kernel
theorem xw_aA3 : ∀ w ∈ Cond.classLink "FlowNest" 33 "java/lang/IllegalArgumentException" :: Cond.initialized "java/lang/IllegalArgumentException" :: xw_aA, vx_ot w = true := by decide +kernel
theorem xw_aI3 : ∀ w ∈ Cond.classLink "FlowNest" 132 "java/lang/IndexOutOfBoundsException" :: Cond.initialized "java/lang/IndexOutOfBoundsException" :: xw_aI, vx_ot w = true := by decide +kernel
theorem xw_hA {args : Array Value} {s : State} {a : Cond} (hts : ∀ w ∈ a :: nm_all, w.before args s = true) (h : xw_ok s) : ∀ w ∈ xw_aA, w.before args s = true := vx_hat (fun w hw => hts w (List.mem_cons_of_mem _ (nm_in (xw_aA1 w hw) (List.mem_filter.mp hw).2))) xw_aA2 (xw_use h)
theorem xw_hI {args : Array Value} {s : State} {a : Cond} (hts : ∀ w ∈ a :: nm_all, w.before args s = true) (h : xw_ok s) : ∀ w ∈ xw_aI, w.before args s = true := vx_hat (fun w hw => hts w (List.mem_cons_of_mem _ (nm_in (xw_aI1 w hw) (List.mem_filter.mp hw).2))) xw_aI2 (xw_use h)
/-- what a throw takes of the state: these words, the two texts, Throwable's two statics -/
def tx_ok (sa sb : Nat) (U : State) (H : Heap) : Prop := xw_ok U ∧ vk_R "FlowNest" 35 "the number of vertices is not 1 .. 48" sa U ∧ vk_R "FlowNest" 134 "there is no such vertex" sb U ∧ vx_Zq Bundle.tN "UNASSIGNED_STACK" Bundle.steD (fun q => H.size ≤ q) U H ∧ vx_Zq Bundle.tN "SUPPRESSED_SENTINEL" Bundle.listD (fun q => H.size ≤ q) U H
theorem tx_warm {sa sb : Nat} {s U : State} {H : Heap} (hW : s.WarmedH U.vm) (h : tx_ok sa sb s H) : tx_ok sa sb U H := ⟨xw_warm hW h.1, vk_R.warm hW h.2.1, vk_R.warm hW h.2.2.1, vx_Zq.moved hW.alike h.2.2.2.1, vx_Zq.moved hW.alike h.2.2.2.2⟩
theorem tx_same {sa sb : Nat} {u U : State} {H : Heap} (hv : u.vm = U.vm) (h : tx_ok sa sb u H) : tx_ok sa sb U H := ⟨xw_same hv h.1, vk_R.same hv.symm h.2.1, vk_R.same hv.symm h.2.2.1, vx_Zq.moved (by rw [hv]; exact Vm.Alike.refl _) h.2.2.2.1, vx_Zq.moved (by rw [hv]; exact Vm.Alike.refl _) h.2.2.2.2⟩
theorem tx_kept {sa sb : Nat} {s : State} {H H1 : Heap} (h : tx_ok sa sb s H) (hz : H.size ≤ H1.size) (hk : ∀ q : Nat, q < H.size → H1[q]? = H[q]?) : tx_ok sa sb s H1 := ⟨h.1, h.2.1, h.2.2.1, (vx_Zq.kept h.2.2.2.1 (fun a ha _ => hk a ha)).narrow (fun q hq => Nat.le_trans hz hq), (vx_Zq.kept h.2.2.2.2 (fun a ha _ => hk a ha)).narrow (fun q hq => Nat.le_trans hz hq)⟩
def cw_T (D : va_G) (cJ cI : ClassId) (ws : va_W) (sz sa sb : Nat) (U : State) : Prop := cw_M D cJ cI ws sz U ∧ tx_ok sa sb U U.heap
theorem cw_blindT {av : List Value} {D : va_G} {cJ cI : ClassId} {ws : va_W} {sz sa sb : Nat} : FrameBlind (va_Pc av (cw_T D cJ cI ws sz sa sb)) := fun a U g mk q => ⟨q.1, (cw_blindM a U g mk ⟨q.1, q.2.1⟩).2, tx_same (u := U) (U := U.calling g mk a) rfl q.2.2⟩
theorem cw_preT {s : State} {H : Heap} {av : List Value} {D : va_G} {cJ cI : ClassId} {ws : va_W} {A : Nat → Prop} {sa sb : Nat} (hP : va_P D vwCl ws H) (hD : va_D A ws) (hK : va_K D vwCl [(cJ, .long), (cI, .int)] s) (hN : nw_ok s) (hX : tx_ok sa sb s H) : ∀ U : State, U.heap = H → s.WarmedH U.vm → va_Pc av (cw_T D cJ cI ws H.size sa sb) av.toArray U := fun U hU hW => ⟨rfl, (cw_preM (av := av) hP hD hK hN U hU hW).2, by rw [hU]; exact tx_warm hW hX⟩
theorem va_Pk {D : va_G} {cl : List vw_C} {ws : va_W} {H H1 : Heap} (hP : va_P D cl ws H) (hk : ∀ q : Nat, q < H.size → H1[q]? = H[q]?) : va_P D cl ws H1 := hP.kept (fun k q h => hk _ (hP k q h).lt)
/-- a method with an exception table that itself always returns -/
theorem mt_ofWH {l : Launch} {y : MethodName} {ws ws' : List Cond} {rm : Room} {Pc : Array Value → State → Prop} {Qc : Array Value → State → Outcome → State → Prop} {mc ms : Nat} {free : Addr → Prop} {cc : ByteArray} {maxL : Nat} {ret : Option FieldType} {hh : List (Nat × Nat × Nat × Nat)}
    (hy : plainName y.cls = true) (hw : ws = Cond.codeWith y cc maxL ret hh :: ws')
    (body : ∀ p e s m args below meth c s₁, BodyLoose p l y (headSpec ws rm) cc maxL ret e s m args below meth c s₁ → c.maxLocals = maxL → Pc args s →
      W p l e (headSpec ws rm).room s m args below meth c s.heap [] 0 0 (MQ below Qc args s mc ms free) (entryFrame m args maxL)) : Met l y ws rm Pc Qc mc ms free := by
  refine MetFree.of_bodyS (code := cc) (maxLocals := maxL) (ret := ret) hy ?_ ?_
  · intro args s m h hn
    obtain ⟨m9, meth, c, hn9, h1, h2, h3, h4, -, h5, h6, -⟩ := Cond.codeWith_spec (atoms_spec (ws := ws) h _ (by rw [hw]; exact List.mem_cons_self))
    cases hn.symm.trans hn9
    exact ⟨meth, c, h1, h2, h3, h4, h5, h6⟩
  · intro p e s m args below meth c s₁ B hml hP _
    have hh0 : s₁.heap = s.heap := by rw [B.state]; rfl
    obtain ⟨t, a1, o, b1, b2, b3⟩ := body p e s m args below meth c s₁ B hml hP s₁ hh0 (Stand.of_body B)
    exact ⟨t, o, a1, b1, b2, ⟨b3.1, b3.2⟩⟩
