/-! names: methods, their codes, field tables, the tables' words by their places (laid by wip/gen/names_out.py) -/
abbrev b_F_init : ByteArray := prog_1_method_1_code
def y_F_init : MethodName := ⟨"FlowNest", "<init>", "()V"⟩
abbrev b_S_init : ByteArray := prog_3_method_1_code
def y_S_init : MethodName := ⟨"FlowNest$Side", "<init>", "()V"⟩
abbrev b_N_init : ByteArray := prog_2_method_1_code
def y_N_init : MethodName := ⟨"FlowNest$Nest", "<init>", "()V"⟩
abbrev b_F_spread : ByteArray := prog_1_method_10_code
def y_F_spread : MethodName := ⟨"FlowNest", "spread", "(J)J"⟩
abbrev b_F_worked : ByteArray := prog_1_method_21_code
def y_F_worked : MethodName := ⟨"FlowNest", "worked", "(Z)LFlowNest$Side;"⟩
abbrev b_S_workOut : ByteArray := prog_3_method_5_code
def y_S_workOut : MethodName := ⟨"FlowNest$Side", "workOut", "()V"⟩
abbrev b_S_goOver : ByteArray := prog_3_method_6_code
def y_S_goOver : MethodName := ⟨"FlowNest$Side", "goOver", "()V"⟩
abbrev b_Y_fillI : ByteArray := prog_13_method_103_code
def y_Y_fillI : MethodName := ⟨"java/util/Arrays", "fill", "([II)V"⟩
abbrev b_F_bit : ByteArray := prog_1_method_23_code
def y_F_bit : MethodName := ⟨"FlowNest", "bit", "(I)J"⟩
abbrev b_F_following : ByteArray := prog_1_method_25_code
def y_F_following : MethodName := ⟨"FlowNest", "following", "(JI)I"⟩
abbrev b_B_bitCount : ByteArray := prog_9_method_50_code
def y_B_bitCount : MethodName := ⟨"java/lang/Long", "bitCount", "(J)I"⟩
abbrev b_S_dominate : ByteArray := prog_3_method_7_code
def y_S_dominate : MethodName := ⟨"FlowNest$Side", "dominate", "()V"⟩
abbrev b_F_has : ByteArray := prog_1_method_24_code
def y_F_has : MethodName := ⟨"FlowNest", "has", "(JI)Z"⟩
abbrev b_S_pushAlong : ByteArray := prog_3_method_8_code
def y_S_pushAlong : MethodName := ⟨"FlowNest$Side", "pushAlong", "(I)Z"⟩
abbrev b_S_rimsFrom : ByteArray := prog_3_method_11_code
def y_S_rimsFrom : MethodName := ⟨"FlowNest$Side", "rimsFrom", "(J)J"⟩
abbrev b_S_rimOf : ByteArray := prog_3_method_10_code
def y_S_rimOf : MethodName := ⟨"FlowNest$Side", "rimOf", "(I)J"⟩
abbrev b_F_loops : ByteArray := prog_1_method_14_code
def y_F_loops : MethodName := ⟨"FlowNest", "loops", "()I"⟩
abbrev b_F_nested : ByteArray := prog_1_method_22_code
def y_F_nested : MethodName := ⟨"FlowNest", "nested", "()LFlowNest$Nest;"⟩
abbrev b_N_workOut : ByteArray := prog_2_method_2_code
def y_N_workOut : MethodName := ⟨"FlowNest$Nest", "workOut", "(LFlowNest$Side;[J)V"⟩
abbrev b_N_bodyOf : ByteArray := prog_2_method_3_code
def y_N_bodyOf : MethodName := ⟨"FlowNest$Nest", "bodyOf", "(ILFlowNest$Side;[J)J"⟩
abbrev b_N_flood : ByteArray := prog_2_method_4_code
def y_N_flood : MethodName := ⟨"FlowNest$Nest", "flood", "(JJ[JI)J"⟩
abbrev b_N_count : ByteArray := prog_2_method_5_code
def y_N_count : MethodName := ⟨"FlowNest$Nest", "count", "(I)I"⟩
abbrev b_F_isReducible : ByteArray := prog_1_method_17_code
def y_F_isReducible : MethodName := ⟨"FlowNest", "isReducible", "()Z"⟩
abbrev b_S_ringsGoBack : ByteArray := prog_3_method_12_code
def y_S_ringsGoBack : MethodName := ⟨"FlowNest$Side", "ringsGoBack", "()Z"⟩
abbrev b_F_told : ByteArray := prog_1_method_19_code
def y_F_told : MethodName := ⟨"FlowNest", "told", "(I)I"⟩
abbrev b_L_begin : ByteArray := method_3_code
def y_L_begin : MethodName := ⟨"FlowNestLaw", "begin", "(LFlowNest;I[J)I"⟩
abbrev b_F_begin : ByteArray := prog_1_method_2_code
def y_F_begin : MethodName := ⟨"FlowNest", "begin", "(I)I"⟩
abbrev b_S_startWith : ByteArray := prog_3_method_2_code
def y_S_startWith : MethodName := ⟨"FlowNest$Side", "startWith", "(II)V"⟩
abbrev b_Y_fillJ : ByteArray := prog_13_method_101_code
def y_Y_fillJ : MethodName := ⟨"java/util/Arrays", "fill", "([JJ)V"⟩
abbrev b_L_link : ByteArray := method_4_code
def y_L_link : MethodName := ⟨"FlowNestLaw", "link", "(LFlowNest;II[J)I"⟩
abbrev b_F_link : ByteArray := prog_1_method_3_code
def y_F_link : MethodName := ⟨"FlowNest", "link", "(II)I"⟩
abbrev b_F_requireVertex : ByteArray := prog_1_method_20_code
def y_F_requireVertex : MethodName := ⟨"FlowNest", "requireVertex", "(I)V"⟩
abbrev b_S_turn : ByteArray := prog_3_method_3_code
def y_S_turn : MethodName := ⟨"FlowNest$Side", "turn", "(II)V"⟩
abbrev b_L_place : ByteArray := method_5_code
def y_L_place : MethodName := ⟨"FlowNestLaw", "place", "(LFlowNest;IZ[J)I"⟩
abbrev b_F_place : ByteArray := prog_1_method_4_code
def y_F_place : MethodName := ⟨"FlowNest", "place", "(IZ)I"⟩
abbrev b_S_moveRoot : ByteArray := prog_3_method_4_code
def y_S_moveRoot : MethodName := ⟨"FlowNest$Side", "moveRoot", "(I)I"⟩
abbrev b_L_isReached : ByteArray := method_6_code
def y_L_isReached : MethodName := ⟨"FlowNestLaw", "isReached", "(LFlowNest;IZ[J)I"⟩
abbrev b_F_isReached : ByteArray := prog_1_method_5_code
def y_F_isReached : MethodName := ⟨"FlowNest", "isReached", "(IZ)Z"⟩
abbrev b_L_dominator : ByteArray := method_7_code
def y_L_dominator : MethodName := ⟨"FlowNestLaw", "dominator", "(LFlowNest;IZ[J)I"⟩
abbrev b_F_dominator : ByteArray := prog_1_method_6_code
def y_F_dominator : MethodName := ⟨"FlowNest", "dominator", "(IZ)I"⟩
abbrev b_S_closestAbove : ByteArray := prog_3_method_9_code
def y_S_closestAbove : MethodName := ⟨"FlowNest$Side", "closestAbove", "(I)I"⟩
abbrev b_L_dominates : ByteArray := method_8_code
def y_L_dominates : MethodName := ⟨"FlowNestLaw", "dominates", "(LFlowNest;IIZ[J)I"⟩
abbrev b_F_dominates : ByteArray := prog_1_method_7_code
def y_F_dominates : MethodName := ⟨"FlowNest", "dominates", "(IIZ)Z"⟩
abbrev b_L_level : ByteArray := method_9_code
def y_L_level : MethodName := ⟨"FlowNestLaw", "level", "(LFlowNest;I[J)I"⟩
abbrev b_F_level : ByteArray := prog_1_method_8_code
def y_F_level : MethodName := ⟨"FlowNest", "level", "(I)I"⟩
abbrev b_L_frontier : ByteArray := method_10_code
def y_L_frontier : MethodName := ⟨"FlowNestLaw", "frontier", "(LFlowNest;I[J)I"⟩
abbrev b_F_frontier : ByteArray := prog_1_method_9_code
def y_F_frontier : MethodName := ⟨"FlowNest", "frontier", "(I)J"⟩
abbrev b_L_controls : ByteArray := method_11_code
def y_L_controls : MethodName := ⟨"FlowNestLaw", "controls", "(LFlowNest;I[J)I"⟩
abbrev b_F_controls : ByteArray := prog_1_method_11_code
def y_F_controls : MethodName := ⟨"FlowNest", "controls", "(I)J"⟩
abbrev b_L_isBack : ByteArray := method_12_code
def y_L_isBack : MethodName := ⟨"FlowNestLaw", "isBack", "(LFlowNest;II[J)I"⟩
abbrev b_F_isBack : ByteArray := prog_1_method_12_code
def y_F_isBack : MethodName := ⟨"FlowNest", "isBack", "(II)Z"⟩
abbrev b_L_loop : ByteArray := method_13_code
def y_L_loop : MethodName := ⟨"FlowNestLaw", "loop", "(LFlowNest;I[J)I"⟩
abbrev b_F_loop : ByteArray := prog_1_method_13_code
def y_F_loop : MethodName := ⟨"FlowNest", "loop", "(I)J"⟩
abbrev b_L_depth : ByteArray := method_14_code
def y_L_depth : MethodName := ⟨"FlowNestLaw", "depth", "(LFlowNest;I[J)I"⟩
abbrev b_F_depth : ByteArray := prog_1_method_15_code
def y_F_depth : MethodName := ⟨"FlowNest", "depth", "(I)I"⟩
abbrev b_N_countAround : ByteArray := prog_2_method_6_code
def y_N_countAround : MethodName := ⟨"FlowNest$Nest", "countAround", "(II)I"⟩
abbrev b_L_header : ByteArray := method_15_code
def y_L_header : MethodName := ⟨"FlowNestLaw", "header", "(LFlowNest;IZ[J)I"⟩
abbrev b_F_header : ByteArray := prog_1_method_16_code
def y_F_header : MethodName := ⟨"FlowNest", "header", "(IZ)I"⟩
abbrev b_N_leastAround : ByteArray := prog_2_method_7_code
def y_N_leastAround : MethodName := ⟨"FlowNest$Nest", "leastAround", "(III)I"⟩
abbrev b_L_order : ByteArray := method_16_code
def y_L_order : MethodName := ⟨"FlowNestLaw", "order", "(LFlowNest;IZ[J)I"⟩
abbrev b_F_order : ByteArray := prog_1_method_18_code
def y_F_order : MethodName := ⟨"FlowNest", "order", "(IZ)I"⟩
abbrev b_M_init : ByteArray := prog_5_method_1_code
def y_M_init : MethodName := ⟨"FlowNestModel", "<init>", "()V"⟩
abbrev b_M_thrown : ByteArray := prog_5_method_2_code
def y_M_thrown : MethodName := ⟨"FlowNestModel", "thrown", "()I"⟩
abbrev b_M_begin : ByteArray := prog_5_method_12_code
def y_M_begin : MethodName := ⟨"FlowNestModel", "begin", "(I)I"⟩
abbrev b_M_link : ByteArray := prog_5_method_13_code
def y_M_link : MethodName := ⟨"FlowNestModel", "link", "(II)I"⟩
abbrev b_M_isVertex : ByteArray := prog_5_method_3_code
def y_M_isVertex : MethodName := ⟨"FlowNestModel", "isVertex", "(I)Z"⟩
abbrev b_M_has : ByteArray := prog_5_method_4_code
def y_M_has : MethodName := ⟨"FlowNestModel", "has", "(JI)Z"⟩
abbrev b_M_place : ByteArray := prog_5_method_14_code
def y_M_place : MethodName := ⟨"FlowNestModel", "place", "(IZ)I"⟩
abbrev b_M_isReached : ByteArray := prog_5_method_16_code
def y_M_isReached : MethodName := ⟨"FlowNestModel", "isReached", "(IZ)Z"⟩
abbrev b_M_looks : ByteArray := prog_5_method_15_code
def y_M_looks : MethodName := ⟨"FlowNestModel", "looks", "(I)Z"⟩
abbrev b_M_learn : ByteArray := prog_5_method_6_code
def y_M_learn : MethodName := ⟨"FlowNestModel", "learn", "()V"⟩
abbrev b_M_comeTo : ByteArray := prog_5_method_5_code
def y_M_comeTo : MethodName := ⟨"FlowNestModel", "comeTo", "(IIZ)J"⟩
abbrev b_M_loopFrom : ByteArray := prog_5_method_10_code
def y_M_loopFrom : MethodName := ⟨"FlowNestModel", "loopFrom", "(I)J"⟩
abbrev b_M_goesBack : ByteArray := prog_5_method_9_code
def y_M_goesBack : MethodName := ⟨"FlowNestModel", "goesBack", "(II)Z"⟩
abbrev b_M_dominatesIt : ByteArray := prog_5_method_7_code
def y_M_dominatesIt : MethodName := ⟨"FlowNestModel", "dominatesIt", "(IIZ)Z"⟩
abbrev b_M_goOver : ByteArray := prog_5_method_11_code
def y_M_goOver : MethodName := ⟨"FlowNestModel", "goOver", "()V"⟩
abbrev b_M_dominator : ByteArray := prog_5_method_17_code
def y_M_dominator : MethodName := ⟨"FlowNestModel", "dominator", "(IZ)I"⟩
abbrev b_M_rank : ByteArray := prog_5_method_8_code
def y_M_rank : MethodName := ⟨"FlowNestModel", "rank", "(IZ)I"⟩
abbrev b_M_dominates : ByteArray := prog_5_method_18_code
def y_M_dominates : MethodName := ⟨"FlowNestModel", "dominates", "(IIZ)Z"⟩
abbrev b_M_level : ByteArray := prog_5_method_19_code
def y_M_level : MethodName := ⟨"FlowNestModel", "level", "(I)I"⟩
abbrev b_M_frontier : ByteArray := prog_5_method_21_code
def y_M_frontier : MethodName := ⟨"FlowNestModel", "frontier", "(I)J"⟩
abbrev b_M_frontierOf : ByteArray := prog_5_method_20_code
def y_M_frontierOf : MethodName := ⟨"FlowNestModel", "frontierOf", "(I)J"⟩
abbrev b_M_spread : ByteArray := prog_5_method_22_code
def y_M_spread : MethodName := ⟨"FlowNestModel", "spread", "(J)J"⟩
abbrev b_M_controls : ByteArray := prog_5_method_23_code
def y_M_controls : MethodName := ⟨"FlowNestModel", "controls", "(I)J"⟩
abbrev b_M_isBack : ByteArray := prog_5_method_24_code
def y_M_isBack : MethodName := ⟨"FlowNestModel", "isBack", "(II)Z"⟩
abbrev b_M_loop : ByteArray := prog_5_method_25_code
def y_M_loop : MethodName := ⟨"FlowNestModel", "loop", "(I)J"⟩
abbrev b_M_loops : ByteArray := prog_5_method_26_code
def y_M_loops : MethodName := ⟨"FlowNestModel", "loops", "()I"⟩
abbrev b_M_depth : ByteArray := prog_5_method_27_code
def y_M_depth : MethodName := ⟨"FlowNestModel", "depth", "(I)I"⟩
abbrev b_M_header : ByteArray := prog_5_method_29_code
def y_M_header : MethodName := ⟨"FlowNestModel", "header", "(IZ)I"⟩
abbrev b_M_sizeOf : ByteArray := prog_5_method_28_code
def y_M_sizeOf : MethodName := ⟨"FlowNestModel", "sizeOf", "(J)I"⟩
abbrev b_M_isReducible : ByteArray := prog_5_method_30_code
def y_M_isReducible : MethodName := ⟨"FlowNestModel", "isReducible", "()Z"⟩
abbrev b_M_order : ByteArray := prog_5_method_31_code
def y_M_order : MethodName := ⟨"FlowNestModel", "order", "(IZ)I"⟩
abbrev b_M_told : ByteArray := prog_5_method_32_code
def y_M_told : MethodName := ⟨"FlowNestModel", "told", "(I)I"⟩
abbrev b_L_law : ByteArray := code
def y_L_law : MethodName := ⟨"FlowNestLaw", "law", "([I)Z"⟩
def T_N : u_T := fun k => match k with
  | 0 => ("FlowNest$Nest", "body", "[J", true)
  | _ => ("FlowNest$Nest", "stale", "Z", false)
def t_N : Nat → FieldType := fun k => match k with
  | 0 => .array .long
  | _ => .boolean
theorem nm_N : ∀ a, a < 2 → ∀ b, b < 2 → a ≠ b → (T_N a).2.1 ≠ (T_N b).2.1 := by decide +kernel
theorem t_N_ok : ∀ k, k < 2 → parseFieldDescriptor (T_N k).2.2.1 = some (t_N k) := by decide +kernel
def T_S : u_T := fun k => match k with
  | 0 => ("FlowNest$Side", "next", "[J", true)
  | 1 => ("FlowNest$Side", "above", "[J", true)
  | 2 => ("FlowNest$Side", "enteredAt", "[I", true)
  | 3 => ("FlowNest$Side", "leftAt", "[I", true)
  | 4 => ("FlowNest$Side", "byLeft", "[I", true)
  | 5 => ("FlowNest$Side", "trail", "[I", true)
  | 6 => ("FlowNest$Side", "size", "I", false)
  | 7 => ("FlowNest$Side", "root", "I", false)
  | 8 => ("FlowNest$Side", "met", "J", false)
  | _ => ("FlowNest$Side", "stale", "Z", false)
def t_S : Nat → FieldType := fun k => match k with
  | 0 => .array .long
  | 1 => .array .long
  | 2 => .array .int
  | 3 => .array .int
  | 4 => .array .int
  | 5 => .array .int
  | 6 => .int
  | 7 => .int
  | 8 => .long
  | _ => .boolean
theorem nm_S : ∀ a, a < 10 → ∀ b, b < 10 → a ≠ b → (T_S a).2.1 ≠ (T_S b).2.1 := by decide +kernel
theorem t_S_ok : ∀ k, k < 10 → parseFieldDescriptor (T_S k).2.2.1 = some (t_S k) := by decide +kernel
def T_F : u_T := fun k => match k with
  | 0 => ("FlowNest", "fromEntry", "LFlowNest$Side;", true)
  | 1 => ("FlowNest", "toExit", "LFlowNest$Side;", true)
  | 2 => ("FlowNest", "nest", "LFlowNest$Nest;", true)
  | 3 => ("FlowNest", "size", "I", false)
  | _ => ("FlowNest", "linkCount", "I", false)
def t_F : Nat → FieldType := fun k => match k with
  | 0 => .object "FlowNest$Side"
  | 1 => .object "FlowNest$Side"
  | 2 => .object "FlowNest$Nest"
  | 3 => .int
  | _ => .int
theorem nm_F : ∀ a, a < 5 → ∀ b, b < 5 → a ≠ b → (T_F a).2.1 ≠ (T_F b).2.1 := by decide +kernel
theorem t_F_ok : ∀ k, k < 5 → parseFieldDescriptor (T_F k).2.2.1 = some (t_F k) := by decide +kernel
def T_M : u_T := fun k => match k with
  | 0 => ("FlowNestModel", "code", "I", false)
  | 1 => ("FlowNestModel", "n", "I", false)
  | 2 => ("FlowNestModel", "entry", "I", false)
  | 3 => ("FlowNestModel", "exit", "I", false)
  | 4 => ("FlowNestModel", "links", "[J", true)
  | 5 => ("FlowNestModel", "sources", "[J", true)
  | 6 => ("FlowNestModel", "known", "Z", false)
  | 7 => ("FlowNestModel", "reached", "J", false)
  | 8 => ("FlowNestModel", "ending", "J", false)
  | 9 => ("FlowNestModel", "without", "[J", true)
  | 10 => ("FlowNestModel", "endWithout", "[J", true)
  | 11 => ("FlowNestModel", "loopOf", "[J", true)
  | 12 => ("FlowNestModel", "entered", "[I", true)
  | 13 => ("FlowNestModel", "left", "[I", true)
  | _ => ("FlowNestModel", "pile", "[I", true)
def t_M : Nat → FieldType := fun k => match k with
  | 0 => .int
  | 1 => .int
  | 2 => .int
  | 3 => .int
  | 4 => .array .long
  | 5 => .array .long
  | 6 => .boolean
  | 7 => .long
  | 8 => .long
  | 9 => .array .long
  | 10 => .array .long
  | 11 => .array .long
  | 12 => .array .int
  | 13 => .array .int
  | _ => .array .int
theorem nm_M : ∀ a, a < 15 → ∀ b, b < 15 → a ≠ b → (T_M a).2.1 ≠ (T_M b).2.1 := by decide +kernel
theorem t_M_ok : ∀ k, k < 15 → parseFieldDescriptor (T_M k).2.2.1 = some (t_M k) := by decide +kernel
abbrev vwCl : List vw_C := [("FlowNest$Nest", T_N, 2), ("FlowNest$Side", T_S, 10), ("FlowNest", T_F, 5), ("FlowNestModel", T_M, 15)]
def nm_all : List Cond := lw_tbl.filter goodWord
theorem nm_in {w : Cond} (h : w ∈ lw_tbl) (hg : goodWord w = true) : w ∈ nm_all := List.mem_filter.mpr ⟨h, hg⟩
theorem nm_tb {w : Cond} (h : w ∈ nm_all) : w ∈ lw_tbl := (List.mem_filter.mp h).1
theorem nm_gd {w : Cond} (h : w ∈ nm_all) : (w.onTables && w.keeps) = true ∨ ∃ ty, w = .arrayClass ty := good_of_word (List.mem_filter.mp h).2
theorem nm_gi {a b : Cond} (hb : b ∈ nm_all) : GoodIn (a :: nm_all) (b :: nm_all) := fun w h => (List.mem_cons.mp h).elim (fun e => by rw [e]; exact ⟨List.mem_cons_of_mem _ hb, nm_gd hb⟩) (fun h => ⟨List.mem_cons_of_mem _ h, nm_gd h⟩)
theorem nm_g0 {b : Cond} (hb : b ∈ nm_all) : GoodIn lw_tbl (b :: nm_all) := fun w h => (List.mem_cons.mp h).elim (fun e => by rw [e]; exact ⟨nm_tb hb, nm_gd hb⟩) (fun h => ⟨nm_tb h, nm_gd h⟩)
theorem nm_gV {a b : Cond} {own C : String} {idx : Nat} {y : MethodName} (h1 : Cond.methodLink own idx y ∈ nm_all) (h2 : Cond.instanceMethod y ∈ nm_all) (h3 : Cond.selects C y y ∈ nm_all) (h4 : Cond.initialized C ∈ nm_all) (hb : b ∈ nm_all) : GoodIn (a :: nm_all) (wsV own idx C y (b :: nm_all)) := by
  intro w h
  unfold wsV at h
  rcases List.mem_append.mp h with h | h
  · have key : w ∈ nm_all := by
      rcases List.mem_cons.mp h with e | h
      · rw [e]; exact h1
      rcases List.mem_cons.mp h with e | h
      · rw [e]; exact h2
      rcases List.mem_cons.mp h with e | h
      · rw [e]; exact h3
      rcases List.mem_cons.mp h with e | h
      · rw [e]; exact h4
      · cases h
    exact ⟨List.mem_cons_of_mem _ key, nm_gd key⟩
  · exact nm_gi hb w h
theorem nm_gS {a b : Cond} {own : String} {idx : Nat} {y : MethodName} (h1 : Cond.methodLink own idx y ∈ nm_all) (h2 : Cond.static y ∈ nm_all) (h3 : Cond.initialized y.cls ∈ nm_all) (hb : b ∈ nm_all) : GoodIn (a :: nm_all) (va_wsS own idx y (b :: nm_all)) := by
  intro w h
  unfold va_wsS at h
  rcases List.mem_append.mp h with h | h
  · have key : w ∈ nm_all := by
      rcases List.mem_cons.mp h with e | h
      · rw [e]; exact h1
      rcases List.mem_cons.mp h with e | h
      · rw [e]; exact h2
      rcases List.mem_cons.mp h with e | h
      · rw [e]; exact h3
      · cases h
    exact ⟨List.mem_cons_of_mem _ key, nm_gd key⟩
  · exact nm_gi hb w h
theorem nm_uN : ∀ w ∈ u_ws "FlowNest$Nest" T_N 2, w ∈ lw_tbl ∧ goodWord w = true := by decide +kernel
theorem nm_iN {a : Cond} : ∀ w ∈ u_ws "FlowNest$Nest" T_N 2, w ∈ a :: nm_all := fun w h => List.mem_cons_of_mem _ (nm_in (nm_uN w h).1 (nm_uN w h).2)
theorem nm_uS : ∀ w ∈ u_ws "FlowNest$Side" T_S 10, w ∈ lw_tbl ∧ goodWord w = true := by decide +kernel
theorem nm_iS {a : Cond} : ∀ w ∈ u_ws "FlowNest$Side" T_S 10, w ∈ a :: nm_all := fun w h => List.mem_cons_of_mem _ (nm_in (nm_uS w h).1 (nm_uS w h).2)
theorem nm_uF : ∀ w ∈ u_ws "FlowNest" T_F 5, w ∈ lw_tbl ∧ goodWord w = true := by decide +kernel
theorem nm_iF {a : Cond} : ∀ w ∈ u_ws "FlowNest" T_F 5, w ∈ a :: nm_all := fun w h => List.mem_cons_of_mem _ (nm_in (nm_uF w h).1 (nm_uF w h).2)
theorem nm_uM : ∀ w ∈ u_ws "FlowNestModel" T_M 15, w ∈ lw_tbl ∧ goodWord w = true := by decide +kernel
theorem nm_iM {a : Cond} : ∀ w ∈ u_ws "FlowNestModel" T_M 15, w ∈ a :: nm_all := fun w h => List.mem_cons_of_mem _ (nm_in (nm_uM w h).1 (nm_uM w h).2)
theorem nm_0 : Cond.initialized "FlowNestLaw" ∈ nm_all := nm_in (List.mem_append_right _ (List.mem_of_getElem? (i := 0) (by decide +kernel))) (by decide +kernel)
theorem nm_1 : Cond.initialized "FlowNest" ∈ nm_all := nm_in (List.mem_append_right _ (List.mem_of_getElem? (i := 1) (by decide +kernel))) (by decide +kernel)
theorem nm_2 : Cond.initialized "FlowNest$Side" ∈ nm_all := nm_in (List.mem_append_right _ (List.mem_of_getElem? (i := 2) (by decide +kernel))) (by decide +kernel)
theorem nm_3 : Cond.initialized "FlowNest$Nest" ∈ nm_all := nm_in (List.mem_append_right _ (List.mem_of_getElem? (i := 3) (by decide +kernel))) (by decide +kernel)
theorem nm_4 : Cond.initialized "FlowNestModel" ∈ nm_all := nm_in (List.mem_append_right _ (List.mem_of_getElem? (i := 4) (by decide +kernel))) (by decide +kernel)
theorem nm_5 : Cond.initialized "java/lang/Throwable" ∈ nm_all := nm_in (List.mem_append_right _ (List.mem_of_getElem? (i := 5) (by decide +kernel))) (by decide +kernel)
theorem nm_6 : Cond.initialized "java/lang/Exception" ∈ nm_all := nm_in (List.mem_append_right _ (List.mem_of_getElem? (i := 6) (by decide +kernel))) (by decide +kernel)
theorem nm_7 : Cond.initialized "java/lang/RuntimeException" ∈ nm_all := nm_in (List.mem_append_right _ (List.mem_of_getElem? (i := 7) (by decide +kernel))) (by decide +kernel)
theorem nm_8 : Cond.initialized "java/lang/IllegalArgumentException" ∈ nm_all := nm_in (List.mem_append_right _ (List.mem_of_getElem? (i := 8) (by decide +kernel))) (by decide +kernel)
theorem nm_9 : Cond.initialized "java/util/Arrays" ∈ nm_all := nm_in (List.mem_append_right _ (List.mem_of_getElem? (i := 9) (by decide +kernel))) (by decide +kernel)
theorem nm_10 : Cond.initialized "java/lang/IndexOutOfBoundsException" ∈ nm_all := nm_in (List.mem_append_right _ (List.mem_of_getElem? (i := 10) (by decide +kernel))) (by decide +kernel)
theorem nm_11 : Cond.initialized "java/lang/Long" ∈ nm_all := nm_in (List.mem_append_right _ (List.mem_of_getElem? (i := 11) (by decide +kernel))) (by decide +kernel)
theorem nm_12 : Cond.classLink "FlowNestLaw" 8 "FlowNest" ∈ nm_all := nm_in (List.mem_append_right _ (List.mem_of_getElem? (i := 12) (by decide +kernel))) (by decide +kernel)
theorem nm_13 : Cond.instantiable "FlowNest" 5 ∈ nm_all := nm_in (List.mem_append_right _ (List.mem_of_getElem? (i := 13) (by decide +kernel))) (by decide +kernel)
theorem nm_14 : Cond.methodLink "FlowNestLaw" 62 y_F_init ∈ nm_all := nm_in (List.mem_append_right _ (List.mem_of_getElem? (i := 14) (by decide +kernel))) (by decide +kernel)
theorem nm_15 : Cond.instanceMethod y_F_init ∈ nm_all := nm_in (List.mem_append_right _ (List.mem_of_getElem? (i := 15) (by decide +kernel))) (by decide +kernel)
theorem nm_c_F_init : Cond.code y_F_init b_F_init 1 none ∈ nm_all := nm_in (List.mem_append_right _ (List.mem_of_getElem? (i := 16) (by decide +kernel))) (by decide +kernel)
abbrev w_F_init : List Cond := Cond.code y_F_init b_F_init 1 none :: nm_all
theorem nm_17 : Cond.methodLink "FlowNest" 1 objectInit ∈ nm_all := nm_in (List.mem_append_right _ (List.mem_of_getElem? (i := 17) (by decide +kernel))) (by decide +kernel)
theorem nm_18 : Cond.instanceMethod objectInit ∈ nm_all := nm_in (List.mem_append_right _ (List.mem_of_getElem? (i := 18) (by decide +kernel))) (by decide +kernel)
theorem nm_20 : Cond.classLink "FlowNest" 7 "FlowNest$Side" ∈ nm_all := nm_in (List.mem_append_right _ (List.mem_of_getElem? (i := 20) (by decide +kernel))) (by decide +kernel)
theorem nm_21 : Cond.instantiable "FlowNest$Side" 10 ∈ nm_all := nm_in (List.mem_append_right _ (List.mem_of_getElem? (i := 21) (by decide +kernel))) (by decide +kernel)
theorem nm_23 : Cond.instanceMethod y_S_init ∈ nm_all := nm_in (List.mem_append_right _ (List.mem_of_getElem? (i := 23) (by decide +kernel))) (by decide +kernel)
theorem nm_c_S_init : Cond.code y_S_init b_S_init 1 none ∈ nm_all := nm_in (List.mem_append_right _ (List.mem_of_getElem? (i := 24) (by decide +kernel))) (by decide +kernel)
abbrev w_S_init : List Cond := Cond.code y_S_init b_S_init 1 none :: nm_all
theorem nm_25 : Cond.methodLink "FlowNest$Side" 3 objectInit ∈ nm_all := nm_in (List.mem_append_right _ (List.mem_of_getElem? (i := 25) (by decide +kernel))) (by decide +kernel)
theorem nm_26 : Cond.fieldLink "FlowNest$Side" 9 "FlowNest$Side" "next" "[J" ∈ nm_all := nm_in (List.mem_append_right _ (List.mem_of_getElem? (i := 26) (by decide +kernel))) (by decide +kernel)
theorem nm_27 : Cond.fieldLink "FlowNest" 55 "FlowNest$Side" "next" "[J" ∈ nm_all := nm_in (List.mem_append_right _ (List.mem_of_getElem? (i := 27) (by decide +kernel))) (by decide +kernel)
theorem nm_28 : Cond.fieldLink "FlowNest$Side" 15 "FlowNest$Side" "above" "[J" ∈ nm_all := nm_in (List.mem_append_right _ (List.mem_of_getElem? (i := 28) (by decide +kernel))) (by decide +kernel)
theorem nm_29 : Cond.fieldLink "FlowNest$Nest" 33 "FlowNest$Side" "above" "[J" ∈ nm_all := nm_in (List.mem_append_right _ (List.mem_of_getElem? (i := 29) (by decide +kernel))) (by decide +kernel)
theorem nm_30 : Cond.fieldLink "FlowNest" 78 "FlowNest$Side" "above" "[J" ∈ nm_all := nm_in (List.mem_append_right _ (List.mem_of_getElem? (i := 30) (by decide +kernel))) (by decide +kernel)
theorem nm_31 : Cond.fieldLink "FlowNest$Side" 18 "FlowNest$Side" "enteredAt" "[I" ∈ nm_all := nm_in (List.mem_append_right _ (List.mem_of_getElem? (i := 31) (by decide +kernel))) (by decide +kernel)
theorem nm_32 : Cond.fieldLink "FlowNest" 126 "FlowNest$Side" "enteredAt" "[I" ∈ nm_all := nm_in (List.mem_append_right _ (List.mem_of_getElem? (i := 32) (by decide +kernel))) (by decide +kernel)
theorem nm_33 : Cond.fieldLink "FlowNest$Side" 22 "FlowNest$Side" "leftAt" "[I" ∈ nm_all := nm_in (List.mem_append_right _ (List.mem_of_getElem? (i := 33) (by decide +kernel))) (by decide +kernel)
theorem nm_34 : Cond.fieldLink "FlowNest" 122 "FlowNest$Side" "leftAt" "[I" ∈ nm_all := nm_in (List.mem_append_right _ (List.mem_of_getElem? (i := 34) (by decide +kernel))) (by decide +kernel)
theorem nm_35 : Cond.fieldLink "FlowNest$Side" 25 "FlowNest$Side" "byLeft" "[I" ∈ nm_all := nm_in (List.mem_append_right _ (List.mem_of_getElem? (i := 35) (by decide +kernel))) (by decide +kernel)
theorem nm_36 : Cond.fieldLink "FlowNest$Side" 28 "FlowNest$Side" "trail" "[I" ∈ nm_all := nm_in (List.mem_append_right _ (List.mem_of_getElem? (i := 36) (by decide +kernel))) (by decide +kernel)
theorem nm_37 : Cond.fieldLink "FlowNest$Side" 31 "FlowNest$Side" "size" "I" ∈ nm_all := nm_in (List.mem_append_right _ (List.mem_of_getElem? (i := 37) (by decide +kernel))) (by decide +kernel)
theorem nm_38 : Cond.fieldLink "FlowNest$Nest" 19 "FlowNest$Side" "size" "I" ∈ nm_all := nm_in (List.mem_append_right _ (List.mem_of_getElem? (i := 38) (by decide +kernel))) (by decide +kernel)
theorem nm_39 : Cond.fieldLink "FlowNest$Side" 35 "FlowNest$Side" "root" "I" ∈ nm_all := nm_in (List.mem_append_right _ (List.mem_of_getElem? (i := 39) (by decide +kernel))) (by decide +kernel)
theorem nm_40 : Cond.fieldLink "FlowNest" 129 "FlowNest$Side" "root" "I" ∈ nm_all := nm_in (List.mem_append_right _ (List.mem_of_getElem? (i := 40) (by decide +kernel))) (by decide +kernel)
theorem nm_41 : Cond.fieldLink "FlowNest$Side" 38 "FlowNest$Side" "met" "J" ∈ nm_all := nm_in (List.mem_append_right _ (List.mem_of_getElem? (i := 41) (by decide +kernel))) (by decide +kernel)
theorem nm_42 : Cond.fieldLink "FlowNest$Nest" 44 "FlowNest$Side" "met" "J" ∈ nm_all := nm_in (List.mem_append_right _ (List.mem_of_getElem? (i := 42) (by decide +kernel))) (by decide +kernel)
theorem nm_43 : Cond.fieldLink "FlowNest" 71 "FlowNest$Side" "met" "J" ∈ nm_all := nm_in (List.mem_append_right _ (List.mem_of_getElem? (i := 43) (by decide +kernel))) (by decide +kernel)
theorem nm_44 : Cond.fieldLink "FlowNest$Side" 42 "FlowNest$Side" "stale" "Z" ∈ nm_all := nm_in (List.mem_append_right _ (List.mem_of_getElem? (i := 44) (by decide +kernel))) (by decide +kernel)
theorem nm_66 : Cond.arrayClass .long ∈ nm_all := nm_in (List.mem_append_right _ (List.mem_of_getElem? (i := 66) (by decide +kernel))) (by decide +kernel)
theorem nm_67 : Cond.arrayClass .int ∈ nm_all := nm_in (List.mem_append_right _ (List.mem_of_getElem? (i := 67) (by decide +kernel))) (by decide +kernel)
theorem nm_68 : Cond.classLink "FlowNest" 19 "FlowNest$Nest" ∈ nm_all := nm_in (List.mem_append_right _ (List.mem_of_getElem? (i := 68) (by decide +kernel))) (by decide +kernel)
theorem nm_69 : Cond.instantiable "FlowNest$Nest" 2 ∈ nm_all := nm_in (List.mem_append_right _ (List.mem_of_getElem? (i := 69) (by decide +kernel))) (by decide +kernel)
theorem nm_71 : Cond.instanceMethod y_N_init ∈ nm_all := nm_in (List.mem_append_right _ (List.mem_of_getElem? (i := 71) (by decide +kernel))) (by decide +kernel)
theorem nm_c_N_init : Cond.code y_N_init b_N_init 1 none ∈ nm_all := nm_in (List.mem_append_right _ (List.mem_of_getElem? (i := 72) (by decide +kernel))) (by decide +kernel)
abbrev w_N_init : List Cond := Cond.code y_N_init b_N_init 1 none :: nm_all
theorem nm_73 : Cond.methodLink "FlowNest$Nest" 3 objectInit ∈ nm_all := nm_in (List.mem_append_right _ (List.mem_of_getElem? (i := 73) (by decide +kernel))) (by decide +kernel)
theorem nm_74 : Cond.fieldLink "FlowNest$Nest" 9 "FlowNest$Nest" "body" "[J" ∈ nm_all := nm_in (List.mem_append_right _ (List.mem_of_getElem? (i := 74) (by decide +kernel))) (by decide +kernel)
theorem nm_75 : Cond.fieldLink "FlowNest" 104 "FlowNest$Nest" "body" "[J" ∈ nm_all := nm_in (List.mem_append_right _ (List.mem_of_getElem? (i := 75) (by decide +kernel))) (by decide +kernel)
theorem nm_76 : Cond.fieldLink "FlowNest$Nest" 15 "FlowNest$Nest" "stale" "Z" ∈ nm_all := nm_in (List.mem_append_right _ (List.mem_of_getElem? (i := 76) (by decide +kernel))) (by decide +kernel)
theorem nm_77 : Cond.fieldLink "FlowNest" 44 "FlowNest$Nest" "stale" "Z" ∈ nm_all := nm_in (List.mem_append_right _ (List.mem_of_getElem? (i := 77) (by decide +kernel))) (by decide +kernel)
theorem nm_83 : Cond.fieldLink "FlowNest" 10 "FlowNest" "fromEntry" "LFlowNest$Side;" ∈ nm_all := nm_in (List.mem_append_right _ (List.mem_of_getElem? (i := 83) (by decide +kernel))) (by decide +kernel)
theorem nm_84 : Cond.fieldLink "FlowNest" 16 "FlowNest" "toExit" "LFlowNest$Side;" ∈ nm_all := nm_in (List.mem_append_right _ (List.mem_of_getElem? (i := 84) (by decide +kernel))) (by decide +kernel)
theorem nm_85 : Cond.fieldLink "FlowNest" 22 "FlowNest" "nest" "LFlowNest$Nest;" ∈ nm_all := nm_in (List.mem_append_right _ (List.mem_of_getElem? (i := 85) (by decide +kernel))) (by decide +kernel)
theorem nm_86 : Cond.fieldLink "FlowNest" 26 "FlowNest" "size" "I" ∈ nm_all := nm_in (List.mem_append_right _ (List.mem_of_getElem? (i := 86) (by decide +kernel))) (by decide +kernel)
theorem nm_87 : Cond.fieldLink "FlowNest" 30 "FlowNest" "linkCount" "I" ∈ nm_all := nm_in (List.mem_append_right _ (List.mem_of_getElem? (i := 87) (by decide +kernel))) (by decide +kernel)
theorem nm_99 : Cond.methodLink "FlowNestLaw" 102 y_F_spread ∈ nm_all := nm_in (List.mem_append_right _ (List.mem_of_getElem? (i := 99) (by decide +kernel))) (by decide +kernel)
theorem nm_100 : Cond.instanceMethod y_F_spread ∈ nm_all := nm_in (List.mem_append_right _ (List.mem_of_getElem? (i := 100) (by decide +kernel))) (by decide +kernel)
theorem nm_101 : Cond.selects "FlowNest" y_F_spread y_F_spread ∈ nm_all := nm_in (List.mem_append_right _ (List.mem_of_getElem? (i := 101) (by decide +kernel))) (by decide +kernel)
theorem nm_c_F_spread : Cond.code y_F_spread b_F_spread 3 (some .long) ∈ nm_all := nm_in (List.mem_append_right _ (List.mem_of_getElem? (i := 102) (by decide +kernel))) (by decide +kernel)
abbrev w_F_spread : List Cond := Cond.code y_F_spread b_F_spread 3 (some .long) :: nm_all
theorem nm_103 : Cond.methodLink "FlowNest" 67 y_F_worked ∈ nm_all := nm_in (List.mem_append_right _ (List.mem_of_getElem? (i := 103) (by decide +kernel))) (by decide +kernel)
theorem nm_105 : Cond.instanceMethod y_F_worked ∈ nm_all := nm_in (List.mem_append_right _ (List.mem_of_getElem? (i := 105) (by decide +kernel))) (by decide +kernel)
theorem nm_c_F_worked : Cond.code y_F_worked b_F_worked 3 (some (.object "FlowNest$Side")) ∈ nm_all := nm_in (List.mem_append_right _ (List.mem_of_getElem? (i := 106) (by decide +kernel))) (by decide +kernel)
abbrev w_F_worked : List Cond := Cond.code y_F_worked b_F_worked 3 (some (.object "FlowNest$Side")) :: nm_all
theorem nm_107 : Cond.methodLink "FlowNest" 137 y_S_workOut ∈ nm_all := nm_in (List.mem_append_right _ (List.mem_of_getElem? (i := 107) (by decide +kernel))) (by decide +kernel)
theorem nm_108 : Cond.instanceMethod y_S_workOut ∈ nm_all := nm_in (List.mem_append_right _ (List.mem_of_getElem? (i := 108) (by decide +kernel))) (by decide +kernel)
theorem nm_109 : Cond.selects "FlowNest$Side" y_S_workOut y_S_workOut ∈ nm_all := nm_in (List.mem_append_right _ (List.mem_of_getElem? (i := 109) (by decide +kernel))) (by decide +kernel)
theorem nm_c_S_workOut : Cond.code y_S_workOut b_S_workOut 1 none ∈ nm_all := nm_in (List.mem_append_right _ (List.mem_of_getElem? (i := 110) (by decide +kernel))) (by decide +kernel)
abbrev w_S_workOut : List Cond := Cond.code y_S_workOut b_S_workOut 1 none :: nm_all
theorem nm_111 : Cond.methodLink "FlowNest$Side" 56 y_S_goOver ∈ nm_all := nm_in (List.mem_append_right _ (List.mem_of_getElem? (i := 111) (by decide +kernel))) (by decide +kernel)
theorem nm_113 : Cond.instanceMethod y_S_goOver ∈ nm_all := nm_in (List.mem_append_right _ (List.mem_of_getElem? (i := 113) (by decide +kernel))) (by decide +kernel)
theorem nm_c_S_goOver : Cond.code y_S_goOver b_S_goOver 7 none ∈ nm_all := nm_in (List.mem_append_right _ (List.mem_of_getElem? (i := 114) (by decide +kernel))) (by decide +kernel)
abbrev w_S_goOver : List Cond := Cond.code y_S_goOver b_S_goOver 7 none :: nm_all
theorem nm_115 : Cond.methodLink "FlowNest$Side" 62 y_Y_fillI ∈ nm_all := nm_in (List.mem_append_right _ (List.mem_of_getElem? (i := 115) (by decide +kernel))) (by decide +kernel)
theorem nm_116 : Cond.static y_Y_fillI ∈ nm_all := nm_in (List.mem_append_right _ (List.mem_of_getElem? (i := 116) (by decide +kernel))) (by decide +kernel)
theorem nm_c_Y_fillI : Cond.code y_Y_fillI b_Y_fillI 4 none ∈ nm_all := nm_in (List.mem_append_right _ (List.mem_of_getElem? (i := 117) (by decide +kernel))) (by decide +kernel)
abbrev w_Y_fillI : List Cond := Cond.code y_Y_fillI b_Y_fillI 4 none :: nm_all
theorem nm_119 : Cond.static y_F_bit ∈ nm_all := nm_in (List.mem_append_right _ (List.mem_of_getElem? (i := 119) (by decide +kernel))) (by decide +kernel)
theorem nm_c_F_bit : Cond.code y_F_bit b_F_bit 1 (some .long) ∈ nm_all := nm_in (List.mem_append_right _ (List.mem_of_getElem? (i := 120) (by decide +kernel))) (by decide +kernel)
abbrev w_F_bit : List Cond := Cond.code y_F_bit b_F_bit 1 (some .long) :: nm_all
theorem nm_121 : Cond.constantLong "FlowNest$Side" 65 (-1) ∈ nm_all := nm_in (List.mem_append_right _ (List.mem_of_getElem? (i := 121) (by decide +kernel))) (by decide +kernel)
theorem nm_123 : Cond.static y_F_following ∈ nm_all := nm_in (List.mem_append_right _ (List.mem_of_getElem? (i := 123) (by decide +kernel))) (by decide +kernel)
theorem nm_c_F_following : Cond.code y_F_following b_F_following 5 (some .int) ∈ nm_all := nm_in (List.mem_append_right _ (List.mem_of_getElem? (i := 124) (by decide +kernel))) (by decide +kernel)
abbrev w_F_following : List Cond := Cond.code y_F_following b_F_following 5 (some .int) :: nm_all
theorem nm_125 : Cond.constantLong "FlowNest" 98 (-1) ∈ nm_all := nm_in (List.mem_append_right _ (List.mem_of_getElem? (i := 125) (by decide +kernel))) (by decide +kernel)
theorem nm_126 : Cond.methodLink "FlowNest" 81 y_B_bitCount ∈ nm_all := nm_in (List.mem_append_right _ (List.mem_of_getElem? (i := 126) (by decide +kernel))) (by decide +kernel)
theorem nm_127 : Cond.static y_B_bitCount ∈ nm_all := nm_in (List.mem_append_right _ (List.mem_of_getElem? (i := 127) (by decide +kernel))) (by decide +kernel)
theorem nm_c_B_bitCount : Cond.code y_B_bitCount b_B_bitCount 2 (some .int) ∈ nm_all := nm_in (List.mem_append_right _ (List.mem_of_getElem? (i := 128) (by decide +kernel))) (by decide +kernel)
abbrev w_B_bitCount : List Cond := Cond.code y_B_bitCount b_B_bitCount 2 (some .int) :: nm_all
theorem nm_129 : Cond.constantLong "java/lang/Long" 314 (6148914691236517205) ∈ nm_all := nm_in (List.mem_append_right _ (List.mem_of_getElem? (i := 129) (by decide +kernel))) (by decide +kernel)
theorem nm_130 : Cond.constantLong "java/lang/Long" 316 (3689348814741910323) ∈ nm_all := nm_in (List.mem_append_right _ (List.mem_of_getElem? (i := 130) (by decide +kernel))) (by decide +kernel)
theorem nm_131 : Cond.constantLong "java/lang/Long" 318 (1085102592571150095) ∈ nm_all := nm_in (List.mem_append_right _ (List.mem_of_getElem? (i := 131) (by decide +kernel))) (by decide +kernel)
theorem nm_132 : Cond.methodLink "FlowNest$Side" 59 y_S_dominate ∈ nm_all := nm_in (List.mem_append_right _ (List.mem_of_getElem? (i := 132) (by decide +kernel))) (by decide +kernel)
theorem nm_134 : Cond.instanceMethod y_S_dominate ∈ nm_all := nm_in (List.mem_append_right _ (List.mem_of_getElem? (i := 134) (by decide +kernel))) (by decide +kernel)
theorem nm_c_S_dominate : Cond.code y_S_dominate b_S_dominate 4 none ∈ nm_all := nm_in (List.mem_append_right _ (List.mem_of_getElem? (i := 135) (by decide +kernel))) (by decide +kernel)
abbrev w_S_dominate : List Cond := Cond.code y_S_dominate b_S_dominate 4 none :: nm_all
theorem nm_137 : Cond.static y_F_has ∈ nm_all := nm_in (List.mem_append_right _ (List.mem_of_getElem? (i := 137) (by decide +kernel))) (by decide +kernel)
theorem nm_c_F_has : Cond.code y_F_has b_F_has 3 (some .boolean) ∈ nm_all := nm_in (List.mem_append_right _ (List.mem_of_getElem? (i := 138) (by decide +kernel))) (by decide +kernel)
abbrev w_F_has : List Cond := Cond.code y_F_has b_F_has 3 (some .boolean) :: nm_all
theorem nm_139 : Cond.methodLink "FlowNest" 95 y_F_bit ∈ nm_all := nm_in (List.mem_append_right _ (List.mem_of_getElem? (i := 139) (by decide +kernel))) (by decide +kernel)
theorem nm_140 : Cond.methodLink "FlowNest$Side" 75 y_B_bitCount ∈ nm_all := nm_in (List.mem_append_right _ (List.mem_of_getElem? (i := 140) (by decide +kernel))) (by decide +kernel)
theorem nm_141 : Cond.methodLink "FlowNest$Side" 81 y_S_pushAlong ∈ nm_all := nm_in (List.mem_append_right _ (List.mem_of_getElem? (i := 141) (by decide +kernel))) (by decide +kernel)
theorem nm_143 : Cond.instanceMethod y_S_pushAlong ∈ nm_all := nm_in (List.mem_append_right _ (List.mem_of_getElem? (i := 143) (by decide +kernel))) (by decide +kernel)
theorem nm_c_S_pushAlong : Cond.code y_S_pushAlong b_S_pushAlong 9 (some .boolean) ∈ nm_all := nm_in (List.mem_append_right _ (List.mem_of_getElem? (i := 144) (by decide +kernel))) (by decide +kernel)
abbrev w_S_pushAlong : List Cond := Cond.code y_S_pushAlong b_S_pushAlong 9 (some .boolean) :: nm_all
theorem nm_145 : Cond.methodLink "FlowNest" 91 y_S_rimsFrom ∈ nm_all := nm_in (List.mem_append_right _ (List.mem_of_getElem? (i := 145) (by decide +kernel))) (by decide +kernel)
theorem nm_146 : Cond.instanceMethod y_S_rimsFrom ∈ nm_all := nm_in (List.mem_append_right _ (List.mem_of_getElem? (i := 146) (by decide +kernel))) (by decide +kernel)
theorem nm_147 : Cond.selects "FlowNest$Side" y_S_rimsFrom y_S_rimsFrom ∈ nm_all := nm_in (List.mem_append_right _ (List.mem_of_getElem? (i := 147) (by decide +kernel))) (by decide +kernel)
theorem nm_c_S_rimsFrom : Cond.code y_S_rimsFrom b_S_rimsFrom 11 (some .long) ∈ nm_all := nm_in (List.mem_append_right _ (List.mem_of_getElem? (i := 148) (by decide +kernel))) (by decide +kernel)
abbrev w_S_rimsFrom : List Cond := Cond.code y_S_rimsFrom b_S_rimsFrom 11 (some .long) :: nm_all
theorem nm_149 : Cond.methodLink "FlowNest$Side" 85 y_S_rimOf ∈ nm_all := nm_in (List.mem_append_right _ (List.mem_of_getElem? (i := 149) (by decide +kernel))) (by decide +kernel)
theorem nm_150 : Cond.instanceMethod y_S_rimOf ∈ nm_all := nm_in (List.mem_append_right _ (List.mem_of_getElem? (i := 150) (by decide +kernel))) (by decide +kernel)
theorem nm_151 : Cond.selects "FlowNest$Side" y_S_rimOf y_S_rimOf ∈ nm_all := nm_in (List.mem_append_right _ (List.mem_of_getElem? (i := 151) (by decide +kernel))) (by decide +kernel)
theorem nm_c_S_rimOf : Cond.code y_S_rimOf b_S_rimOf 7 (some .long) ∈ nm_all := nm_in (List.mem_append_right _ (List.mem_of_getElem? (i := 152) (by decide +kernel))) (by decide +kernel)
abbrev w_S_rimOf : List Cond := Cond.code y_S_rimOf b_S_rimOf 7 (some .long) :: nm_all
theorem nm_153 : Cond.methodLink "FlowNestLaw" 116 y_F_loops ∈ nm_all := nm_in (List.mem_append_right _ (List.mem_of_getElem? (i := 153) (by decide +kernel))) (by decide +kernel)
theorem nm_154 : Cond.instanceMethod y_F_loops ∈ nm_all := nm_in (List.mem_append_right _ (List.mem_of_getElem? (i := 154) (by decide +kernel))) (by decide +kernel)
theorem nm_155 : Cond.selects "FlowNest" y_F_loops y_F_loops ∈ nm_all := nm_in (List.mem_append_right _ (List.mem_of_getElem? (i := 155) (by decide +kernel))) (by decide +kernel)
theorem nm_c_F_loops : Cond.code y_F_loops b_F_loops 1 (some .int) ∈ nm_all := nm_in (List.mem_append_right _ (List.mem_of_getElem? (i := 156) (by decide +kernel))) (by decide +kernel)
abbrev w_F_loops : List Cond := Cond.code y_F_loops b_F_loops 1 (some .int) :: nm_all
theorem nm_157 : Cond.methodLink "FlowNest" 100 y_F_nested ∈ nm_all := nm_in (List.mem_append_right _ (List.mem_of_getElem? (i := 157) (by decide +kernel))) (by decide +kernel)
theorem nm_159 : Cond.instanceMethod y_F_nested ∈ nm_all := nm_in (List.mem_append_right _ (List.mem_of_getElem? (i := 159) (by decide +kernel))) (by decide +kernel)
theorem nm_c_F_nested : Cond.code y_F_nested b_F_nested 1 (some (.object "FlowNest$Nest")) ∈ nm_all := nm_in (List.mem_append_right _ (List.mem_of_getElem? (i := 160) (by decide +kernel))) (by decide +kernel)
abbrev w_F_nested : List Cond := Cond.code y_F_nested b_F_nested 1 (some (.object "FlowNest$Nest")) :: nm_all
theorem nm_161 : Cond.methodLink "FlowNest" 140 y_N_workOut ∈ nm_all := nm_in (List.mem_append_right _ (List.mem_of_getElem? (i := 161) (by decide +kernel))) (by decide +kernel)
theorem nm_162 : Cond.instanceMethod y_N_workOut ∈ nm_all := nm_in (List.mem_append_right _ (List.mem_of_getElem? (i := 162) (by decide +kernel))) (by decide +kernel)
theorem nm_163 : Cond.selects "FlowNest$Nest" y_N_workOut y_N_workOut ∈ nm_all := nm_in (List.mem_append_right _ (List.mem_of_getElem? (i := 163) (by decide +kernel))) (by decide +kernel)
theorem nm_c_N_workOut : Cond.code y_N_workOut b_N_workOut 4 none ∈ nm_all := nm_in (List.mem_append_right _ (List.mem_of_getElem? (i := 164) (by decide +kernel))) (by decide +kernel)
abbrev w_N_workOut : List Cond := Cond.code y_N_workOut b_N_workOut 4 none :: nm_all
theorem nm_165 : Cond.methodLink "FlowNest$Nest" 25 y_N_bodyOf ∈ nm_all := nm_in (List.mem_append_right _ (List.mem_of_getElem? (i := 165) (by decide +kernel))) (by decide +kernel)
theorem nm_166 : Cond.static y_N_bodyOf ∈ nm_all := nm_in (List.mem_append_right _ (List.mem_of_getElem? (i := 166) (by decide +kernel))) (by decide +kernel)
theorem nm_c_N_bodyOf : Cond.code y_N_bodyOf b_N_bodyOf 9 (some .long) ∈ nm_all := nm_in (List.mem_append_right _ (List.mem_of_getElem? (i := 167) (by decide +kernel))) (by decide +kernel)
abbrev w_N_bodyOf : List Cond := Cond.code y_N_bodyOf b_N_bodyOf 9 (some .long) :: nm_all
theorem nm_171 : Cond.constantLong "FlowNest$Nest" 48 (-1) ∈ nm_all := nm_in (List.mem_append_right _ (List.mem_of_getElem? (i := 171) (by decide +kernel))) (by decide +kernel)
theorem nm_172 : Cond.methodLink "FlowNest$Nest" 50 y_N_flood ∈ nm_all := nm_in (List.mem_append_right _ (List.mem_of_getElem? (i := 172) (by decide +kernel))) (by decide +kernel)
theorem nm_173 : Cond.static y_N_flood ∈ nm_all := nm_in (List.mem_append_right _ (List.mem_of_getElem? (i := 173) (by decide +kernel))) (by decide +kernel)
theorem nm_c_N_flood : Cond.code y_N_flood b_N_flood 14 (some .long) ∈ nm_all := nm_in (List.mem_append_right _ (List.mem_of_getElem? (i := 174) (by decide +kernel))) (by decide +kernel)
abbrev w_N_flood : List Cond := Cond.code y_N_flood b_N_flood 14 (some .long) :: nm_all
theorem nm_175 : Cond.methodLink "FlowNest" 107 y_N_count ∈ nm_all := nm_in (List.mem_append_right _ (List.mem_of_getElem? (i := 175) (by decide +kernel))) (by decide +kernel)
theorem nm_176 : Cond.instanceMethod y_N_count ∈ nm_all := nm_in (List.mem_append_right _ (List.mem_of_getElem? (i := 176) (by decide +kernel))) (by decide +kernel)
theorem nm_177 : Cond.selects "FlowNest$Nest" y_N_count y_N_count ∈ nm_all := nm_in (List.mem_append_right _ (List.mem_of_getElem? (i := 177) (by decide +kernel))) (by decide +kernel)
theorem nm_c_N_count : Cond.code y_N_count b_N_count 4 (some .int) ∈ nm_all := nm_in (List.mem_append_right _ (List.mem_of_getElem? (i := 178) (by decide +kernel))) (by decide +kernel)
abbrev w_N_count : List Cond := Cond.code y_N_count b_N_count 4 (some .int) :: nm_all
theorem nm_179 : Cond.methodLink "FlowNestLaw" 126 y_F_isReducible ∈ nm_all := nm_in (List.mem_append_right _ (List.mem_of_getElem? (i := 179) (by decide +kernel))) (by decide +kernel)
theorem nm_180 : Cond.instanceMethod y_F_isReducible ∈ nm_all := nm_in (List.mem_append_right _ (List.mem_of_getElem? (i := 180) (by decide +kernel))) (by decide +kernel)
theorem nm_181 : Cond.selects "FlowNest" y_F_isReducible y_F_isReducible ∈ nm_all := nm_in (List.mem_append_right _ (List.mem_of_getElem? (i := 181) (by decide +kernel))) (by decide +kernel)
theorem nm_c_F_isReducible : Cond.code y_F_isReducible b_F_isReducible 1 (some .boolean) ∈ nm_all := nm_in (List.mem_append_right _ (List.mem_of_getElem? (i := 182) (by decide +kernel))) (by decide +kernel)
abbrev w_F_isReducible : List Cond := Cond.code y_F_isReducible b_F_isReducible 1 (some .boolean) :: nm_all
theorem nm_183 : Cond.methodLink "FlowNest" 118 y_S_ringsGoBack ∈ nm_all := nm_in (List.mem_append_right _ (List.mem_of_getElem? (i := 183) (by decide +kernel))) (by decide +kernel)
theorem nm_184 : Cond.instanceMethod y_S_ringsGoBack ∈ nm_all := nm_in (List.mem_append_right _ (List.mem_of_getElem? (i := 184) (by decide +kernel))) (by decide +kernel)
theorem nm_185 : Cond.selects "FlowNest$Side" y_S_ringsGoBack y_S_ringsGoBack ∈ nm_all := nm_in (List.mem_append_right _ (List.mem_of_getElem? (i := 185) (by decide +kernel))) (by decide +kernel)
theorem nm_c_S_ringsGoBack : Cond.code y_S_ringsGoBack b_S_ringsGoBack 6 (some .boolean) ∈ nm_all := nm_in (List.mem_append_right _ (List.mem_of_getElem? (i := 186) (by decide +kernel))) (by decide +kernel)
abbrev w_S_ringsGoBack : List Cond := Cond.code y_S_ringsGoBack b_S_ringsGoBack 6 (some .boolean) :: nm_all
theorem nm_187 : Cond.methodLink "FlowNestLaw" 134 y_F_told ∈ nm_all := nm_in (List.mem_append_right _ (List.mem_of_getElem? (i := 187) (by decide +kernel))) (by decide +kernel)
theorem nm_188 : Cond.instanceMethod y_F_told ∈ nm_all := nm_in (List.mem_append_right _ (List.mem_of_getElem? (i := 188) (by decide +kernel))) (by decide +kernel)
theorem nm_189 : Cond.selects "FlowNest" y_F_told y_F_told ∈ nm_all := nm_in (List.mem_append_right _ (List.mem_of_getElem? (i := 189) (by decide +kernel))) (by decide +kernel)
theorem nm_c_F_told : Cond.code y_F_told b_F_told 2 (some .int) ∈ nm_all := nm_in (List.mem_append_right _ (List.mem_of_getElem? (i := 190) (by decide +kernel))) (by decide +kernel)
abbrev w_F_told : List Cond := Cond.code y_F_told b_F_told 2 (some .int) :: nm_all
theorem nm_191 : Cond.methodLink "FlowNestLaw" 66 y_L_begin ∈ nm_all := nm_in (List.mem_append_right _ (List.mem_of_getElem? (i := 191) (by decide +kernel))) (by decide +kernel)
theorem nm_192 : Cond.static y_L_begin ∈ nm_all := nm_in (List.mem_append_right _ (List.mem_of_getElem? (i := 192) (by decide +kernel))) (by decide +kernel)
theorem nm_c_L_begin : Cond.codeWith y_L_begin b_L_begin 4 (some .int) [(0, 9, 12, 13)] ∈ nm_all := nm_in (List.mem_append_right _ (List.mem_of_getElem? (i := 193) (by decide +kernel))) (by decide +kernel)
abbrev w_L_begin : List Cond := Cond.codeWith y_L_begin b_L_begin 4 (some .int) [(0, 9, 12, 13)] :: nm_all
theorem nm_194 : Cond.classLink "FlowNestLaw" 13 "java/lang/IllegalArgumentException" ∈ nm_all := nm_in (List.mem_append_right _ (List.mem_of_getElem? (i := 194) (by decide +kernel))) (by decide +kernel)
theorem nm_195 : Cond.methodLink "FlowNestLaw" 7 y_F_begin ∈ nm_all := nm_in (List.mem_append_right _ (List.mem_of_getElem? (i := 195) (by decide +kernel))) (by decide +kernel)
theorem nm_196 : Cond.instanceMethod y_F_begin ∈ nm_all := nm_in (List.mem_append_right _ (List.mem_of_getElem? (i := 196) (by decide +kernel))) (by decide +kernel)
theorem nm_197 : Cond.selects "FlowNest" y_F_begin y_F_begin ∈ nm_all := nm_in (List.mem_append_right _ (List.mem_of_getElem? (i := 197) (by decide +kernel))) (by decide +kernel)
theorem nm_c_F_begin : Cond.code y_F_begin b_F_begin 3 (some .int) ∈ nm_all := nm_in (List.mem_append_right _ (List.mem_of_getElem? (i := 198) (by decide +kernel))) (by decide +kernel)
abbrev w_F_begin : List Cond := Cond.code y_F_begin b_F_begin 3 (some .int) :: nm_all
theorem nm_199 : Cond.classLink "FlowNest" 33 "java/lang/IllegalArgumentException" ∈ nm_all := nm_in (List.mem_append_right _ (List.mem_of_getElem? (i := 199) (by decide +kernel))) (by decide +kernel)
theorem nm_200 : Cond.instantiable "java/lang/IllegalArgumentException" 6 ∈ nm_all := nm_in (List.mem_append_right _ (List.mem_of_getElem? (i := 200) (by decide +kernel))) (by decide +kernel)
theorem nm_220 : Cond.fieldLink "java/lang/Throwable" 198 "java/lang/Throwable" "backtrace" "Ljava/lang/Object;" ∈ nm_all := nm_in (List.mem_append_right _ (List.mem_of_getElem? (i := 220) (by decide +kernel))) (by decide +kernel)
theorem nm_224 : Cond.methodLink "java/lang/Throwable" 1 objectInit ∈ nm_all := nm_in (List.mem_append_right _ (List.mem_of_getElem? (i := 224) (by decide +kernel))) (by decide +kernel)
theorem nm_225 : Cond.fieldLink "java/lang/Throwable" 13 "java/lang/Throwable" "UNASSIGNED_STACK" "[Ljava/lang/StackTraceElement;" ∈ nm_all := nm_in (List.mem_append_right _ (List.mem_of_getElem? (i := 225) (by decide +kernel))) (by decide +kernel)
theorem nm_227 : Cond.fieldLink "java/lang/Throwable" 20 "java/lang/Throwable" "SUPPRESSED_SENTINEL" "Ljava/util/List;" ∈ nm_all := nm_in (List.mem_append_right _ (List.mem_of_getElem? (i := 227) (by decide +kernel))) (by decide +kernel)
theorem nm_237 : Cond.instantiable "java/lang/Throwable" 6 ∈ nm_all := nm_in (List.mem_append_right _ (List.mem_of_getElem? (i := 237) (by decide +kernel))) (by decide +kernel)
theorem nm_252 : Cond.fieldLink "java/lang/Throwable" 198 "java/lang/Throwable" "backtrace" "Ljava/lang/Object;" ∈ nm_all := nm_in (List.mem_append_right _ (List.mem_of_getElem? (i := 252) (by decide +kernel))) (by decide +kernel)
theorem nm_253 : Cond.fieldLink "java/lang/Throwable" 31 "java/lang/Throwable" "detailMessage" "Ljava/lang/String;" ∈ nm_all := nm_in (List.mem_append_right _ (List.mem_of_getElem? (i := 253) (by decide +kernel))) (by decide +kernel)
theorem nm_254 : Cond.fieldLink "java/lang/Throwable" 7 "java/lang/Throwable" "cause" "Ljava/lang/Throwable;" ∈ nm_all := nm_in (List.mem_append_right _ (List.mem_of_getElem? (i := 254) (by decide +kernel))) (by decide +kernel)
theorem nm_255 : Cond.fieldLink "java/lang/Throwable" 17 "java/lang/Throwable" "stackTrace" "[Ljava/lang/StackTraceElement;" ∈ nm_all := nm_in (List.mem_append_right _ (List.mem_of_getElem? (i := 255) (by decide +kernel))) (by decide +kernel)
theorem nm_256 : Cond.fieldLink "java/lang/Throwable" 24 "java/lang/Throwable" "suppressedExceptions" "Ljava/util/List;" ∈ nm_all := nm_in (List.mem_append_right _ (List.mem_of_getElem? (i := 256) (by decide +kernel))) (by decide +kernel)
theorem nm_265 : Cond.arrayClass .byte ∈ nm_all := nm_in (List.mem_append_right _ (List.mem_of_getElem? (i := 265) (by decide +kernel))) (by decide +kernel)
theorem nm_266 : Cond.methodLink "FlowNest" 40 y_S_startWith ∈ nm_all := nm_in (List.mem_append_right _ (List.mem_of_getElem? (i := 266) (by decide +kernel))) (by decide +kernel)
theorem nm_267 : Cond.instanceMethod y_S_startWith ∈ nm_all := nm_in (List.mem_append_right _ (List.mem_of_getElem? (i := 267) (by decide +kernel))) (by decide +kernel)
theorem nm_268 : Cond.selects "FlowNest$Side" y_S_startWith y_S_startWith ∈ nm_all := nm_in (List.mem_append_right _ (List.mem_of_getElem? (i := 268) (by decide +kernel))) (by decide +kernel)
theorem nm_c_S_startWith : Cond.code y_S_startWith b_S_startWith 3 none ∈ nm_all := nm_in (List.mem_append_right _ (List.mem_of_getElem? (i := 269) (by decide +kernel))) (by decide +kernel)
abbrev w_S_startWith : List Cond := Cond.code y_S_startWith b_S_startWith 3 none :: nm_all
theorem nm_270 : Cond.methodLink "FlowNest$Side" 46 y_Y_fillJ ∈ nm_all := nm_in (List.mem_append_right _ (List.mem_of_getElem? (i := 270) (by decide +kernel))) (by decide +kernel)
theorem nm_271 : Cond.static y_Y_fillJ ∈ nm_all := nm_in (List.mem_append_right _ (List.mem_of_getElem? (i := 271) (by decide +kernel))) (by decide +kernel)
theorem nm_c_Y_fillJ : Cond.code y_Y_fillJ b_Y_fillJ 5 none ∈ nm_all := nm_in (List.mem_append_right _ (List.mem_of_getElem? (i := 272) (by decide +kernel))) (by decide +kernel)
abbrev w_Y_fillJ : List Cond := Cond.code y_Y_fillJ b_Y_fillJ 5 none :: nm_all
theorem nm_273 : Cond.methodLink "FlowNestLaw" 76 y_L_link ∈ nm_all := nm_in (List.mem_append_right _ (List.mem_of_getElem? (i := 273) (by decide +kernel))) (by decide +kernel)
theorem nm_274 : Cond.static y_L_link ∈ nm_all := nm_in (List.mem_append_right _ (List.mem_of_getElem? (i := 274) (by decide +kernel))) (by decide +kernel)
theorem nm_c_L_link : Cond.codeWith y_L_link b_L_link 5 (some .int) [(0, 10, 13, 19)] ∈ nm_all := nm_in (List.mem_append_right _ (List.mem_of_getElem? (i := 275) (by decide +kernel))) (by decide +kernel)
abbrev w_L_link : List Cond := Cond.codeWith y_L_link b_L_link 5 (some .int) [(0, 10, 13, 19)] :: nm_all
theorem nm_276 : Cond.classLink "FlowNestLaw" 19 "java/lang/IndexOutOfBoundsException" ∈ nm_all := nm_in (List.mem_append_right _ (List.mem_of_getElem? (i := 276) (by decide +kernel))) (by decide +kernel)
theorem nm_277 : Cond.methodLink "FlowNestLaw" 15 y_F_link ∈ nm_all := nm_in (List.mem_append_right _ (List.mem_of_getElem? (i := 277) (by decide +kernel))) (by decide +kernel)
theorem nm_278 : Cond.instanceMethod y_F_link ∈ nm_all := nm_in (List.mem_append_right _ (List.mem_of_getElem? (i := 278) (by decide +kernel))) (by decide +kernel)
theorem nm_279 : Cond.selects "FlowNest" y_F_link y_F_link ∈ nm_all := nm_in (List.mem_append_right _ (List.mem_of_getElem? (i := 279) (by decide +kernel))) (by decide +kernel)
theorem nm_c_F_link : Cond.code y_F_link b_F_link 4 (some .int) ∈ nm_all := nm_in (List.mem_append_right _ (List.mem_of_getElem? (i := 280) (by decide +kernel))) (by decide +kernel)
abbrev w_F_link : List Cond := Cond.code y_F_link b_F_link 4 (some .int) :: nm_all
theorem nm_281 : Cond.methodLink "FlowNest" 48 y_F_requireVertex ∈ nm_all := nm_in (List.mem_append_right _ (List.mem_of_getElem? (i := 281) (by decide +kernel))) (by decide +kernel)
theorem nm_283 : Cond.instanceMethod y_F_requireVertex ∈ nm_all := nm_in (List.mem_append_right _ (List.mem_of_getElem? (i := 283) (by decide +kernel))) (by decide +kernel)
theorem nm_c_F_requireVertex : Cond.code y_F_requireVertex b_F_requireVertex 2 none ∈ nm_all := nm_in (List.mem_append_right _ (List.mem_of_getElem? (i := 284) (by decide +kernel))) (by decide +kernel)
abbrev w_F_requireVertex : List Cond := Cond.code y_F_requireVertex b_F_requireVertex 2 none :: nm_all
theorem nm_285 : Cond.classLink "FlowNest" 132 "java/lang/IndexOutOfBoundsException" ∈ nm_all := nm_in (List.mem_append_right _ (List.mem_of_getElem? (i := 285) (by decide +kernel))) (by decide +kernel)
theorem nm_286 : Cond.instantiable "java/lang/IndexOutOfBoundsException" 6 ∈ nm_all := nm_in (List.mem_append_right _ (List.mem_of_getElem? (i := 286) (by decide +kernel))) (by decide +kernel)
theorem nm_301 : Cond.methodLink "FlowNest" 52 y_S_turn ∈ nm_all := nm_in (List.mem_append_right _ (List.mem_of_getElem? (i := 301) (by decide +kernel))) (by decide +kernel)
theorem nm_302 : Cond.instanceMethod y_S_turn ∈ nm_all := nm_in (List.mem_append_right _ (List.mem_of_getElem? (i := 302) (by decide +kernel))) (by decide +kernel)
theorem nm_303 : Cond.selects "FlowNest$Side" y_S_turn y_S_turn ∈ nm_all := nm_in (List.mem_append_right _ (List.mem_of_getElem? (i := 303) (by decide +kernel))) (by decide +kernel)
theorem nm_c_S_turn : Cond.code y_S_turn b_S_turn 3 none ∈ nm_all := nm_in (List.mem_append_right _ (List.mem_of_getElem? (i := 304) (by decide +kernel))) (by decide +kernel)
abbrev w_S_turn : List Cond := Cond.code y_S_turn b_S_turn 3 none :: nm_all
theorem nm_305 : Cond.methodLink "FlowNest" 59 y_F_has ∈ nm_all := nm_in (List.mem_append_right _ (List.mem_of_getElem? (i := 305) (by decide +kernel))) (by decide +kernel)
theorem nm_306 : Cond.methodLink "FlowNestLaw" 80 y_L_place ∈ nm_all := nm_in (List.mem_append_right _ (List.mem_of_getElem? (i := 306) (by decide +kernel))) (by decide +kernel)
theorem nm_307 : Cond.static y_L_place ∈ nm_all := nm_in (List.mem_append_right _ (List.mem_of_getElem? (i := 307) (by decide +kernel))) (by decide +kernel)
theorem nm_c_L_place : Cond.codeWith y_L_place b_L_place 5 (some .int) [(0, 10, 13, 19)] ∈ nm_all := nm_in (List.mem_append_right _ (List.mem_of_getElem? (i := 308) (by decide +kernel))) (by decide +kernel)
abbrev w_L_place : List Cond := Cond.codeWith y_L_place b_L_place 5 (some .int) [(0, 10, 13, 19)] :: nm_all
theorem nm_309 : Cond.methodLink "FlowNestLaw" 21 y_F_place ∈ nm_all := nm_in (List.mem_append_right _ (List.mem_of_getElem? (i := 309) (by decide +kernel))) (by decide +kernel)
theorem nm_310 : Cond.instanceMethod y_F_place ∈ nm_all := nm_in (List.mem_append_right _ (List.mem_of_getElem? (i := 310) (by decide +kernel))) (by decide +kernel)
theorem nm_311 : Cond.selects "FlowNest" y_F_place y_F_place ∈ nm_all := nm_in (List.mem_append_right _ (List.mem_of_getElem? (i := 311) (by decide +kernel))) (by decide +kernel)
theorem nm_c_F_place : Cond.code y_F_place b_F_place 3 (some .int) ∈ nm_all := nm_in (List.mem_append_right _ (List.mem_of_getElem? (i := 312) (by decide +kernel))) (by decide +kernel)
abbrev w_F_place : List Cond := Cond.code y_F_place b_F_place 3 (some .int) :: nm_all
theorem nm_313 : Cond.methodLink "FlowNest" 63 y_S_moveRoot ∈ nm_all := nm_in (List.mem_append_right _ (List.mem_of_getElem? (i := 313) (by decide +kernel))) (by decide +kernel)
theorem nm_314 : Cond.instanceMethod y_S_moveRoot ∈ nm_all := nm_in (List.mem_append_right _ (List.mem_of_getElem? (i := 314) (by decide +kernel))) (by decide +kernel)
theorem nm_315 : Cond.selects "FlowNest$Side" y_S_moveRoot y_S_moveRoot ∈ nm_all := nm_in (List.mem_append_right _ (List.mem_of_getElem? (i := 315) (by decide +kernel))) (by decide +kernel)
theorem nm_c_S_moveRoot : Cond.code y_S_moveRoot b_S_moveRoot 3 (some .int) ∈ nm_all := nm_in (List.mem_append_right _ (List.mem_of_getElem? (i := 316) (by decide +kernel))) (by decide +kernel)
abbrev w_S_moveRoot : List Cond := Cond.code y_S_moveRoot b_S_moveRoot 3 (some .int) :: nm_all
theorem nm_317 : Cond.methodLink "FlowNestLaw" 84 y_L_isReached ∈ nm_all := nm_in (List.mem_append_right _ (List.mem_of_getElem? (i := 317) (by decide +kernel))) (by decide +kernel)
theorem nm_318 : Cond.static y_L_isReached ∈ nm_all := nm_in (List.mem_append_right _ (List.mem_of_getElem? (i := 318) (by decide +kernel))) (by decide +kernel)
theorem nm_c_L_isReached : Cond.codeWith y_L_isReached b_L_isReached 5 (some .int) [(0, 17, 20, 19)] ∈ nm_all := nm_in (List.mem_append_right _ (List.mem_of_getElem? (i := 319) (by decide +kernel))) (by decide +kernel)
abbrev w_L_isReached : List Cond := Cond.codeWith y_L_isReached b_L_isReached 5 (some .int) [(0, 17, 20, 19)] :: nm_all
theorem nm_320 : Cond.methodLink "FlowNestLaw" 25 y_F_isReached ∈ nm_all := nm_in (List.mem_append_right _ (List.mem_of_getElem? (i := 320) (by decide +kernel))) (by decide +kernel)
theorem nm_321 : Cond.instanceMethod y_F_isReached ∈ nm_all := nm_in (List.mem_append_right _ (List.mem_of_getElem? (i := 321) (by decide +kernel))) (by decide +kernel)
theorem nm_322 : Cond.selects "FlowNest" y_F_isReached y_F_isReached ∈ nm_all := nm_in (List.mem_append_right _ (List.mem_of_getElem? (i := 322) (by decide +kernel))) (by decide +kernel)
theorem nm_c_F_isReached : Cond.code y_F_isReached b_F_isReached 3 (some .boolean) ∈ nm_all := nm_in (List.mem_append_right _ (List.mem_of_getElem? (i := 323) (by decide +kernel))) (by decide +kernel)
abbrev w_F_isReached : List Cond := Cond.code y_F_isReached b_F_isReached 3 (some .boolean) :: nm_all
theorem nm_324 : Cond.methodLink "FlowNestLaw" 87 y_L_dominator ∈ nm_all := nm_in (List.mem_append_right _ (List.mem_of_getElem? (i := 324) (by decide +kernel))) (by decide +kernel)
theorem nm_325 : Cond.static y_L_dominator ∈ nm_all := nm_in (List.mem_append_right _ (List.mem_of_getElem? (i := 325) (by decide +kernel))) (by decide +kernel)
theorem nm_c_L_dominator : Cond.codeWith y_L_dominator b_L_dominator 5 (some .int) [(0, 10, 13, 19)] ∈ nm_all := nm_in (List.mem_append_right _ (List.mem_of_getElem? (i := 326) (by decide +kernel))) (by decide +kernel)
abbrev w_L_dominator : List Cond := Cond.codeWith y_L_dominator b_L_dominator 5 (some .int) [(0, 10, 13, 19)] :: nm_all
theorem nm_327 : Cond.methodLink "FlowNestLaw" 29 y_F_dominator ∈ nm_all := nm_in (List.mem_append_right _ (List.mem_of_getElem? (i := 327) (by decide +kernel))) (by decide +kernel)
theorem nm_328 : Cond.instanceMethod y_F_dominator ∈ nm_all := nm_in (List.mem_append_right _ (List.mem_of_getElem? (i := 328) (by decide +kernel))) (by decide +kernel)
theorem nm_329 : Cond.selects "FlowNest" y_F_dominator y_F_dominator ∈ nm_all := nm_in (List.mem_append_right _ (List.mem_of_getElem? (i := 329) (by decide +kernel))) (by decide +kernel)
theorem nm_c_F_dominator : Cond.code y_F_dominator b_F_dominator 3 (some .int) ∈ nm_all := nm_in (List.mem_append_right _ (List.mem_of_getElem? (i := 330) (by decide +kernel))) (by decide +kernel)
abbrev w_F_dominator : List Cond := Cond.code y_F_dominator b_F_dominator 3 (some .int) :: nm_all
theorem nm_331 : Cond.methodLink "FlowNest" 75 y_S_closestAbove ∈ nm_all := nm_in (List.mem_append_right _ (List.mem_of_getElem? (i := 331) (by decide +kernel))) (by decide +kernel)
theorem nm_332 : Cond.instanceMethod y_S_closestAbove ∈ nm_all := nm_in (List.mem_append_right _ (List.mem_of_getElem? (i := 332) (by decide +kernel))) (by decide +kernel)
theorem nm_333 : Cond.selects "FlowNest$Side" y_S_closestAbove y_S_closestAbove ∈ nm_all := nm_in (List.mem_append_right _ (List.mem_of_getElem? (i := 333) (by decide +kernel))) (by decide +kernel)
theorem nm_c_S_closestAbove : Cond.code y_S_closestAbove b_S_closestAbove 5 (some .int) ∈ nm_all := nm_in (List.mem_append_right _ (List.mem_of_getElem? (i := 334) (by decide +kernel))) (by decide +kernel)
abbrev w_S_closestAbove : List Cond := Cond.code y_S_closestAbove b_S_closestAbove 5 (some .int) :: nm_all
theorem nm_335 : Cond.methodLink "FlowNestLaw" 90 y_L_dominates ∈ nm_all := nm_in (List.mem_append_right _ (List.mem_of_getElem? (i := 335) (by decide +kernel))) (by decide +kernel)
theorem nm_336 : Cond.static y_L_dominates ∈ nm_all := nm_in (List.mem_append_right _ (List.mem_of_getElem? (i := 336) (by decide +kernel))) (by decide +kernel)
theorem nm_c_L_dominates : Cond.codeWith y_L_dominates b_L_dominates 6 (some .int) [(0, 19, 22, 19)] ∈ nm_all := nm_in (List.mem_append_right _ (List.mem_of_getElem? (i := 337) (by decide +kernel))) (by decide +kernel)
abbrev w_L_dominates : List Cond := Cond.codeWith y_L_dominates b_L_dominates 6 (some .int) [(0, 19, 22, 19)] :: nm_all
theorem nm_338 : Cond.methodLink "FlowNestLaw" 32 y_F_dominates ∈ nm_all := nm_in (List.mem_append_right _ (List.mem_of_getElem? (i := 338) (by decide +kernel))) (by decide +kernel)
theorem nm_339 : Cond.instanceMethod y_F_dominates ∈ nm_all := nm_in (List.mem_append_right _ (List.mem_of_getElem? (i := 339) (by decide +kernel))) (by decide +kernel)
theorem nm_340 : Cond.selects "FlowNest" y_F_dominates y_F_dominates ∈ nm_all := nm_in (List.mem_append_right _ (List.mem_of_getElem? (i := 340) (by decide +kernel))) (by decide +kernel)
theorem nm_c_F_dominates : Cond.code y_F_dominates b_F_dominates 4 (some .boolean) ∈ nm_all := nm_in (List.mem_append_right _ (List.mem_of_getElem? (i := 341) (by decide +kernel))) (by decide +kernel)
abbrev w_F_dominates : List Cond := Cond.code y_F_dominates b_F_dominates 4 (some .boolean) :: nm_all
theorem nm_342 : Cond.methodLink "FlowNestLaw" 94 y_L_level ∈ nm_all := nm_in (List.mem_append_right _ (List.mem_of_getElem? (i := 342) (by decide +kernel))) (by decide +kernel)
theorem nm_343 : Cond.static y_L_level ∈ nm_all := nm_in (List.mem_append_right _ (List.mem_of_getElem? (i := 343) (by decide +kernel))) (by decide +kernel)
theorem nm_c_L_level : Cond.codeWith y_L_level b_L_level 4 (some .int) [(0, 9, 12, 19)] ∈ nm_all := nm_in (List.mem_append_right _ (List.mem_of_getElem? (i := 344) (by decide +kernel))) (by decide +kernel)
abbrev w_L_level : List Cond := Cond.codeWith y_L_level b_L_level 4 (some .int) [(0, 9, 12, 19)] :: nm_all
theorem nm_345 : Cond.methodLink "FlowNestLaw" 36 y_F_level ∈ nm_all := nm_in (List.mem_append_right _ (List.mem_of_getElem? (i := 345) (by decide +kernel))) (by decide +kernel)
theorem nm_346 : Cond.instanceMethod y_F_level ∈ nm_all := nm_in (List.mem_append_right _ (List.mem_of_getElem? (i := 346) (by decide +kernel))) (by decide +kernel)
theorem nm_347 : Cond.selects "FlowNest" y_F_level y_F_level ∈ nm_all := nm_in (List.mem_append_right _ (List.mem_of_getElem? (i := 347) (by decide +kernel))) (by decide +kernel)
theorem nm_c_F_level : Cond.code y_F_level b_F_level 3 (some .int) ∈ nm_all := nm_in (List.mem_append_right _ (List.mem_of_getElem? (i := 348) (by decide +kernel))) (by decide +kernel)
abbrev w_F_level : List Cond := Cond.code y_F_level b_F_level 3 (some .int) :: nm_all
theorem nm_349 : Cond.methodLink "FlowNestLaw" 97 y_L_frontier ∈ nm_all := nm_in (List.mem_append_right _ (List.mem_of_getElem? (i := 349) (by decide +kernel))) (by decide +kernel)
theorem nm_350 : Cond.static y_L_frontier ∈ nm_all := nm_in (List.mem_append_right _ (List.mem_of_getElem? (i := 350) (by decide +kernel))) (by decide +kernel)
theorem nm_c_L_frontier : Cond.codeWith y_L_frontier b_L_frontier 4 (some .int) [(0, 8, 11, 19)] ∈ nm_all := nm_in (List.mem_append_right _ (List.mem_of_getElem? (i := 351) (by decide +kernel))) (by decide +kernel)
abbrev w_L_frontier : List Cond := Cond.codeWith y_L_frontier b_L_frontier 4 (some .int) [(0, 8, 11, 19)] :: nm_all
theorem nm_352 : Cond.methodLink "FlowNestLaw" 39 y_F_frontier ∈ nm_all := nm_in (List.mem_append_right _ (List.mem_of_getElem? (i := 352) (by decide +kernel))) (by decide +kernel)
theorem nm_353 : Cond.instanceMethod y_F_frontier ∈ nm_all := nm_in (List.mem_append_right _ (List.mem_of_getElem? (i := 353) (by decide +kernel))) (by decide +kernel)
theorem nm_354 : Cond.selects "FlowNest" y_F_frontier y_F_frontier ∈ nm_all := nm_in (List.mem_append_right _ (List.mem_of_getElem? (i := 354) (by decide +kernel))) (by decide +kernel)
theorem nm_c_F_frontier : Cond.code y_F_frontier b_F_frontier 2 (some .long) ∈ nm_all := nm_in (List.mem_append_right _ (List.mem_of_getElem? (i := 355) (by decide +kernel))) (by decide +kernel)
abbrev w_F_frontier : List Cond := Cond.code y_F_frontier b_F_frontier 2 (some .long) :: nm_all
theorem nm_356 : Cond.methodLink "FlowNest" 87 y_S_rimOf ∈ nm_all := nm_in (List.mem_append_right _ (List.mem_of_getElem? (i := 356) (by decide +kernel))) (by decide +kernel)
theorem nm_357 : Cond.methodLink "FlowNestLaw" 107 y_L_controls ∈ nm_all := nm_in (List.mem_append_right _ (List.mem_of_getElem? (i := 357) (by decide +kernel))) (by decide +kernel)
theorem nm_358 : Cond.static y_L_controls ∈ nm_all := nm_in (List.mem_append_right _ (List.mem_of_getElem? (i := 358) (by decide +kernel))) (by decide +kernel)
theorem nm_c_L_controls : Cond.codeWith y_L_controls b_L_controls 4 (some .int) [(0, 8, 11, 19)] ∈ nm_all := nm_in (List.mem_append_right _ (List.mem_of_getElem? (i := 359) (by decide +kernel))) (by decide +kernel)
abbrev w_L_controls : List Cond := Cond.codeWith y_L_controls b_L_controls 4 (some .int) [(0, 8, 11, 19)] :: nm_all
theorem nm_360 : Cond.methodLink "FlowNestLaw" 43 y_F_controls ∈ nm_all := nm_in (List.mem_append_right _ (List.mem_of_getElem? (i := 360) (by decide +kernel))) (by decide +kernel)
theorem nm_361 : Cond.instanceMethod y_F_controls ∈ nm_all := nm_in (List.mem_append_right _ (List.mem_of_getElem? (i := 361) (by decide +kernel))) (by decide +kernel)
theorem nm_362 : Cond.selects "FlowNest" y_F_controls y_F_controls ∈ nm_all := nm_in (List.mem_append_right _ (List.mem_of_getElem? (i := 362) (by decide +kernel))) (by decide +kernel)
theorem nm_c_F_controls : Cond.code y_F_controls b_F_controls 8 (some .long) ∈ nm_all := nm_in (List.mem_append_right _ (List.mem_of_getElem? (i := 363) (by decide +kernel))) (by decide +kernel)
abbrev w_F_controls : List Cond := Cond.code y_F_controls b_F_controls 8 (some .long) :: nm_all
theorem nm_364 : Cond.methodLink "FlowNestLaw" 110 y_L_isBack ∈ nm_all := nm_in (List.mem_append_right _ (List.mem_of_getElem? (i := 364) (by decide +kernel))) (by decide +kernel)
theorem nm_365 : Cond.static y_L_isBack ∈ nm_all := nm_in (List.mem_append_right _ (List.mem_of_getElem? (i := 365) (by decide +kernel))) (by decide +kernel)
theorem nm_c_L_isBack : Cond.codeWith y_L_isBack b_L_isBack 5 (some .int) [(0, 17, 20, 19)] ∈ nm_all := nm_in (List.mem_append_right _ (List.mem_of_getElem? (i := 366) (by decide +kernel))) (by decide +kernel)
abbrev w_L_isBack : List Cond := Cond.codeWith y_L_isBack b_L_isBack 5 (some .int) [(0, 17, 20, 19)] :: nm_all
theorem nm_367 : Cond.methodLink "FlowNestLaw" 46 y_F_isBack ∈ nm_all := nm_in (List.mem_append_right _ (List.mem_of_getElem? (i := 367) (by decide +kernel))) (by decide +kernel)
theorem nm_368 : Cond.instanceMethod y_F_isBack ∈ nm_all := nm_in (List.mem_append_right _ (List.mem_of_getElem? (i := 368) (by decide +kernel))) (by decide +kernel)
theorem nm_369 : Cond.selects "FlowNest" y_F_isBack y_F_isBack ∈ nm_all := nm_in (List.mem_append_right _ (List.mem_of_getElem? (i := 369) (by decide +kernel))) (by decide +kernel)
theorem nm_c_F_isBack : Cond.code y_F_isBack b_F_isBack 3 (some .boolean) ∈ nm_all := nm_in (List.mem_append_right _ (List.mem_of_getElem? (i := 370) (by decide +kernel))) (by decide +kernel)
abbrev w_F_isBack : List Cond := Cond.code y_F_isBack b_F_isBack 3 (some .boolean) :: nm_all
theorem nm_371 : Cond.methodLink "FlowNestLaw" 113 y_L_loop ∈ nm_all := nm_in (List.mem_append_right _ (List.mem_of_getElem? (i := 371) (by decide +kernel))) (by decide +kernel)
theorem nm_372 : Cond.static y_L_loop ∈ nm_all := nm_in (List.mem_append_right _ (List.mem_of_getElem? (i := 372) (by decide +kernel))) (by decide +kernel)
theorem nm_c_L_loop : Cond.codeWith y_L_loop b_L_loop 4 (some .int) [(0, 8, 11, 19)] ∈ nm_all := nm_in (List.mem_append_right _ (List.mem_of_getElem? (i := 373) (by decide +kernel))) (by decide +kernel)
abbrev w_L_loop : List Cond := Cond.codeWith y_L_loop b_L_loop 4 (some .int) [(0, 8, 11, 19)] :: nm_all
theorem nm_374 : Cond.methodLink "FlowNestLaw" 50 y_F_loop ∈ nm_all := nm_in (List.mem_append_right _ (List.mem_of_getElem? (i := 374) (by decide +kernel))) (by decide +kernel)
theorem nm_375 : Cond.instanceMethod y_F_loop ∈ nm_all := nm_in (List.mem_append_right _ (List.mem_of_getElem? (i := 375) (by decide +kernel))) (by decide +kernel)
theorem nm_376 : Cond.selects "FlowNest" y_F_loop y_F_loop ∈ nm_all := nm_in (List.mem_append_right _ (List.mem_of_getElem? (i := 376) (by decide +kernel))) (by decide +kernel)
theorem nm_c_F_loop : Cond.code y_F_loop b_F_loop 2 (some .long) ∈ nm_all := nm_in (List.mem_append_right _ (List.mem_of_getElem? (i := 377) (by decide +kernel))) (by decide +kernel)
abbrev w_F_loop : List Cond := Cond.code y_F_loop b_F_loop 2 (some .long) :: nm_all
theorem nm_378 : Cond.methodLink "FlowNestLaw" 120 y_L_depth ∈ nm_all := nm_in (List.mem_append_right _ (List.mem_of_getElem? (i := 378) (by decide +kernel))) (by decide +kernel)
theorem nm_379 : Cond.static y_L_depth ∈ nm_all := nm_in (List.mem_append_right _ (List.mem_of_getElem? (i := 379) (by decide +kernel))) (by decide +kernel)
theorem nm_c_L_depth : Cond.codeWith y_L_depth b_L_depth 4 (some .int) [(0, 9, 12, 19)] ∈ nm_all := nm_in (List.mem_append_right _ (List.mem_of_getElem? (i := 380) (by decide +kernel))) (by decide +kernel)
abbrev w_L_depth : List Cond := Cond.codeWith y_L_depth b_L_depth 4 (some .int) [(0, 9, 12, 19)] :: nm_all
theorem nm_381 : Cond.methodLink "FlowNestLaw" 53 y_F_depth ∈ nm_all := nm_in (List.mem_append_right _ (List.mem_of_getElem? (i := 381) (by decide +kernel))) (by decide +kernel)
theorem nm_382 : Cond.instanceMethod y_F_depth ∈ nm_all := nm_in (List.mem_append_right _ (List.mem_of_getElem? (i := 382) (by decide +kernel))) (by decide +kernel)
theorem nm_383 : Cond.selects "FlowNest" y_F_depth y_F_depth ∈ nm_all := nm_in (List.mem_append_right _ (List.mem_of_getElem? (i := 383) (by decide +kernel))) (by decide +kernel)
theorem nm_c_F_depth : Cond.code y_F_depth b_F_depth 2 (some .int) ∈ nm_all := nm_in (List.mem_append_right _ (List.mem_of_getElem? (i := 384) (by decide +kernel))) (by decide +kernel)
abbrev w_F_depth : List Cond := Cond.code y_F_depth b_F_depth 2 (some .int) :: nm_all
theorem nm_385 : Cond.methodLink "FlowNest" 110 y_N_countAround ∈ nm_all := nm_in (List.mem_append_right _ (List.mem_of_getElem? (i := 385) (by decide +kernel))) (by decide +kernel)
theorem nm_386 : Cond.instanceMethod y_N_countAround ∈ nm_all := nm_in (List.mem_append_right _ (List.mem_of_getElem? (i := 386) (by decide +kernel))) (by decide +kernel)
theorem nm_387 : Cond.selects "FlowNest$Nest" y_N_countAround y_N_countAround ∈ nm_all := nm_in (List.mem_append_right _ (List.mem_of_getElem? (i := 387) (by decide +kernel))) (by decide +kernel)
theorem nm_c_N_countAround : Cond.code y_N_countAround b_N_countAround 5 (some .int) ∈ nm_all := nm_in (List.mem_append_right _ (List.mem_of_getElem? (i := 388) (by decide +kernel))) (by decide +kernel)
abbrev w_N_countAround : List Cond := Cond.code y_N_countAround b_N_countAround 5 (some .int) :: nm_all
theorem nm_389 : Cond.methodLink "FlowNestLaw" 123 y_L_header ∈ nm_all := nm_in (List.mem_append_right _ (List.mem_of_getElem? (i := 389) (by decide +kernel))) (by decide +kernel)
theorem nm_390 : Cond.static y_L_header ∈ nm_all := nm_in (List.mem_append_right _ (List.mem_of_getElem? (i := 390) (by decide +kernel))) (by decide +kernel)
theorem nm_c_L_header : Cond.codeWith y_L_header b_L_header 5 (some .int) [(0, 10, 13, 19)] ∈ nm_all := nm_in (List.mem_append_right _ (List.mem_of_getElem? (i := 391) (by decide +kernel))) (by decide +kernel)
abbrev w_L_header : List Cond := Cond.codeWith y_L_header b_L_header 5 (some .int) [(0, 10, 13, 19)] :: nm_all
theorem nm_392 : Cond.methodLink "FlowNestLaw" 56 y_F_header ∈ nm_all := nm_in (List.mem_append_right _ (List.mem_of_getElem? (i := 392) (by decide +kernel))) (by decide +kernel)
theorem nm_393 : Cond.instanceMethod y_F_header ∈ nm_all := nm_in (List.mem_append_right _ (List.mem_of_getElem? (i := 393) (by decide +kernel))) (by decide +kernel)
theorem nm_394 : Cond.selects "FlowNest" y_F_header y_F_header ∈ nm_all := nm_in (List.mem_append_right _ (List.mem_of_getElem? (i := 394) (by decide +kernel))) (by decide +kernel)
theorem nm_c_F_header : Cond.code y_F_header b_F_header 3 (some .int) ∈ nm_all := nm_in (List.mem_append_right _ (List.mem_of_getElem? (i := 395) (by decide +kernel))) (by decide +kernel)
abbrev w_F_header : List Cond := Cond.code y_F_header b_F_header 3 (some .int) :: nm_all
theorem nm_396 : Cond.methodLink "FlowNest" 114 y_N_leastAround ∈ nm_all := nm_in (List.mem_append_right _ (List.mem_of_getElem? (i := 396) (by decide +kernel))) (by decide +kernel)
theorem nm_397 : Cond.instanceMethod y_N_leastAround ∈ nm_all := nm_in (List.mem_append_right _ (List.mem_of_getElem? (i := 397) (by decide +kernel))) (by decide +kernel)
theorem nm_398 : Cond.selects "FlowNest$Nest" y_N_leastAround y_N_leastAround ∈ nm_all := nm_in (List.mem_append_right _ (List.mem_of_getElem? (i := 398) (by decide +kernel))) (by decide +kernel)
theorem nm_c_N_leastAround : Cond.code y_N_leastAround b_N_leastAround 7 (some .int) ∈ nm_all := nm_in (List.mem_append_right _ (List.mem_of_getElem? (i := 399) (by decide +kernel))) (by decide +kernel)
abbrev w_N_leastAround : List Cond := Cond.code y_N_leastAround b_N_leastAround 7 (some .int) :: nm_all
theorem nm_400 : Cond.methodLink "FlowNest$Nest" 54 y_B_bitCount ∈ nm_all := nm_in (List.mem_append_right _ (List.mem_of_getElem? (i := 400) (by decide +kernel))) (by decide +kernel)
theorem nm_401 : Cond.methodLink "FlowNestLaw" 131 y_L_order ∈ nm_all := nm_in (List.mem_append_right _ (List.mem_of_getElem? (i := 401) (by decide +kernel))) (by decide +kernel)
theorem nm_402 : Cond.static y_L_order ∈ nm_all := nm_in (List.mem_append_right _ (List.mem_of_getElem? (i := 402) (by decide +kernel))) (by decide +kernel)
theorem nm_c_L_order : Cond.codeWith y_L_order b_L_order 5 (some .int) [(0, 10, 13, 19)] ∈ nm_all := nm_in (List.mem_append_right _ (List.mem_of_getElem? (i := 403) (by decide +kernel))) (by decide +kernel)
abbrev w_L_order : List Cond := Cond.codeWith y_L_order b_L_order 5 (some .int) [(0, 10, 13, 19)] :: nm_all
theorem nm_404 : Cond.methodLink "FlowNestLaw" 59 y_F_order ∈ nm_all := nm_in (List.mem_append_right _ (List.mem_of_getElem? (i := 404) (by decide +kernel))) (by decide +kernel)
theorem nm_405 : Cond.instanceMethod y_F_order ∈ nm_all := nm_in (List.mem_append_right _ (List.mem_of_getElem? (i := 405) (by decide +kernel))) (by decide +kernel)
theorem nm_406 : Cond.selects "FlowNest" y_F_order y_F_order ∈ nm_all := nm_in (List.mem_append_right _ (List.mem_of_getElem? (i := 406) (by decide +kernel))) (by decide +kernel)
theorem nm_c_F_order : Cond.code y_F_order b_F_order 4 (some .int) ∈ nm_all := nm_in (List.mem_append_right _ (List.mem_of_getElem? (i := 407) (by decide +kernel))) (by decide +kernel)
abbrev w_F_order : List Cond := Cond.code y_F_order b_F_order 4 (some .int) :: nm_all
theorem nm_408 : Cond.classLink "FlowNestLaw" 63 "FlowNestModel" ∈ nm_all := nm_in (List.mem_append_right _ (List.mem_of_getElem? (i := 408) (by decide +kernel))) (by decide +kernel)
theorem nm_409 : Cond.instantiable "FlowNestModel" 15 ∈ nm_all := nm_in (List.mem_append_right _ (List.mem_of_getElem? (i := 409) (by decide +kernel))) (by decide +kernel)
theorem nm_410 : Cond.methodLink "FlowNestLaw" 65 y_M_init ∈ nm_all := nm_in (List.mem_append_right _ (List.mem_of_getElem? (i := 410) (by decide +kernel))) (by decide +kernel)
theorem nm_411 : Cond.instanceMethod y_M_init ∈ nm_all := nm_in (List.mem_append_right _ (List.mem_of_getElem? (i := 411) (by decide +kernel))) (by decide +kernel)
theorem nm_c_M_init : Cond.code y_M_init b_M_init 1 none ∈ nm_all := nm_in (List.mem_append_right _ (List.mem_of_getElem? (i := 412) (by decide +kernel))) (by decide +kernel)
abbrev w_M_init : List Cond := Cond.code y_M_init b_M_init 1 none :: nm_all
theorem nm_413 : Cond.methodLink "FlowNestModel" 1 objectInit ∈ nm_all := nm_in (List.mem_append_right _ (List.mem_of_getElem? (i := 413) (by decide +kernel))) (by decide +kernel)
theorem nm_414 : Cond.fieldLink "FlowNestModel" 42 "FlowNestModel" "code" "I" ∈ nm_all := nm_in (List.mem_append_right _ (List.mem_of_getElem? (i := 414) (by decide +kernel))) (by decide +kernel)
theorem nm_415 : Cond.fieldLink "FlowNestModel" 45 "FlowNestModel" "n" "I" ∈ nm_all := nm_in (List.mem_append_right _ (List.mem_of_getElem? (i := 415) (by decide +kernel))) (by decide +kernel)
theorem nm_416 : Cond.fieldLink "FlowNestModel" 9 "FlowNestModel" "entry" "I" ∈ nm_all := nm_in (List.mem_append_right _ (List.mem_of_getElem? (i := 416) (by decide +kernel))) (by decide +kernel)
theorem nm_417 : Cond.fieldLink "FlowNestModel" 13 "FlowNestModel" "exit" "I" ∈ nm_all := nm_in (List.mem_append_right _ (List.mem_of_getElem? (i := 417) (by decide +kernel))) (by decide +kernel)
theorem nm_418 : Cond.fieldLink "FlowNestModel" 16 "FlowNestModel" "links" "[J" ∈ nm_all := nm_in (List.mem_append_right _ (List.mem_of_getElem? (i := 418) (by decide +kernel))) (by decide +kernel)
theorem nm_419 : Cond.fieldLink "FlowNestModel" 20 "FlowNestModel" "sources" "[J" ∈ nm_all := nm_in (List.mem_append_right _ (List.mem_of_getElem? (i := 419) (by decide +kernel))) (by decide +kernel)
theorem nm_420 : Cond.fieldLink "FlowNestModel" 54 "FlowNestModel" "known" "Z" ∈ nm_all := nm_in (List.mem_append_right _ (List.mem_of_getElem? (i := 420) (by decide +kernel))) (by decide +kernel)
theorem nm_421 : Cond.fieldLink "FlowNestModel" 62 "FlowNestModel" "reached" "J" ∈ nm_all := nm_in (List.mem_append_right _ (List.mem_of_getElem? (i := 421) (by decide +kernel))) (by decide +kernel)
theorem nm_422 : Cond.fieldLink "FlowNestModel" 66 "FlowNestModel" "ending" "J" ∈ nm_all := nm_in (List.mem_append_right _ (List.mem_of_getElem? (i := 422) (by decide +kernel))) (by decide +kernel)
theorem nm_423 : Cond.fieldLink "FlowNestModel" 23 "FlowNestModel" "without" "[J" ∈ nm_all := nm_in (List.mem_append_right _ (List.mem_of_getElem? (i := 423) (by decide +kernel))) (by decide +kernel)
theorem nm_424 : Cond.fieldLink "FlowNestModel" 26 "FlowNestModel" "endWithout" "[J" ∈ nm_all := nm_in (List.mem_append_right _ (List.mem_of_getElem? (i := 424) (by decide +kernel))) (by decide +kernel)
theorem nm_425 : Cond.fieldLink "FlowNestModel" 29 "FlowNestModel" "loopOf" "[J" ∈ nm_all := nm_in (List.mem_append_right _ (List.mem_of_getElem? (i := 425) (by decide +kernel))) (by decide +kernel)
theorem nm_426 : Cond.fieldLink "FlowNestModel" 32 "FlowNestModel" "entered" "[I" ∈ nm_all := nm_in (List.mem_append_right _ (List.mem_of_getElem? (i := 426) (by decide +kernel))) (by decide +kernel)
theorem nm_427 : Cond.fieldLink "FlowNestModel" 36 "FlowNestModel" "left" "[I" ∈ nm_all := nm_in (List.mem_append_right _ (List.mem_of_getElem? (i := 427) (by decide +kernel))) (by decide +kernel)
theorem nm_428 : Cond.fieldLink "FlowNestModel" 39 "FlowNestModel" "pile" "[I" ∈ nm_all := nm_in (List.mem_append_right _ (List.mem_of_getElem? (i := 428) (by decide +kernel))) (by decide +kernel)
theorem nm_460 : Cond.methodLink "FlowNestLaw" 72 y_M_thrown ∈ nm_all := nm_in (List.mem_append_right _ (List.mem_of_getElem? (i := 460) (by decide +kernel))) (by decide +kernel)
theorem nm_461 : Cond.instanceMethod y_M_thrown ∈ nm_all := nm_in (List.mem_append_right _ (List.mem_of_getElem? (i := 461) (by decide +kernel))) (by decide +kernel)
theorem nm_462 : Cond.selects "FlowNestModel" y_M_thrown y_M_thrown ∈ nm_all := nm_in (List.mem_append_right _ (List.mem_of_getElem? (i := 462) (by decide +kernel))) (by decide +kernel)
theorem nm_c_M_thrown : Cond.code y_M_thrown b_M_thrown 1 (some .int) ∈ nm_all := nm_in (List.mem_append_right _ (List.mem_of_getElem? (i := 463) (by decide +kernel))) (by decide +kernel)
abbrev w_M_thrown : List Cond := Cond.code y_M_thrown b_M_thrown 1 (some .int) :: nm_all
theorem nm_464 : Cond.methodLink "FlowNestLaw" 71 y_M_begin ∈ nm_all := nm_in (List.mem_append_right _ (List.mem_of_getElem? (i := 464) (by decide +kernel))) (by decide +kernel)
theorem nm_465 : Cond.instanceMethod y_M_begin ∈ nm_all := nm_in (List.mem_append_right _ (List.mem_of_getElem? (i := 465) (by decide +kernel))) (by decide +kernel)
theorem nm_466 : Cond.selects "FlowNestModel" y_M_begin y_M_begin ∈ nm_all := nm_in (List.mem_append_right _ (List.mem_of_getElem? (i := 466) (by decide +kernel))) (by decide +kernel)
theorem nm_c_M_begin : Cond.code y_M_begin b_M_begin 4 (some .int) ∈ nm_all := nm_in (List.mem_append_right _ (List.mem_of_getElem? (i := 467) (by decide +kernel))) (by decide +kernel)
abbrev w_M_begin : List Cond := Cond.code y_M_begin b_M_begin 4 (some .int) :: nm_all
theorem nm_468 : Cond.methodLink "FlowNestLaw" 79 y_M_link ∈ nm_all := nm_in (List.mem_append_right _ (List.mem_of_getElem? (i := 468) (by decide +kernel))) (by decide +kernel)
theorem nm_469 : Cond.instanceMethod y_M_link ∈ nm_all := nm_in (List.mem_append_right _ (List.mem_of_getElem? (i := 469) (by decide +kernel))) (by decide +kernel)
theorem nm_470 : Cond.selects "FlowNestModel" y_M_link y_M_link ∈ nm_all := nm_in (List.mem_append_right _ (List.mem_of_getElem? (i := 470) (by decide +kernel))) (by decide +kernel)
theorem nm_c_M_link : Cond.code y_M_link b_M_link 4 (some .int) ∈ nm_all := nm_in (List.mem_append_right _ (List.mem_of_getElem? (i := 471) (by decide +kernel))) (by decide +kernel)
abbrev w_M_link : List Cond := Cond.code y_M_link b_M_link 4 (some .int) :: nm_all
theorem nm_472 : Cond.methodLink "FlowNestModel" 84 y_M_isVertex ∈ nm_all := nm_in (List.mem_append_right _ (List.mem_of_getElem? (i := 472) (by decide +kernel))) (by decide +kernel)
theorem nm_474 : Cond.instanceMethod y_M_isVertex ∈ nm_all := nm_in (List.mem_append_right _ (List.mem_of_getElem? (i := 474) (by decide +kernel))) (by decide +kernel)
theorem nm_c_M_isVertex : Cond.code y_M_isVertex b_M_isVertex 2 (some .boolean) ∈ nm_all := nm_in (List.mem_append_right _ (List.mem_of_getElem? (i := 475) (by decide +kernel))) (by decide +kernel)
abbrev w_M_isVertex : List Cond := Cond.code y_M_isVertex b_M_isVertex 2 (some .boolean) :: nm_all
theorem nm_476 : Cond.methodLink "FlowNestModel" 48 y_M_has ∈ nm_all := nm_in (List.mem_append_right _ (List.mem_of_getElem? (i := 476) (by decide +kernel))) (by decide +kernel)
theorem nm_477 : Cond.static y_M_has ∈ nm_all := nm_in (List.mem_append_right _ (List.mem_of_getElem? (i := 477) (by decide +kernel))) (by decide +kernel)
theorem nm_c_M_has : Cond.code y_M_has b_M_has 3 (some .boolean) ∈ nm_all := nm_in (List.mem_append_right _ (List.mem_of_getElem? (i := 478) (by decide +kernel))) (by decide +kernel)
abbrev w_M_has : List Cond := Cond.code y_M_has b_M_has 3 (some .boolean) :: nm_all
theorem nm_479 : Cond.constantLong "FlowNestModel" 52 (-1) ∈ nm_all := nm_in (List.mem_append_right _ (List.mem_of_getElem? (i := 479) (by decide +kernel))) (by decide +kernel)
theorem nm_480 : Cond.methodLink "FlowNestLaw" 83 y_M_place ∈ nm_all := nm_in (List.mem_append_right _ (List.mem_of_getElem? (i := 480) (by decide +kernel))) (by decide +kernel)
theorem nm_481 : Cond.instanceMethod y_M_place ∈ nm_all := nm_in (List.mem_append_right _ (List.mem_of_getElem? (i := 481) (by decide +kernel))) (by decide +kernel)
theorem nm_482 : Cond.selects "FlowNestModel" y_M_place y_M_place ∈ nm_all := nm_in (List.mem_append_right _ (List.mem_of_getElem? (i := 482) (by decide +kernel))) (by decide +kernel)
theorem nm_c_M_place : Cond.code y_M_place b_M_place 4 (some .int) ∈ nm_all := nm_in (List.mem_append_right _ (List.mem_of_getElem? (i := 483) (by decide +kernel))) (by decide +kernel)
abbrev w_M_place : List Cond := Cond.code y_M_place b_M_place 4 (some .int) :: nm_all
theorem nm_484 : Cond.methodLink "FlowNestLaw" 86 y_M_isReached ∈ nm_all := nm_in (List.mem_append_right _ (List.mem_of_getElem? (i := 484) (by decide +kernel))) (by decide +kernel)
theorem nm_485 : Cond.instanceMethod y_M_isReached ∈ nm_all := nm_in (List.mem_append_right _ (List.mem_of_getElem? (i := 485) (by decide +kernel))) (by decide +kernel)
theorem nm_486 : Cond.selects "FlowNestModel" y_M_isReached y_M_isReached ∈ nm_all := nm_in (List.mem_append_right _ (List.mem_of_getElem? (i := 486) (by decide +kernel))) (by decide +kernel)
theorem nm_c_M_isReached : Cond.code y_M_isReached b_M_isReached 3 (some .boolean) ∈ nm_all := nm_in (List.mem_append_right _ (List.mem_of_getElem? (i := 487) (by decide +kernel))) (by decide +kernel)
abbrev w_M_isReached : List Cond := Cond.code y_M_isReached b_M_isReached 3 (some .boolean) :: nm_all
theorem nm_488 : Cond.methodLink "FlowNestModel" 91 y_M_looks ∈ nm_all := nm_in (List.mem_append_right _ (List.mem_of_getElem? (i := 488) (by decide +kernel))) (by decide +kernel)
theorem nm_490 : Cond.instanceMethod y_M_looks ∈ nm_all := nm_in (List.mem_append_right _ (List.mem_of_getElem? (i := 490) (by decide +kernel))) (by decide +kernel)
theorem nm_c_M_looks : Cond.code y_M_looks b_M_looks 2 (some .boolean) ∈ nm_all := nm_in (List.mem_append_right _ (List.mem_of_getElem? (i := 491) (by decide +kernel))) (by decide +kernel)
abbrev w_M_looks : List Cond := Cond.code y_M_looks b_M_looks 2 (some .boolean) :: nm_all
theorem nm_492 : Cond.methodLink "FlowNestModel" 88 y_M_learn ∈ nm_all := nm_in (List.mem_append_right _ (List.mem_of_getElem? (i := 492) (by decide +kernel))) (by decide +kernel)
theorem nm_494 : Cond.instanceMethod y_M_learn ∈ nm_all := nm_in (List.mem_append_right _ (List.mem_of_getElem? (i := 494) (by decide +kernel))) (by decide +kernel)
theorem nm_c_M_learn : Cond.code y_M_learn b_M_learn 3 none ∈ nm_all := nm_in (List.mem_append_right _ (List.mem_of_getElem? (i := 495) (by decide +kernel))) (by decide +kernel)
abbrev w_M_learn : List Cond := Cond.code y_M_learn b_M_learn 3 none :: nm_all
theorem nm_496 : Cond.methodLink "FlowNestModel" 58 y_M_comeTo ∈ nm_all := nm_in (List.mem_append_right _ (List.mem_of_getElem? (i := 496) (by decide +kernel))) (by decide +kernel)
theorem nm_498 : Cond.instanceMethod y_M_comeTo ∈ nm_all := nm_in (List.mem_append_right _ (List.mem_of_getElem? (i := 498) (by decide +kernel))) (by decide +kernel)
theorem nm_c_M_comeTo : Cond.code y_M_comeTo b_M_comeTo 9 (some .long) ∈ nm_all := nm_in (List.mem_append_right _ (List.mem_of_getElem? (i := 499) (by decide +kernel))) (by decide +kernel)
abbrev w_M_comeTo : List Cond := Cond.code y_M_comeTo b_M_comeTo 9 (some .long) :: nm_all
theorem nm_500 : Cond.methodLink "FlowNestModel" 69 y_M_loopFrom ∈ nm_all := nm_in (List.mem_append_right _ (List.mem_of_getElem? (i := 500) (by decide +kernel))) (by decide +kernel)
theorem nm_502 : Cond.instanceMethod y_M_loopFrom ∈ nm_all := nm_in (List.mem_append_right _ (List.mem_of_getElem? (i := 502) (by decide +kernel))) (by decide +kernel)
theorem nm_c_M_loopFrom : Cond.code y_M_loopFrom b_M_loopFrom 5 (some .long) ∈ nm_all := nm_in (List.mem_append_right _ (List.mem_of_getElem? (i := 503) (by decide +kernel))) (by decide +kernel)
abbrev w_M_loopFrom : List Cond := Cond.code y_M_loopFrom b_M_loopFrom 5 (some .long) :: nm_all
theorem nm_504 : Cond.methodLink "FlowNestModel" 80 y_M_goesBack ∈ nm_all := nm_in (List.mem_append_right _ (List.mem_of_getElem? (i := 504) (by decide +kernel))) (by decide +kernel)
theorem nm_506 : Cond.instanceMethod y_M_goesBack ∈ nm_all := nm_in (List.mem_append_right _ (List.mem_of_getElem? (i := 506) (by decide +kernel))) (by decide +kernel)
theorem nm_c_M_goesBack : Cond.code y_M_goesBack b_M_goesBack 3 (some .boolean) ∈ nm_all := nm_in (List.mem_append_right _ (List.mem_of_getElem? (i := 507) (by decide +kernel))) (by decide +kernel)
abbrev w_M_goesBack : List Cond := Cond.code y_M_goesBack b_M_goesBack 3 (some .boolean) :: nm_all
theorem nm_508 : Cond.methodLink "FlowNestModel" 76 y_M_dominatesIt ∈ nm_all := nm_in (List.mem_append_right _ (List.mem_of_getElem? (i := 508) (by decide +kernel))) (by decide +kernel)
theorem nm_510 : Cond.instanceMethod y_M_dominatesIt ∈ nm_all := nm_in (List.mem_append_right _ (List.mem_of_getElem? (i := 510) (by decide +kernel))) (by decide +kernel)
theorem nm_c_M_dominatesIt : Cond.code y_M_dominatesIt b_M_dominatesIt 6 (some .boolean) ∈ nm_all := nm_in (List.mem_append_right _ (List.mem_of_getElem? (i := 511) (by decide +kernel))) (by decide +kernel)
abbrev w_M_dominatesIt : List Cond := Cond.code y_M_dominatesIt b_M_dominatesIt 6 (some .boolean) :: nm_all
theorem nm_512 : Cond.methodLink "FlowNestModel" 73 y_M_goOver ∈ nm_all := nm_in (List.mem_append_right _ (List.mem_of_getElem? (i := 512) (by decide +kernel))) (by decide +kernel)
theorem nm_514 : Cond.instanceMethod y_M_goOver ∈ nm_all := nm_in (List.mem_append_right _ (List.mem_of_getElem? (i := 514) (by decide +kernel))) (by decide +kernel)
theorem nm_c_M_goOver : Cond.code y_M_goOver b_M_goOver 6 none ∈ nm_all := nm_in (List.mem_append_right _ (List.mem_of_getElem? (i := 515) (by decide +kernel))) (by decide +kernel)
abbrev w_M_goOver : List Cond := Cond.code y_M_goOver b_M_goOver 6 none :: nm_all
theorem nm_516 : Cond.methodLink "FlowNestLaw" 89 y_M_dominator ∈ nm_all := nm_in (List.mem_append_right _ (List.mem_of_getElem? (i := 516) (by decide +kernel))) (by decide +kernel)
theorem nm_517 : Cond.instanceMethod y_M_dominator ∈ nm_all := nm_in (List.mem_append_right _ (List.mem_of_getElem? (i := 517) (by decide +kernel))) (by decide +kernel)
theorem nm_518 : Cond.selects "FlowNestModel" y_M_dominator y_M_dominator ∈ nm_all := nm_in (List.mem_append_right _ (List.mem_of_getElem? (i := 518) (by decide +kernel))) (by decide +kernel)
theorem nm_c_M_dominator : Cond.code y_M_dominator b_M_dominator 6 (some .int) ∈ nm_all := nm_in (List.mem_append_right _ (List.mem_of_getElem? (i := 519) (by decide +kernel))) (by decide +kernel)
abbrev w_M_dominator : List Cond := Cond.code y_M_dominator b_M_dominator 6 (some .int) :: nm_all
theorem nm_520 : Cond.methodLink "FlowNestModel" 94 y_M_rank ∈ nm_all := nm_in (List.mem_append_right _ (List.mem_of_getElem? (i := 520) (by decide +kernel))) (by decide +kernel)
theorem nm_522 : Cond.instanceMethod y_M_rank ∈ nm_all := nm_in (List.mem_append_right _ (List.mem_of_getElem? (i := 522) (by decide +kernel))) (by decide +kernel)
theorem nm_c_M_rank : Cond.code y_M_rank b_M_rank 5 (some .int) ∈ nm_all := nm_in (List.mem_append_right _ (List.mem_of_getElem? (i := 523) (by decide +kernel))) (by decide +kernel)
abbrev w_M_rank : List Cond := Cond.code y_M_rank b_M_rank 5 (some .int) :: nm_all
theorem nm_524 : Cond.methodLink "FlowNestLaw" 93 y_M_dominates ∈ nm_all := nm_in (List.mem_append_right _ (List.mem_of_getElem? (i := 524) (by decide +kernel))) (by decide +kernel)
theorem nm_525 : Cond.instanceMethod y_M_dominates ∈ nm_all := nm_in (List.mem_append_right _ (List.mem_of_getElem? (i := 525) (by decide +kernel))) (by decide +kernel)
theorem nm_526 : Cond.selects "FlowNestModel" y_M_dominates y_M_dominates ∈ nm_all := nm_in (List.mem_append_right _ (List.mem_of_getElem? (i := 526) (by decide +kernel))) (by decide +kernel)
theorem nm_c_M_dominates : Cond.code y_M_dominates b_M_dominates 4 (some .boolean) ∈ nm_all := nm_in (List.mem_append_right _ (List.mem_of_getElem? (i := 527) (by decide +kernel))) (by decide +kernel)
abbrev w_M_dominates : List Cond := Cond.code y_M_dominates b_M_dominates 4 (some .boolean) :: nm_all
theorem nm_528 : Cond.methodLink "FlowNestLaw" 96 y_M_level ∈ nm_all := nm_in (List.mem_append_right _ (List.mem_of_getElem? (i := 528) (by decide +kernel))) (by decide +kernel)
theorem nm_529 : Cond.instanceMethod y_M_level ∈ nm_all := nm_in (List.mem_append_right _ (List.mem_of_getElem? (i := 529) (by decide +kernel))) (by decide +kernel)
theorem nm_530 : Cond.selects "FlowNestModel" y_M_level y_M_level ∈ nm_all := nm_in (List.mem_append_right _ (List.mem_of_getElem? (i := 530) (by decide +kernel))) (by decide +kernel)
theorem nm_c_M_level : Cond.code y_M_level b_M_level 2 (some .int) ∈ nm_all := nm_in (List.mem_append_right _ (List.mem_of_getElem? (i := 531) (by decide +kernel))) (by decide +kernel)
abbrev w_M_level : List Cond := Cond.code y_M_level b_M_level 2 (some .int) :: nm_all
theorem nm_532 : Cond.methodLink "FlowNestLaw" 99 y_M_frontier ∈ nm_all := nm_in (List.mem_append_right _ (List.mem_of_getElem? (i := 532) (by decide +kernel))) (by decide +kernel)
theorem nm_533 : Cond.instanceMethod y_M_frontier ∈ nm_all := nm_in (List.mem_append_right _ (List.mem_of_getElem? (i := 533) (by decide +kernel))) (by decide +kernel)
theorem nm_534 : Cond.selects "FlowNestModel" y_M_frontier y_M_frontier ∈ nm_all := nm_in (List.mem_append_right _ (List.mem_of_getElem? (i := 534) (by decide +kernel))) (by decide +kernel)
theorem nm_c_M_frontier : Cond.code y_M_frontier b_M_frontier 2 (some .long) ∈ nm_all := nm_in (List.mem_append_right _ (List.mem_of_getElem? (i := 535) (by decide +kernel))) (by decide +kernel)
abbrev w_M_frontier : List Cond := Cond.code y_M_frontier b_M_frontier 2 (some .long) :: nm_all
theorem nm_536 : Cond.methodLink "FlowNestModel" 98 y_M_frontierOf ∈ nm_all := nm_in (List.mem_append_right _ (List.mem_of_getElem? (i := 536) (by decide +kernel))) (by decide +kernel)
theorem nm_538 : Cond.instanceMethod y_M_frontierOf ∈ nm_all := nm_in (List.mem_append_right _ (List.mem_of_getElem? (i := 538) (by decide +kernel))) (by decide +kernel)
theorem nm_c_M_frontierOf : Cond.code y_M_frontierOf b_M_frontierOf 6 (some .long) ∈ nm_all := nm_in (List.mem_append_right _ (List.mem_of_getElem? (i := 539) (by decide +kernel))) (by decide +kernel)
abbrev w_M_frontierOf : List Cond := Cond.code y_M_frontierOf b_M_frontierOf 6 (some .long) :: nm_all
theorem nm_540 : Cond.methodLink "FlowNestLaw" 106 y_M_spread ∈ nm_all := nm_in (List.mem_append_right _ (List.mem_of_getElem? (i := 540) (by decide +kernel))) (by decide +kernel)
theorem nm_541 : Cond.instanceMethod y_M_spread ∈ nm_all := nm_in (List.mem_append_right _ (List.mem_of_getElem? (i := 541) (by decide +kernel))) (by decide +kernel)
theorem nm_542 : Cond.selects "FlowNestModel" y_M_spread y_M_spread ∈ nm_all := nm_in (List.mem_append_right _ (List.mem_of_getElem? (i := 542) (by decide +kernel))) (by decide +kernel)
theorem nm_c_M_spread : Cond.code y_M_spread b_M_spread 8 (some .long) ∈ nm_all := nm_in (List.mem_append_right _ (List.mem_of_getElem? (i := 543) (by decide +kernel))) (by decide +kernel)
abbrev w_M_spread : List Cond := Cond.code y_M_spread b_M_spread 8 (some .long) :: nm_all
theorem nm_544 : Cond.methodLink "FlowNestLaw" 109 y_M_controls ∈ nm_all := nm_in (List.mem_append_right _ (List.mem_of_getElem? (i := 544) (by decide +kernel))) (by decide +kernel)
theorem nm_545 : Cond.instanceMethod y_M_controls ∈ nm_all := nm_in (List.mem_append_right _ (List.mem_of_getElem? (i := 545) (by decide +kernel))) (by decide +kernel)
theorem nm_546 : Cond.selects "FlowNestModel" y_M_controls y_M_controls ∈ nm_all := nm_in (List.mem_append_right _ (List.mem_of_getElem? (i := 546) (by decide +kernel))) (by decide +kernel)
theorem nm_c_M_controls : Cond.code y_M_controls b_M_controls 7 (some .long) ∈ nm_all := nm_in (List.mem_append_right _ (List.mem_of_getElem? (i := 547) (by decide +kernel))) (by decide +kernel)
abbrev w_M_controls : List Cond := Cond.code y_M_controls b_M_controls 7 (some .long) :: nm_all
theorem nm_548 : Cond.methodLink "FlowNestLaw" 112 y_M_isBack ∈ nm_all := nm_in (List.mem_append_right _ (List.mem_of_getElem? (i := 548) (by decide +kernel))) (by decide +kernel)
theorem nm_549 : Cond.instanceMethod y_M_isBack ∈ nm_all := nm_in (List.mem_append_right _ (List.mem_of_getElem? (i := 549) (by decide +kernel))) (by decide +kernel)
theorem nm_550 : Cond.selects "FlowNestModel" y_M_isBack y_M_isBack ∈ nm_all := nm_in (List.mem_append_right _ (List.mem_of_getElem? (i := 550) (by decide +kernel))) (by decide +kernel)
theorem nm_c_M_isBack : Cond.code y_M_isBack b_M_isBack 3 (some .boolean) ∈ nm_all := nm_in (List.mem_append_right _ (List.mem_of_getElem? (i := 551) (by decide +kernel))) (by decide +kernel)
abbrev w_M_isBack : List Cond := Cond.code y_M_isBack b_M_isBack 3 (some .boolean) :: nm_all
theorem nm_552 : Cond.methodLink "FlowNestLaw" 115 y_M_loop ∈ nm_all := nm_in (List.mem_append_right _ (List.mem_of_getElem? (i := 552) (by decide +kernel))) (by decide +kernel)
theorem nm_553 : Cond.instanceMethod y_M_loop ∈ nm_all := nm_in (List.mem_append_right _ (List.mem_of_getElem? (i := 553) (by decide +kernel))) (by decide +kernel)
theorem nm_554 : Cond.selects "FlowNestModel" y_M_loop y_M_loop ∈ nm_all := nm_in (List.mem_append_right _ (List.mem_of_getElem? (i := 554) (by decide +kernel))) (by decide +kernel)
theorem nm_c_M_loop : Cond.code y_M_loop b_M_loop 2 (some .long) ∈ nm_all := nm_in (List.mem_append_right _ (List.mem_of_getElem? (i := 555) (by decide +kernel))) (by decide +kernel)
abbrev w_M_loop : List Cond := Cond.code y_M_loop b_M_loop 2 (some .long) :: nm_all
theorem nm_556 : Cond.methodLink "FlowNestLaw" 119 y_M_loops ∈ nm_all := nm_in (List.mem_append_right _ (List.mem_of_getElem? (i := 556) (by decide +kernel))) (by decide +kernel)
theorem nm_557 : Cond.instanceMethod y_M_loops ∈ nm_all := nm_in (List.mem_append_right _ (List.mem_of_getElem? (i := 557) (by decide +kernel))) (by decide +kernel)
theorem nm_558 : Cond.selects "FlowNestModel" y_M_loops y_M_loops ∈ nm_all := nm_in (List.mem_append_right _ (List.mem_of_getElem? (i := 558) (by decide +kernel))) (by decide +kernel)
theorem nm_c_M_loops : Cond.code y_M_loops b_M_loops 3 (some .int) ∈ nm_all := nm_in (List.mem_append_right _ (List.mem_of_getElem? (i := 559) (by decide +kernel))) (by decide +kernel)
abbrev w_M_loops : List Cond := Cond.code y_M_loops b_M_loops 3 (some .int) :: nm_all
theorem nm_560 : Cond.methodLink "FlowNestLaw" 122 y_M_depth ∈ nm_all := nm_in (List.mem_append_right _ (List.mem_of_getElem? (i := 560) (by decide +kernel))) (by decide +kernel)
theorem nm_561 : Cond.instanceMethod y_M_depth ∈ nm_all := nm_in (List.mem_append_right _ (List.mem_of_getElem? (i := 561) (by decide +kernel))) (by decide +kernel)
theorem nm_562 : Cond.selects "FlowNestModel" y_M_depth y_M_depth ∈ nm_all := nm_in (List.mem_append_right _ (List.mem_of_getElem? (i := 562) (by decide +kernel))) (by decide +kernel)
theorem nm_c_M_depth : Cond.code y_M_depth b_M_depth 4 (some .int) ∈ nm_all := nm_in (List.mem_append_right _ (List.mem_of_getElem? (i := 563) (by decide +kernel))) (by decide +kernel)
abbrev w_M_depth : List Cond := Cond.code y_M_depth b_M_depth 4 (some .int) :: nm_all
theorem nm_564 : Cond.methodLink "FlowNestLaw" 125 y_M_header ∈ nm_all := nm_in (List.mem_append_right _ (List.mem_of_getElem? (i := 564) (by decide +kernel))) (by decide +kernel)
theorem nm_565 : Cond.instanceMethod y_M_header ∈ nm_all := nm_in (List.mem_append_right _ (List.mem_of_getElem? (i := 565) (by decide +kernel))) (by decide +kernel)
theorem nm_566 : Cond.selects "FlowNestModel" y_M_header y_M_header ∈ nm_all := nm_in (List.mem_append_right _ (List.mem_of_getElem? (i := 566) (by decide +kernel))) (by decide +kernel)
theorem nm_c_M_header : Cond.code y_M_header b_M_header 6 (some .int) ∈ nm_all := nm_in (List.mem_append_right _ (List.mem_of_getElem? (i := 567) (by decide +kernel))) (by decide +kernel)
abbrev w_M_header : List Cond := Cond.code y_M_header b_M_header 6 (some .int) :: nm_all
theorem nm_568 : Cond.methodLink "FlowNestModel" 101 y_M_sizeOf ∈ nm_all := nm_in (List.mem_append_right _ (List.mem_of_getElem? (i := 568) (by decide +kernel))) (by decide +kernel)
theorem nm_570 : Cond.instanceMethod y_M_sizeOf ∈ nm_all := nm_in (List.mem_append_right _ (List.mem_of_getElem? (i := 570) (by decide +kernel))) (by decide +kernel)
theorem nm_c_M_sizeOf : Cond.code y_M_sizeOf b_M_sizeOf 5 (some .int) ∈ nm_all := nm_in (List.mem_append_right _ (List.mem_of_getElem? (i := 571) (by decide +kernel))) (by decide +kernel)
abbrev w_M_sizeOf : List Cond := Cond.code y_M_sizeOf b_M_sizeOf 5 (some .int) :: nm_all
theorem nm_572 : Cond.methodLink "FlowNestLaw" 130 y_M_isReducible ∈ nm_all := nm_in (List.mem_append_right _ (List.mem_of_getElem? (i := 572) (by decide +kernel))) (by decide +kernel)
theorem nm_573 : Cond.instanceMethod y_M_isReducible ∈ nm_all := nm_in (List.mem_append_right _ (List.mem_of_getElem? (i := 573) (by decide +kernel))) (by decide +kernel)
theorem nm_574 : Cond.selects "FlowNestModel" y_M_isReducible y_M_isReducible ∈ nm_all := nm_in (List.mem_append_right _ (List.mem_of_getElem? (i := 574) (by decide +kernel))) (by decide +kernel)
theorem nm_c_M_isReducible : Cond.code y_M_isReducible b_M_isReducible 8 (some .boolean) ∈ nm_all := nm_in (List.mem_append_right _ (List.mem_of_getElem? (i := 575) (by decide +kernel))) (by decide +kernel)
abbrev w_M_isReducible : List Cond := Cond.code y_M_isReducible b_M_isReducible 8 (some .boolean) :: nm_all
theorem nm_576 : Cond.methodLink "FlowNestLaw" 133 y_M_order ∈ nm_all := nm_in (List.mem_append_right _ (List.mem_of_getElem? (i := 576) (by decide +kernel))) (by decide +kernel)
theorem nm_577 : Cond.instanceMethod y_M_order ∈ nm_all := nm_in (List.mem_append_right _ (List.mem_of_getElem? (i := 577) (by decide +kernel))) (by decide +kernel)
theorem nm_578 : Cond.selects "FlowNestModel" y_M_order y_M_order ∈ nm_all := nm_in (List.mem_append_right _ (List.mem_of_getElem? (i := 578) (by decide +kernel))) (by decide +kernel)
theorem nm_c_M_order : Cond.code y_M_order b_M_order 3 (some .int) ∈ nm_all := nm_in (List.mem_append_right _ (List.mem_of_getElem? (i := 579) (by decide +kernel))) (by decide +kernel)
abbrev w_M_order : List Cond := Cond.code y_M_order b_M_order 3 (some .int) :: nm_all
theorem nm_580 : Cond.methodLink "FlowNestLaw" 137 y_M_told ∈ nm_all := nm_in (List.mem_append_right _ (List.mem_of_getElem? (i := 580) (by decide +kernel))) (by decide +kernel)
theorem nm_581 : Cond.instanceMethod y_M_told ∈ nm_all := nm_in (List.mem_append_right _ (List.mem_of_getElem? (i := 581) (by decide +kernel))) (by decide +kernel)
theorem nm_582 : Cond.selects "FlowNestModel" y_M_told y_M_told ∈ nm_all := nm_in (List.mem_append_right _ (List.mem_of_getElem? (i := 582) (by decide +kernel))) (by decide +kernel)
theorem nm_c_M_told : Cond.code y_M_told b_M_told 4 (some .int) ∈ nm_all := nm_in (List.mem_append_right _ (List.mem_of_getElem? (i := 583) (by decide +kernel))) (by decide +kernel)
abbrev w_M_told : List Cond := Cond.code y_M_told b_M_told 4 (some .int) :: nm_all
theorem nm_584 : Cond.constantLong "FlowNestLaw" 100 (4294967295) ∈ nm_all := nm_in (List.mem_append_right _ (List.mem_of_getElem? (i := 584) (by decide +kernel))) (by decide +kernel)
theorem nm_s_F_worked : Cond.selects "FlowNest" y_F_worked y_F_worked ∈ nm_all := nm_in (List.mem_append_left _ (List.mem_of_getElem? (i := 0) (by decide +kernel))) (by decide +kernel)
theorem nm_s_S_goOver : Cond.selects "FlowNest$Side" y_S_goOver y_S_goOver ∈ nm_all := nm_in (List.mem_append_left _ (List.mem_of_getElem? (i := 1) (by decide +kernel))) (by decide +kernel)
theorem nm_s_S_dominate : Cond.selects "FlowNest$Side" y_S_dominate y_S_dominate ∈ nm_all := nm_in (List.mem_append_left _ (List.mem_of_getElem? (i := 2) (by decide +kernel))) (by decide +kernel)
theorem nm_s_S_pushAlong : Cond.selects "FlowNest$Side" y_S_pushAlong y_S_pushAlong ∈ nm_all := nm_in (List.mem_append_left _ (List.mem_of_getElem? (i := 3) (by decide +kernel))) (by decide +kernel)
theorem nm_s_F_nested : Cond.selects "FlowNest" y_F_nested y_F_nested ∈ nm_all := nm_in (List.mem_append_left _ (List.mem_of_getElem? (i := 4) (by decide +kernel))) (by decide +kernel)
theorem nm_s_F_requireVertex : Cond.selects "FlowNest" y_F_requireVertex y_F_requireVertex ∈ nm_all := nm_in (List.mem_append_left _ (List.mem_of_getElem? (i := 6) (by decide +kernel))) (by decide +kernel)
theorem nm_s_M_isVertex : Cond.selects "FlowNestModel" y_M_isVertex y_M_isVertex ∈ nm_all := nm_in (List.mem_append_left _ (List.mem_of_getElem? (i := 7) (by decide +kernel))) (by decide +kernel)
theorem nm_s_M_looks : Cond.selects "FlowNestModel" y_M_looks y_M_looks ∈ nm_all := nm_in (List.mem_append_left _ (List.mem_of_getElem? (i := 8) (by decide +kernel))) (by decide +kernel)
theorem nm_s_M_learn : Cond.selects "FlowNestModel" y_M_learn y_M_learn ∈ nm_all := nm_in (List.mem_append_left _ (List.mem_of_getElem? (i := 9) (by decide +kernel))) (by decide +kernel)
theorem nm_s_M_comeTo : Cond.selects "FlowNestModel" y_M_comeTo y_M_comeTo ∈ nm_all := nm_in (List.mem_append_left _ (List.mem_of_getElem? (i := 10) (by decide +kernel))) (by decide +kernel)
theorem nm_s_M_loopFrom : Cond.selects "FlowNestModel" y_M_loopFrom y_M_loopFrom ∈ nm_all := nm_in (List.mem_append_left _ (List.mem_of_getElem? (i := 11) (by decide +kernel))) (by decide +kernel)
theorem nm_s_M_goesBack : Cond.selects "FlowNestModel" y_M_goesBack y_M_goesBack ∈ nm_all := nm_in (List.mem_append_left _ (List.mem_of_getElem? (i := 12) (by decide +kernel))) (by decide +kernel)
theorem nm_s_M_dominatesIt : Cond.selects "FlowNestModel" y_M_dominatesIt y_M_dominatesIt ∈ nm_all := nm_in (List.mem_append_left _ (List.mem_of_getElem? (i := 13) (by decide +kernel))) (by decide +kernel)
theorem nm_s_M_goOver : Cond.selects "FlowNestModel" y_M_goOver y_M_goOver ∈ nm_all := nm_in (List.mem_append_left _ (List.mem_of_getElem? (i := 14) (by decide +kernel))) (by decide +kernel)
theorem nm_s_M_rank : Cond.selects "FlowNestModel" y_M_rank y_M_rank ∈ nm_all := nm_in (List.mem_append_left _ (List.mem_of_getElem? (i := 15) (by decide +kernel))) (by decide +kernel)
theorem nm_s_M_frontierOf : Cond.selects "FlowNestModel" y_M_frontierOf y_M_frontierOf ∈ nm_all := nm_in (List.mem_append_left _ (List.mem_of_getElem? (i := 16) (by decide +kernel))) (by decide +kernel)
theorem nm_s_M_sizeOf : Cond.selects "FlowNestModel" y_M_sizeOf y_M_sizeOf ∈ nm_all := nm_in (List.mem_append_left _ (List.mem_of_getElem? (i := 17) (by decide +kernel))) (by decide +kernel)
/-! the nest's own links: they are no words of a method's list, but premises of their own -/
def nw_ws : List Cond := [.methodLinkNest "FlowNest" 9 y_S_init "FlowNest", .methodLinkNest "FlowNest" 21 y_N_init "FlowNest", .methodLinkNest "FlowNest$Side" 52 y_F_bit "FlowNest", .methodLinkNest "FlowNest$Side" 67 y_F_following "FlowNest", .methodLinkNest "FlowNest$Side" 71 y_F_has "FlowNest", .methodLinkNest "FlowNest$Nest" 29 y_F_following "FlowNest", .methodLinkNest "FlowNest$Nest" 36 y_F_has "FlowNest", .methodLinkNest "FlowNest$Nest" 40 y_F_bit "FlowNest"]
def nw_ok (U : State) : Prop := ∀ w ∈ nw_ws, va_Nw w U
theorem nw_tab : ∀ w ∈ nw_ws, w.onTables = true := by decide +kernel
theorem nw_tbl : ∀ w ∈ nw_ws, w ∈ lw_tbl := by decide +kernel
theorem nw_same {u U : State} (h : u.vm = U.vm) (hZ : nw_ok u) : nw_ok U := fun w hw => va_Nw.same (nw_tab w hw) h (hZ w hw)
theorem nw_of {args : Array Value} {U : State} (h : ∀ w ∈ lw_tbl, w.before args U = true) : nw_ok U := fun w hw => va_Nw.of (nw_tab w hw) (h w (nw_tbl w hw))
theorem nw_warm {s U : State} (hW : s.WarmedH U.vm) (hZ : nw_ok s) : nw_ok U := by
  intro w hw
  have h := hZ w hw
  unfold nw_ws at hw
  rcases List.mem_cons.mp hw with e | hw
  · rw [e] at h ⊢; exact va_Nw.warmM hW h
  rcases List.mem_cons.mp hw with e | hw
  · rw [e] at h ⊢; exact va_Nw.warmM hW h
  rcases List.mem_cons.mp hw with e | hw
  · rw [e] at h ⊢; exact va_Nw.warmM hW h
  rcases List.mem_cons.mp hw with e | hw
  · rw [e] at h ⊢; exact va_Nw.warmM hW h
  rcases List.mem_cons.mp hw with e | hw
  · rw [e] at h ⊢; exact va_Nw.warmM hW h
  rcases List.mem_cons.mp hw with e | hw
  · rw [e] at h ⊢; exact va_Nw.warmM hW h
  rcases List.mem_cons.mp hw with e | hw
  · rw [e] at h ⊢; exact va_Nw.warmM hW h
  rcases List.mem_cons.mp hw with e | hw
  · rw [e] at h ⊢; exact va_Nw.warmM hW h
  cases hw
theorem nw_F_9 {U : State} (h : nw_ok U) : va_Nw (.methodLinkNest "FlowNest" 9 y_S_init "FlowNest") U := h _ (List.mem_of_getElem? (i := 0) rfl)
theorem nw_F_21 {U : State} (h : nw_ok U) : va_Nw (.methodLinkNest "FlowNest" 21 y_N_init "FlowNest") U := h _ (List.mem_of_getElem? (i := 1) rfl)
theorem nw_S_52 {U : State} (h : nw_ok U) : va_Nw (.methodLinkNest "FlowNest$Side" 52 y_F_bit "FlowNest") U := h _ (List.mem_of_getElem? (i := 2) rfl)
theorem nw_S_67 {U : State} (h : nw_ok U) : va_Nw (.methodLinkNest "FlowNest$Side" 67 y_F_following "FlowNest") U := h _ (List.mem_of_getElem? (i := 3) rfl)
theorem nw_S_71 {U : State} (h : nw_ok U) : va_Nw (.methodLinkNest "FlowNest$Side" 71 y_F_has "FlowNest") U := h _ (List.mem_of_getElem? (i := 4) rfl)
theorem nw_N_29 {U : State} (h : nw_ok U) : va_Nw (.methodLinkNest "FlowNest$Nest" 29 y_F_following "FlowNest") U := h _ (List.mem_of_getElem? (i := 5) rfl)
theorem nw_N_36 {U : State} (h : nw_ok U) : va_Nw (.methodLinkNest "FlowNest$Nest" 36 y_F_has "FlowNest") U := h _ (List.mem_of_getElem? (i := 6) rfl)
theorem nw_N_40 {U : State} (h : nw_ok U) : va_Nw (.methodLinkNest "FlowNest$Nest" 40 y_F_bit "FlowNest") U := h _ (List.mem_of_getElem? (i := 7) rfl)
