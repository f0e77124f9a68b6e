def RX0 : String := "TowerBench"
def TX0 : u_T := fun k => match k with
  | 0 => ("TowerBench", "pegCount", "I", false)
  | 1 => ("TowerBench", "diskCount", "I", false)
  | 2 => ("TowerBench", "ruleOn", "Z", false)
  | 3 => ("TowerBench", "weight", "[I", true)
  | 4 => ("TowerBench", "colour", "[I", true)
  | 5 => ("TowerBench", "allowed", "[Z", true)
  | 6 => ("TowerBench", "now", "I", false)
  | 7 => ("TowerBench", "target", "I", false)
  | 8 => ("TowerBench", "trail", "[I", true)
  | 9 => ("TowerBench", "moveCount", "I", false)
  | 10 => ("TowerBench", "tops", "[I", true)
  | 11 => ("TowerBench", "far", "[I", true)
  | 12 => ("TowerBench", "measured", "Z", false)
  | 13 => ("TowerBench", "seen", "[I", true)
  | 14 => ("TowerBench", "queue", "[I", true)
  | _ => ("TowerBench", "splitNumbers", "[I", true)
def tyX0 : Nat → FieldType := fun k => match k with
  | 0 => .int
  | 1 => .int
  | 2 => .boolean
  | 3 => .array .int
  | 4 => .array .int
  | 5 => .array .boolean
  | 6 => .int
  | 7 => .int
  | 8 => .array .int
  | 9 => .int
  | 10 => .array .int
  | 11 => .array .int
  | 12 => .boolean
  | 13 => .array .int
  | 14 => .array .int
  | _ => .array .int
abbrev wsX00 : List Cond := u_ws RX0 TX0 16
theorem nmX0 : ∀ a, a < 16 → ∀ b, b < 16 → a ≠ b → (TX0 a).2.1 ≠ (TX0 b).2.1 := by decide +kernel
theorem tyX0_ok : ∀ k, k < 16 → parseFieldDescriptor (TX0 k).2.2.1 = some (tyX0 k) := by decide +kernel
abbrev cX0_init : ByteArray := prog_1_method_1_code
def yX0_init : MethodName := ⟨RX0, "<init>", "()V"⟩
abbrev cX0_begin : ByteArray := prog_1_method_2_code
def yX0_begin : MethodName := ⟨RX0, "begin", "(II)I"⟩
abbrev cX0_put : ByteArray := prog_1_method_3_code
def yX0_put : MethodName := ⟨RX0, "put", "(II)I"⟩
abbrev cX0_aim : ByteArray := prog_1_method_4_code
def yX0_aim : MethodName := ⟨RX0, "aim", "(II)I"⟩
abbrev cX0_allow : ByteArray := prog_1_method_5_code
def yX0_allow : MethodName := ⟨RX0, "allow", "(IIZ)Z"⟩
abbrev cX0_setColour : ByteArray := prog_1_method_6_code
def yX0_setColour : MethodName := ⟨RX0, "setColour", "(II)I"⟩
abbrev cX0_setRule : ByteArray := prog_1_method_7_code
def yX0_setRule : MethodName := ⟨RX0, "setRule", "(Z)Z"⟩
abbrev cX0_move : ByteArray := prog_1_method_8_code
def yX0_move : MethodName := ⟨RX0, "move", "(II)I"⟩
abbrev cX0_takeBack : ByteArray := prog_1_method_9_code
def yX0_takeBack : MethodName := ⟨RX0, "takeBack", "()I"⟩
abbrev cX0_layStart : ByteArray := prog_1_method_10_code
def yX0_layStart : MethodName := ⟨RX0, "layStart", "()I"⟩
abbrev cX0_pegs : ByteArray := prog_1_method_11_code
def yX0_pegs : MethodName := ⟨RX0, "pegs", "()I"⟩
abbrev cX0_disks : ByteArray := prog_1_method_12_code
def yX0_disks : MethodName := ⟨RX0, "disks", "()I"⟩
abbrev cX0_moves : ByteArray := prog_1_method_13_code
def yX0_moves : MethodName := ⟨RX0, "moves", "()I"⟩
abbrev cX0_pegOf : ByteArray := prog_1_method_14_code
def yX0_pegOf : MethodName := ⟨RX0, "pegOf", "(I)I"⟩
abbrev cX0_top : ByteArray := prog_1_method_15_code
def yX0_top : MethodName := ⟨RX0, "top", "(I)I"⟩
abbrev cX0_arrangement : ByteArray := prog_1_method_16_code
def yX0_arrangement : MethodName := ⟨RX0, "arrangement", "()I"⟩
abbrev cX0_goal : ByteArray := prog_1_method_17_code
def yX0_goal : MethodName := ⟨RX0, "goal", "()I"⟩
abbrev cX0_isLawful : ByteArray := prog_1_method_18_code
def yX0_isLawful : MethodName := ⟨RX0, "isLawful", "()Z"⟩
abbrev cX0_canMove : ByteArray := prog_1_method_19_code
def yX0_canMove : MethodName := ⟨RX0, "canMove", "(II)Z"⟩
abbrev cX0_way : ByteArray := prog_1_method_20_code
def yX0_way : MethodName := ⟨RX0, "way", "()I"⟩
abbrev cX0_wayByDisks : ByteArray := prog_1_method_21_code
def yX0_wayByDisks : MethodName := ⟨RX0, "wayByDisks", "()I"⟩
abbrev cX0_lost : ByteArray := prog_1_method_22_code
def yX0_lost : MethodName := ⟨RX0, "lost", "()I"⟩
abbrev cX0_next : ByteArray := prog_1_method_23_code
def yX0_next : MethodName := ⟨RX0, "next", "()I"⟩
abbrev cX0_reachable : ByteArray := prog_1_method_24_code
def yX0_reachable : MethodName := ⟨RX0, "reachable", "()I"⟩
abbrev cX0_lay : ByteArray := prog_1_method_26_code
def yX0_lay : MethodName := ⟨RX0, "lay", "(II)V"⟩
abbrev cX0_isPeg : ByteArray := prog_1_method_27_code
def yX0_isPeg : MethodName := ⟨RX0, "isPeg", "(I)Z"⟩
abbrev cX0_isDisk : ByteArray := prog_1_method_28_code
def yX0_isDisk : MethodName := ⟨RX0, "isDisk", "(I)Z"⟩
abbrev cX0_isNumber : ByteArray := prog_1_method_29_code
def yX0_isNumber : MethodName := ⟨RX0, "isNumber", "(I)Z"⟩
abbrev cX0_pairOf : ByteArray := prog_1_method_30_code
def yX0_pairOf : MethodName := ⟨RX0, "pairOf", "(II)I"⟩
abbrev cX0_isAnyBarred : ByteArray := prog_1_method_31_code
def yX0_isAnyBarred : MethodName := ⟨RX0, "isAnyBarred", "()Z"⟩
abbrev cX0_pegIn : ByteArray := prog_1_method_32_code
def yX0_pegIn : MethodName := ⟨RX0, "pegIn", "(II)I"⟩
abbrev cX0_diskBelow : ByteArray := prog_1_method_33_code
def yX0_diskBelow : MethodName := ⟨RX0, "diskBelow", "(II)I"⟩
abbrev cX0_mayLieOn : ByteArray := prog_1_method_34_code
def yX0_mayLieOn : MethodName := ⟨RX0, "mayLieOn", "(II)Z"⟩
abbrev cX0_keepsRule : ByteArray := prog_1_method_35_code
def yX0_keepsRule : MethodName := ⟨RX0, "keepsRule", "(I)Z"⟩
abbrev cX0_readTops : ByteArray := prog_1_method_36_code
def yX0_readTops : MethodName := ⟨RX0, "readTops", "(I)V"⟩
abbrev cX0_fits : ByteArray := prog_1_method_37_code
def yX0_fits : MethodName := ⟨RX0, "fits", "(II)Z"⟩
abbrev cX0_behindMove : ByteArray := prog_1_method_38_code
def yX0_behindMove : MethodName := ⟨RX0, "behindMove", "(III)I"⟩
abbrev cX0_isPossible : ByteArray := prog_1_method_39_code
def yX0_isPossible : MethodName := ⟨RX0, "isPossible", "(II)Z"⟩
abbrev cX0_isStep : ByteArray := prog_1_method_40_code
def yX0_isStep : MethodName := ⟨RX0, "isStep", "(IIZ)Z"⟩
abbrev cX0_wayFrom : ByteArray := prog_1_method_41_code
def yX0_wayFrom : MethodName := ⟨RX0, "wayFrom", "(I)I"⟩
abbrev cX0_search : ByteArray := prog_1_method_42_code
def yX0_search : MethodName := ⟨RX0, "search", "(I[IZ)I"⟩
abbrev cX0_searchFrom : ByteArray := prog_1_method_43_code
def yX0_searchFrom : MethodName := ⟨RX0, "searchFrom", "(I[IZI)I"⟩
abbrev cX0_thirdPeg : ByteArray := prog_1_method_44_code
def yX0_thirdPeg : MethodName := ⟨RX0, "thirdPeg", "(II)I"⟩
abbrev cX0_gather : ByteArray := prog_1_method_45_code
def yX0_gather : MethodName := ⟨RX0, "gather", "(III)I"⟩
abbrev cX0_splitIndex : ByteArray := prog_1_method_46_code
def yX0_splitIndex : MethodName := ⟨RX0, "splitIndex", "(II)I"⟩
abbrev cX0_splitTable : ByteArray := prog_1_method_47_code
def yX0_splitTable : MethodName := ⟨RX0, "splitTable", "()[I"⟩
abbrev cX0_splitNumber : ByteArray := prog_1_method_48_code
def yX0_splitNumber : MethodName := ⟨RX0, "splitNumber", "([III)I"⟩
def RX1 : String := "TowerBenchModel"
def TX1 : u_T := fun k => match k with
  | _ => ("", "", "", false)
def tyX1 : Nat → FieldType := fun k => match k with
  | _ => .int
abbrev wsX10 : List Cond := u_ws RX1 TX1 0
theorem nmX1 : ∀ a, a < 0 → ∀ b, b < 0 → a ≠ b → (TX1 a).2.1 ≠ (TX1 b).2.1 := by decide +kernel
theorem tyX1_ok : ∀ k, k < 0 → parseFieldDescriptor (TX1 k).2.2.1 = some (tyX1 k) := by decide +kernel
def RJ9 : String := "java/lang/Math"
def TJ9 : u_T := fun k => match k with
  | _ => ("", "", "", false)
def tyJ9 : Nat → FieldType := fun k => match k with
  | _ => .int
abbrev wsJ90 : List Cond := u_ws RJ9 TJ9 0
theorem nmJ9 : ∀ a, a < 0 → ∀ b, b < 0 → a ≠ b → (TJ9 a).2.1 ≠ (TJ9 b).2.1 := by decide +kernel
theorem tyJ9_ok : ∀ k, k < 0 → parseFieldDescriptor (TJ9 k).2.2.1 = some (tyJ9 k) := by decide +kernel
abbrev cJ9_min_7cf53 : ByteArray := prog_8_method_69_code
def yJ9_min_7cf53 : MethodName := ⟨RJ9, "min", "(II)I"⟩
def RJ0 : String := "java/lang/String"
def TJ0 : u_T := fun k => match k with
  | _ => ("", "", "", false)
def tyJ0 : Nat → FieldType := fun k => match k with
  | _ => .int
abbrev wsJ00 : List Cond := u_ws RJ0 TJ0 0
theorem nmJ0 : ∀ a, a < 0 → ∀ b, b < 0 → a ≠ b → (TJ0 a).2.1 ≠ (TJ0 b).2.1 := by decide +kernel
theorem tyJ0_ok : ∀ k, k < 0 → parseFieldDescriptor (TJ0 k).2.2.1 = some (tyJ0 k) := by decide +kernel
def RL : String := "TowerBenchLaw"
abbrev cL_cell : ByteArray := method_2_code
def yL_cell : MethodName := ⟨RL, "cell", "([II)I"⟩
abbrev cL_low : ByteArray := method_3_code
def yL_low : MethodName := ⟨RL, "low", "(II)I"⟩
abbrev cL_begin : ByteArray := method_4_code
def yL_begin : MethodName := ⟨RL, "begin", "(LTowerBench;II)I"⟩
abbrev cL_put : ByteArray := method_5_code
def yL_put : MethodName := ⟨RL, "put", "(LTowerBench;II)I"⟩
abbrev cL_aim : ByteArray := method_6_code
def yL_aim : MethodName := ⟨RL, "aim", "(LTowerBench;II)I"⟩
abbrev cL_allow : ByteArray := method_7_code
def yL_allow : MethodName := ⟨RL, "allow", "(LTowerBench;IIZ)I"⟩
abbrev cL_setColour : ByteArray := method_8_code
def yL_setColour : MethodName := ⟨RL, "setColour", "(LTowerBench;II)I"⟩
abbrev cL_move : ByteArray := method_9_code
def yL_move : MethodName := ⟨RL, "move", "(LTowerBench;II)I"⟩
abbrev cL_takeBack : ByteArray := method_10_code
def yL_takeBack : MethodName := ⟨RL, "takeBack", "(LTowerBench;)I"⟩
abbrev cL_lost : ByteArray := method_11_code
def yL_lost : MethodName := ⟨RL, "lost", "(LTowerBench;)I"⟩
abbrev cL_wayByDisks : ByteArray := method_12_code
def yL_wayByDisks : MethodName := ⟨RL, "wayByDisks", "(LTowerBench;)I"⟩
abbrev cL_act : ByteArray := method_13_code
def yL_act : MethodName := ⟨RL, "act", "(LTowerBench;I)I"⟩
abbrev cL_areAlike : ByteArray := method_14_code
def yL_areAlike : MethodName := ⟨RL, "areAlike", "(LTowerBench;LTowerBench;)Z"⟩
abbrev cL_isNowSo : ByteArray := method_15_code
def yL_isNowSo : MethodName := ⟨RL, "isNowSo", "(LTowerBench;)Z"⟩
abbrev cL_areWaysSo : ByteArray := method_16_code
def yL_areWaysSo : MethodName := ⟨RL, "areWaysSo", "(LTowerBench;)Z"⟩
abbrev cL_law : ByteArray := code
def yL_law : MethodName := ⟨RL, "law", "([I)Z"⟩
abbrev vwCl : List vw_C := [(RX0, TX0, 16)]
-- the words that every method here is given: those of the tables that stay
def wG : List Cond := lw_tbl.filter goodWord
theorem wG_tbl : ∀ w ∈ wG, w ∈ lw_tbl := fun w h => (List.mem_filter.mp h).1
theorem wG_of {w : Cond} (k : Nat) (h : lw_tbl[k]? = some w) (g : goodWord w = true) : w ∈ wG := List.mem_filter.mpr ⟨List.mem_of_getElem? h, g⟩
theorem wG_good : GoodIn wG wG := fun w h => ⟨h, good_of_word (List.mem_filter.mp h).2⟩
theorem wG_sub {ws : List Cond} (h : ∀ w ∈ ws, w ∈ wG) : GoodIn wG ws := fun w q => wG_good w (h w q)
theorem wG_code {y : MethodName} {cc : ByteArray} {n : Nat} {r : Option FieldType} (h : Cond.code y cc n r ∈ wG) : ∀ w ∈ (Cond.code y cc n r :: wG), w ∈ wG := fun w q => by
  rcases List.mem_cons.mp q with rfl | q
  · exact h
  · exact q
theorem wG_V {own : String} {idx : Nat} {C : String} {y : MethodName} {cc : ByteArray} {n : Nat} {r : Option FieldType} (h1 : Cond.methodLink own idx y ∈ wG) (h2 : Cond.instanceMethod y ∈ wG) (h3 : Cond.selects C y y ∈ wG) (h4 : Cond.initialized C ∈ wG) (h5 : Cond.code y cc n r ∈ wG) : GoodIn wG (wsV own idx C y (Cond.code y cc n r :: wG)) := wG_sub (fun w q => by
  rcases List.mem_append.mp q with q | q
  · simp only [List.mem_cons, List.not_mem_nil, or_false] at q
    rcases q with rfl | rfl | rfl | rfl
    · exact h1
    · exact h2
    · exact h3
    · exact h4
  · exact wG_code h5 w q)
theorem wG_S {own : String} {idx : Nat} {y : MethodName} {cc : ByteArray} {n : Nat} {r : Option FieldType} (h1 : Cond.methodLink own idx y ∈ wG) (h2 : Cond.static y ∈ wG) (h4 : Cond.initialized own ∈ wG) (h5 : Cond.code y cc n r ∈ wG) : GoodIn wG (wsS own idx y (Cond.code y cc n r :: wG)) := wG_sub (fun w q => by
  rcases List.mem_append.mp q with q | q
  · simp only [List.mem_cons, List.not_mem_nil, or_false] at q
    rcases q with rfl | rfl | rfl
    · exact h1
    · exact h2
    · exact h4
  · exact wG_code h5 w q)
theorem wG_SW {own : String} {idx : Nat} {y : MethodName} {cc : ByteArray} {n : Nat} {r : Option FieldType} {hh : List (Nat × Nat × Nat × Nat)} (h1 : Cond.methodLink own idx y ∈ wG) (h2 : Cond.static y ∈ wG) (h4 : Cond.initialized y.cls ∈ wG) (h5 : Cond.codeWith y cc n r hh ∈ wG) : GoodIn wG (va_wsS own idx y (Cond.codeWith y cc n r hh :: wG)) := wG_sub (fun w q => by
  rcases List.mem_append.mp q with q | q
  · simp only [List.mem_cons, List.not_mem_nil, or_false] at q
    rcases q with rfl | rfl | rfl
    · exact h1
    · exact h2
    · exact h4
  · rcases List.mem_cons.mp q with rfl | q
    · exact h5
    · exact q)
theorem wG_head {y : MethodName} {cc : ByteArray} {n : Nat} {r : Option FieldType} {args : Array Value} {s : State} (h : ∀ w ∈ (Cond.code y cc n r :: wG), w.before args s = true) : ∀ w ∈ wG, w.before args s = true := fun w q => h w (List.mem_cons_of_mem _ q)
theorem wd_in_L : (.initialized RL : Cond) ∈ wG := wG_of 19 (by decide +kernel) (by decide +kernel)
theorem wd_in_0 : (.initialized RX0 : Cond) ∈ wG := wG_of 20 (by decide +kernel) (by decide +kernel)
theorem wd_in_J9 : (.initialized RJ9 : Cond) ∈ wG := wG_of 21 (by decide +kernel) (by decide +kernel)
theorem wd_in_java_lang_Throwable : (.initialized "java/lang/Throwable" : Cond) ∈ wG := wG_of 22 (by decide +kernel) (by decide +kernel)
theorem wd_in_java_lang_Exception : (.initialized "java/lang/Exception" : Cond) ∈ wG := wG_of 23 (by decide +kernel) (by decide +kernel)
theorem wd_in_java_lang_RuntimeException : (.initialized "java/lang/RuntimeException" : Cond) ∈ wG := wG_of 24 (by decide +kernel) (by decide +kernel)
theorem wd_in_java_lang_IllegalArgumentException : (.initialized "java/lang/IllegalArgumentException" : Cond) ∈ wG := wG_of 25 (by decide +kernel) (by decide +kernel)
theorem wd_in_java_lang_IndexOutOfBoundsException : (.initialized "java/lang/IndexOutOfBoundsException" : Cond) ∈ wG := wG_of 26 (by decide +kernel) (by decide +kernel)
theorem wd_in_java_lang_IllegalStateException : (.initialized "java/lang/IllegalStateException" : Cond) ∈ wG := wG_of 27 (by decide +kernel) (by decide +kernel)
theorem wd_clL_9 : (.classLink RL 9 "TowerBench" : Cond) ∈ wG := wG_of 28 (by decide +kernel) (by decide +kernel)
theorem wd_it_0 : (.instantiable RX0 16 : Cond) ∈ wG := wG_of 29 (by decide +kernel) (by decide +kernel)
theorem wd_mlL_119 : (.methodLink RL 119 yX0_init : Cond) ∈ wG := wG_of 30 (by decide +kernel) (by decide +kernel)
theorem wd_im_X0_init : (.instanceMethod yX0_init : Cond) ∈ wG := wG_of 31 (by decide +kernel) (by decide +kernel)
theorem wd_co_X0_init : (.code yX0_init cX0_init 1 (Option.none : Option FieldType) : Cond) ∈ wG := wG_of 32 (by decide +kernel) (by decide +kernel)
theorem wd_mo0_1 : (.methodLink RX0 1 objectInit : Cond) ∈ wG := wG_of 33 (by decide +kernel) (by decide +kernel)
theorem wd_im_oi : (.instanceMethod objectInit : Cond) ∈ wG := wG_of 34 (by decide +kernel) (by decide +kernel)
theorem wd_co_oi : (.code objectInit ⟨#[0xb1]⟩ 1 none : Cond) ∈ wG := wG_of 35 (by decide +kernel) (by decide +kernel)
theorem wd_ml0_35 : (.methodLink RX0 35 yX0_splitTable : Cond) ∈ wG := wG_of 36 (by decide +kernel) (by decide +kernel)
theorem wd_st_X0_splitTable : (.static yX0_splitTable : Cond) ∈ wG := wG_of 37 (by decide +kernel) (by decide +kernel)
theorem wd_co_X0_splitTable : (.code yX0_splitTable cX0_splitTable 3 (Option.some (FieldType.array FieldType.int)) : Cond) ∈ wG := wG_of 38 (by decide +kernel) (by decide +kernel)
theorem wd_ml0_156 : (.methodLink RX0 156 yX0_splitIndex : Cond) ∈ wG := wG_of 39 (by decide +kernel) (by decide +kernel)
theorem wd_st_X0_splitIndex : (.static yX0_splitIndex : Cond) ∈ wG := wG_of 40 (by decide +kernel) (by decide +kernel)
theorem wd_co_X0_splitIndex : (.code yX0_splitIndex cX0_splitIndex 2 (Option.some FieldType.int) : Cond) ∈ wG := wG_of 41 (by decide +kernel) (by decide +kernel)
theorem wd_ml0_179 : (.methodLink RX0 179 yX0_splitNumber : Cond) ∈ wG := wG_of 42 (by decide +kernel) (by decide +kernel)
theorem wd_st_X0_splitNumber : (.static yX0_splitNumber : Cond) ∈ wG := wG_of 43 (by decide +kernel) (by decide +kernel)
theorem wd_co_X0_splitNumber : (.code yX0_splitNumber cX0_splitNumber 6 (Option.some FieldType.int) : Cond) ∈ wG := wG_of 44 (by decide +kernel) (by decide +kernel)
theorem wd_k0_185 : (.constant RX0 185 (2147483647) : Cond) ∈ wG := wG_of 45 (by decide +kernel) (by decide +kernel)
theorem wd_ml0_143 : (.methodLink RX0 143 yJ9_min_7cf53 : Cond) ∈ wG := wG_of 46 (by decide +kernel) (by decide +kernel)
theorem wd_st_J9_min_7cf53 : (.static yJ9_min_7cf53 : Cond) ∈ wG := wG_of 47 (by decide +kernel) (by decide +kernel)
theorem wd_co_J9_min_7cf53 : (.code yJ9_min_7cf53 cJ9_min_7cf53 2 (Option.some FieldType.int) : Cond) ∈ wG := wG_of 48 (by decide +kernel) (by decide +kernel)
theorem wd_ml0_42 : (.methodLink RX0 42 yX0_lay : Cond) ∈ wG := wG_of 49 (by decide +kernel) (by decide +kernel)
theorem wd_im_X0_lay : (.instanceMethod yX0_lay : Cond) ∈ wG := wG_of 51 (by decide +kernel) (by decide +kernel)
theorem wd_co_X0_lay : (.code yX0_lay cX0_lay 5 (Option.none : Option FieldType) : Cond) ∈ wG := wG_of 52 (by decide +kernel) (by decide +kernel)
theorem wd_fl0_117 : (.fieldLink RX0 117 "TowerBench" "pegCount" "I" : Cond) ∈ wG := wG_of 53 (by decide +kernel) (by decide +kernel)
theorem wd_fl0_53 : (.fieldLink RX0 53 "TowerBench" "diskCount" "I" : Cond) ∈ wG := wG_of 54 (by decide +kernel) (by decide +kernel)
theorem wd_fl0_102 : (.fieldLink RX0 102 "TowerBench" "ruleOn" "Z" : Cond) ∈ wG := wG_of 55 (by decide +kernel) (by decide +kernel)
theorem wd_fl0_9 : (.fieldLink RX0 9 "TowerBench" "weight" "[I" : Cond) ∈ wG := wG_of 56 (by decide +kernel) (by decide +kernel)
theorem wd_fl0_13 : (.fieldLink RX0 13 "TowerBench" "colour" "[I" : Cond) ∈ wG := wG_of 57 (by decide +kernel) (by decide +kernel)
theorem wd_fl0_16 : (.fieldLink RX0 16 "TowerBench" "allowed" "[Z" : Cond) ∈ wG := wG_of 58 (by decide +kernel) (by decide +kernel)
theorem wd_fl0_77 : (.fieldLink RX0 77 "TowerBench" "now" "I" : Cond) ∈ wG := wG_of 59 (by decide +kernel) (by decide +kernel)
theorem wd_fl0_84 : (.fieldLink RX0 84 "TowerBench" "target" "I" : Cond) ∈ wG := wG_of 60 (by decide +kernel) (by decide +kernel)
theorem wd_fl0_20 : (.fieldLink RX0 20 "TowerBench" "trail" "[I" : Cond) ∈ wG := wG_of 61 (by decide +kernel) (by decide +kernel)
theorem wd_fl0_69 : (.fieldLink RX0 69 "TowerBench" "moveCount" "I" : Cond) ∈ wG := wG_of 62 (by decide +kernel) (by decide +kernel)
theorem wd_fl0_23 : (.fieldLink RX0 23 "TowerBench" "tops" "[I" : Cond) ∈ wG := wG_of 63 (by decide +kernel) (by decide +kernel)
theorem wd_fl0_26 : (.fieldLink RX0 26 "TowerBench" "far" "[I" : Cond) ∈ wG := wG_of 64 (by decide +kernel) (by decide +kernel)
theorem wd_fl0_87 : (.fieldLink RX0 87 "TowerBench" "measured" "Z" : Cond) ∈ wG := wG_of 65 (by decide +kernel) (by decide +kernel)
theorem wd_fl0_29 : (.fieldLink RX0 29 "TowerBench" "seen" "[I" : Cond) ∈ wG := wG_of 66 (by decide +kernel) (by decide +kernel)
theorem wd_fl0_32 : (.fieldLink RX0 32 "TowerBench" "queue" "[I" : Cond) ∈ wG := wG_of 67 (by decide +kernel) (by decide +kernel)
theorem wd_fl0_39 : (.fieldLink RX0 39 "TowerBench" "splitNumbers" "[I" : Cond) ∈ wG := wG_of 68 (by decide +kernel) (by decide +kernel)
theorem wd_la0_pegCount : (.lays RX0 "TowerBench" "pegCount" "I" : Cond) ∈ wG := wG_of 69 (by decide +kernel) (by decide +kernel)
theorem wd_la0_diskCount : (.lays RX0 "TowerBench" "diskCount" "I" : Cond) ∈ wG := wG_of 71 (by decide +kernel) (by decide +kernel)
theorem wd_la0_ruleOn : (.lays RX0 "TowerBench" "ruleOn" "Z" : Cond) ∈ wG := wG_of 73 (by decide +kernel) (by decide +kernel)
theorem wd_la0_weight : (.laysFinal RX0 "TowerBench" "weight" "[I" : Cond) ∈ wG := wG_of 75 (by decide +kernel) (by decide +kernel)
theorem wd_la0_colour : (.laysFinal RX0 "TowerBench" "colour" "[I" : Cond) ∈ wG := wG_of 77 (by decide +kernel) (by decide +kernel)
theorem wd_la0_allowed : (.laysFinal RX0 "TowerBench" "allowed" "[Z" : Cond) ∈ wG := wG_of 79 (by decide +kernel) (by decide +kernel)
theorem wd_la0_now : (.lays RX0 "TowerBench" "now" "I" : Cond) ∈ wG := wG_of 81 (by decide +kernel) (by decide +kernel)
theorem wd_la0_target : (.lays RX0 "TowerBench" "target" "I" : Cond) ∈ wG := wG_of 83 (by decide +kernel) (by decide +kernel)
theorem wd_la0_trail : (.laysFinal RX0 "TowerBench" "trail" "[I" : Cond) ∈ wG := wG_of 85 (by decide +kernel) (by decide +kernel)
theorem wd_la0_moveCount : (.lays RX0 "TowerBench" "moveCount" "I" : Cond) ∈ wG := wG_of 87 (by decide +kernel) (by decide +kernel)
theorem wd_la0_tops : (.laysFinal RX0 "TowerBench" "tops" "[I" : Cond) ∈ wG := wG_of 89 (by decide +kernel) (by decide +kernel)
theorem wd_la0_far : (.laysFinal RX0 "TowerBench" "far" "[I" : Cond) ∈ wG := wG_of 91 (by decide +kernel) (by decide +kernel)
theorem wd_la0_measured : (.lays RX0 "TowerBench" "measured" "Z" : Cond) ∈ wG := wG_of 93 (by decide +kernel) (by decide +kernel)
theorem wd_la0_seen : (.laysFinal RX0 "TowerBench" "seen" "[I" : Cond) ∈ wG := wG_of 95 (by decide +kernel) (by decide +kernel)
theorem wd_la0_queue : (.laysFinal RX0 "TowerBench" "queue" "[I" : Cond) ∈ wG := wG_of 97 (by decide +kernel) (by decide +kernel)
theorem wd_la0_splitNumbers : (.laysFinal RX0 "TowerBench" "splitNumbers" "[I" : Cond) ∈ wG := wG_of 99 (by decide +kernel) (by decide +kernel)
theorem wd_ac_int : (.arrayClass .int : Cond) ∈ wG := wG_of 102 (by decide +kernel) (by decide +kernel)
theorem wd_ac_boolean : (.arrayClass .boolean : Cond) ∈ wG := wG_of 103 (by decide +kernel) (by decide +kernel)
theorem wd_mlL_120 : (.methodLink RL 120 yL_cell : Cond) ∈ wG := wG_of 104 (by decide +kernel) (by decide +kernel)
theorem wd_st_L_cell : (.static yL_cell : Cond) ∈ wG := wG_of 105 (by decide +kernel) (by decide +kernel)
theorem wd_co_L_cell : (.code yL_cell cL_cell 2 (Option.some FieldType.int) : Cond) ∈ wG := wG_of 106 (by decide +kernel) (by decide +kernel)
theorem wd_mlL_124 : (.methodLink RL 124 yL_act : Cond) ∈ wG := wG_of 107 (by decide +kernel) (by decide +kernel)
theorem wd_st_L_act : (.static yL_act : Cond) ∈ wG := wG_of 108 (by decide +kernel) (by decide +kernel)
theorem wd_co_L_act : (.code yL_act cL_act 7 (Option.some FieldType.int) : Cond) ∈ wG := wG_of 109 (by decide +kernel) (by decide +kernel)
theorem wd_mlL_47 : (.methodLink RL 47 yL_low : Cond) ∈ wG := wG_of 110 (by decide +kernel) (by decide +kernel)
theorem wd_st_L_low : (.static yL_low : Cond) ∈ wG := wG_of 111 (by decide +kernel) (by decide +kernel)
theorem wd_co_L_low : (.code yL_low cL_low 2 (Option.some FieldType.int) : Cond) ∈ wG := wG_of 112 (by decide +kernel) (by decide +kernel)
theorem wd_kL_7 : (.constant RL 7 (2147483647) : Cond) ∈ wG := wG_of 113 (by decide +kernel) (by decide +kernel)
theorem wd_mlL_52 : (.methodLink RL 52 yX0_pegs : Cond) ∈ wG := wG_of 114 (by decide +kernel) (by decide +kernel)
theorem wd_im_X0_pegs : (.instanceMethod yX0_pegs : Cond) ∈ wG := wG_of 115 (by decide +kernel) (by decide +kernel)
theorem wd_se_X0_pegs : (.selects RX0 yX0_pegs yX0_pegs : Cond) ∈ wG := wG_of 116 (by decide +kernel) (by decide +kernel)
theorem wd_co_X0_pegs : (.code yX0_pegs cX0_pegs 1 (Option.some FieldType.int) : Cond) ∈ wG := wG_of 117 (by decide +kernel) (by decide +kernel)
theorem wd_mlL_55 : (.methodLink RL 55 yX0_disks : Cond) ∈ wG := wG_of 118 (by decide +kernel) (by decide +kernel)
theorem wd_im_X0_disks : (.instanceMethod yX0_disks : Cond) ∈ wG := wG_of 119 (by decide +kernel) (by decide +kernel)
theorem wd_se_X0_disks : (.selects RX0 yX0_disks yX0_disks : Cond) ∈ wG := wG_of 120 (by decide +kernel) (by decide +kernel)
theorem wd_co_X0_disks : (.code yX0_disks cX0_disks 1 (Option.some FieldType.int) : Cond) ∈ wG := wG_of 121 (by decide +kernel) (by decide +kernel)
theorem wd_mlL_58 : (.methodLink RL 58 yL_begin : Cond) ∈ wG := wG_of 122 (by decide +kernel) (by decide +kernel)
theorem wd_st_L_begin : (.static yL_begin : Cond) ∈ wG := wG_of 123 (by decide +kernel) (by decide +kernel)
theorem wd_cw_L_begin : (.codeWith yL_begin cL_begin 4 (Option.some FieldType.int) [(0, 6, 7, 14)] : Cond) ∈ wG := wG_of 124 (by decide +kernel) (by decide +kernel)
theorem wd_clL_14 : (.classLink RL 14 "java/lang/IllegalArgumentException" : Cond) ∈ wG := wG_of 125 (by decide +kernel) (by decide +kernel)
theorem wd_mlL_8 : (.methodLink RL 8 yX0_begin : Cond) ∈ wG := wG_of 126 (by decide +kernel) (by decide +kernel)
theorem wd_im_X0_begin : (.instanceMethod yX0_begin : Cond) ∈ wG := wG_of 127 (by decide +kernel) (by decide +kernel)
theorem wd_se_X0_begin : (.selects RX0 yX0_begin yX0_begin : Cond) ∈ wG := wG_of 128 (by decide +kernel) (by decide +kernel)
theorem wd_co_X0_begin : (.code yX0_begin cX0_begin 3 (Option.some FieldType.int) : Cond) ∈ wG := wG_of 129 (by decide +kernel) (by decide +kernel)
theorem wd_cl0_46 : (.classLink RX0 46 "java/lang/IllegalArgumentException" : Cond) ∈ wG := wG_of 130 (by decide +kernel) (by decide +kernel)
theorem wd_ac_byte : (.arrayClass .byte : Cond) ∈ wG := wG_of 197 (by decide +kernel) (by decide +kernel)
theorem wd_kL_16 : (.constant RL 16 (-99999) : Cond) ∈ wG := wG_of 198 (by decide +kernel) (by decide +kernel)
theorem wd_mlL_61 : (.methodLink RL 61 yX0_layStart : Cond) ∈ wG := wG_of 199 (by decide +kernel) (by decide +kernel)
theorem wd_im_X0_layStart : (.instanceMethod yX0_layStart : Cond) ∈ wG := wG_of 200 (by decide +kernel) (by decide +kernel)
theorem wd_se_X0_layStart : (.selects RX0 yX0_layStart yX0_layStart : Cond) ∈ wG := wG_of 201 (by decide +kernel) (by decide +kernel)
theorem wd_co_X0_layStart : (.code yX0_layStart cX0_layStart 2 (Option.some FieldType.int) : Cond) ∈ wG := wG_of 202 (by decide +kernel) (by decide +kernel)
theorem wd_mlL_64 : (.methodLink RL 64 yL_put : Cond) ∈ wG := wG_of 203 (by decide +kernel) (by decide +kernel)
theorem wd_st_L_put : (.static yL_put : Cond) ∈ wG := wG_of 204 (by decide +kernel) (by decide +kernel)
theorem wd_cw_L_put : (.codeWith yL_put cL_put 4 (Option.some FieldType.int) [(0, 6, 7, 20), (0, 6, 11, 22)] : Cond) ∈ wG := wG_of 205 (by decide +kernel) (by decide +kernel)
theorem wd_clL_20 : (.classLink RL 20 "java/lang/IndexOutOfBoundsException" : Cond) ∈ wG := wG_of 206 (by decide +kernel) (by decide +kernel)
theorem wd_clL_22 : (.classLink RL 22 "java/lang/IllegalStateException" : Cond) ∈ wG := wG_of 207 (by decide +kernel) (by decide +kernel)
theorem wd_mlL_17 : (.methodLink RL 17 yX0_put : Cond) ∈ wG := wG_of 208 (by decide +kernel) (by decide +kernel)
theorem wd_im_X0_put : (.instanceMethod yX0_put : Cond) ∈ wG := wG_of 209 (by decide +kernel) (by decide +kernel)
theorem wd_se_X0_put : (.selects RX0 yX0_put yX0_put : Cond) ∈ wG := wG_of 210 (by decide +kernel) (by decide +kernel)
theorem wd_co_X0_put : (.code yX0_put cX0_put 4 (Option.some FieldType.int) : Cond) ∈ wG := wG_of 211 (by decide +kernel) (by decide +kernel)
theorem wd_ml0_57 : (.methodLink RX0 57 yX0_isDisk : Cond) ∈ wG := wG_of 212 (by decide +kernel) (by decide +kernel)
theorem wd_im_X0_isDisk : (.instanceMethod yX0_isDisk : Cond) ∈ wG := wG_of 214 (by decide +kernel) (by decide +kernel)
theorem wd_co_X0_isDisk : (.code yX0_isDisk cX0_isDisk 2 (Option.some FieldType.boolean) : Cond) ∈ wG := wG_of 215 (by decide +kernel) (by decide +kernel)
theorem wd_ml0_61 : (.methodLink RX0 61 yX0_isPeg : Cond) ∈ wG := wG_of 216 (by decide +kernel) (by decide +kernel)
theorem wd_im_X0_isPeg : (.instanceMethod yX0_isPeg : Cond) ∈ wG := wG_of 218 (by decide +kernel) (by decide +kernel)
theorem wd_co_X0_isPeg : (.code yX0_isPeg cX0_isPeg 2 (Option.some FieldType.boolean) : Cond) ∈ wG := wG_of 219 (by decide +kernel) (by decide +kernel)
theorem wd_cl0_64 : (.classLink RX0 64 "java/lang/IndexOutOfBoundsException" : Cond) ∈ wG := wG_of 220 (by decide +kernel) (by decide +kernel)
theorem wd_cl0_72 : (.classLink RX0 72 "java/lang/IllegalStateException" : Cond) ∈ wG := wG_of 236 (by decide +kernel) (by decide +kernel)
theorem wd_ml0_80 : (.methodLink RX0 80 yX0_pegIn : Cond) ∈ wG := wG_of 252 (by decide +kernel) (by decide +kernel)
theorem wd_im_X0_pegIn : (.instanceMethod yX0_pegIn : Cond) ∈ wG := wG_of 254 (by decide +kernel) (by decide +kernel)
theorem wd_co_X0_pegIn : (.code yX0_pegIn cX0_pegIn 4 (Option.some FieldType.int) : Cond) ∈ wG := wG_of 255 (by decide +kernel) (by decide +kernel)
theorem wd_mlL_66 : (.methodLink RL 66 yL_aim : Cond) ∈ wG := wG_of 256 (by decide +kernel) (by decide +kernel)
theorem wd_st_L_aim : (.static yL_aim : Cond) ∈ wG := wG_of 257 (by decide +kernel) (by decide +kernel)
theorem wd_cw_L_aim : (.codeWith yL_aim cL_aim 4 (Option.some FieldType.int) [(0, 6, 7, 20)] : Cond) ∈ wG := wG_of 258 (by decide +kernel) (by decide +kernel)
theorem wd_mlL_24 : (.methodLink RL 24 yX0_aim : Cond) ∈ wG := wG_of 259 (by decide +kernel) (by decide +kernel)
theorem wd_im_X0_aim : (.instanceMethod yX0_aim : Cond) ∈ wG := wG_of 260 (by decide +kernel) (by decide +kernel)
theorem wd_se_X0_aim : (.selects RX0 yX0_aim yX0_aim : Cond) ∈ wG := wG_of 261 (by decide +kernel) (by decide +kernel)
theorem wd_co_X0_aim : (.code yX0_aim cX0_aim 4 (Option.some FieldType.int) : Cond) ∈ wG := wG_of 262 (by decide +kernel) (by decide +kernel)
theorem wd_mlL_68 : (.methodLink RL 68 yL_allow : Cond) ∈ wG := wG_of 263 (by decide +kernel) (by decide +kernel)
theorem wd_st_L_allow : (.static yL_allow : Cond) ∈ wG := wG_of 264 (by decide +kernel) (by decide +kernel)
theorem wd_cw_L_allow : (.codeWith yL_allow cL_allow 5 (Option.some FieldType.int) [(0, 15, 16, 20), (0, 15, 21, 14)] : Cond) ∈ wG := wG_of 265 (by decide +kernel) (by decide +kernel)
theorem wd_mlL_27 : (.methodLink RL 27 yX0_allow : Cond) ∈ wG := wG_of 266 (by decide +kernel) (by decide +kernel)
theorem wd_im_X0_allow : (.instanceMethod yX0_allow : Cond) ∈ wG := wG_of 267 (by decide +kernel) (by decide +kernel)
theorem wd_se_X0_allow : (.selects RX0 yX0_allow yX0_allow : Cond) ∈ wG := wG_of 268 (by decide +kernel) (by decide +kernel)
theorem wd_co_X0_allow : (.code yX0_allow cX0_allow 6 (Option.some FieldType.boolean) : Cond) ∈ wG := wG_of 269 (by decide +kernel) (by decide +kernel)
theorem wd_ml0_95 : (.methodLink RX0 95 yX0_pairOf : Cond) ∈ wG := wG_of 272 (by decide +kernel) (by decide +kernel)
theorem wd_st_X0_pairOf : (.static yX0_pairOf : Cond) ∈ wG := wG_of 273 (by decide +kernel) (by decide +kernel)
theorem wd_co_X0_pairOf : (.code yX0_pairOf cX0_pairOf 2 (Option.some FieldType.int) : Cond) ∈ wG := wG_of 274 (by decide +kernel) (by decide +kernel)
theorem wd_mlL_71 : (.methodLink RL 71 yL_setColour : Cond) ∈ wG := wG_of 275 (by decide +kernel) (by decide +kernel)
theorem wd_st_L_setColour : (.static yL_setColour : Cond) ∈ wG := wG_of 276 (by decide +kernel) (by decide +kernel)
theorem wd_cw_L_setColour : (.codeWith yL_setColour cL_setColour 4 (Option.some FieldType.int) [(0, 6, 7, 20), (0, 6, 11, 14)] : Cond) ∈ wG := wG_of 277 (by decide +kernel) (by decide +kernel)
theorem wd_mlL_31 : (.methodLink RL 31 yX0_setColour : Cond) ∈ wG := wG_of 278 (by decide +kernel) (by decide +kernel)
theorem wd_im_X0_setColour : (.instanceMethod yX0_setColour : Cond) ∈ wG := wG_of 279 (by decide +kernel) (by decide +kernel)
theorem wd_se_X0_setColour : (.selects RX0 yX0_setColour yX0_setColour : Cond) ∈ wG := wG_of 280 (by decide +kernel) (by decide +kernel)
theorem wd_co_X0_setColour : (.code yX0_setColour cX0_setColour 4 (Option.some FieldType.int) : Cond) ∈ wG := wG_of 281 (by decide +kernel) (by decide +kernel)
theorem wd_mlL_73 : (.methodLink RL 73 yX0_setRule : Cond) ∈ wG := wG_of 284 (by decide +kernel) (by decide +kernel)
theorem wd_im_X0_setRule : (.instanceMethod yX0_setRule : Cond) ∈ wG := wG_of 285 (by decide +kernel) (by decide +kernel)
theorem wd_se_X0_setRule : (.selects RX0 yX0_setRule yX0_setRule : Cond) ∈ wG := wG_of 286 (by decide +kernel) (by decide +kernel)
theorem wd_co_X0_setRule : (.code yX0_setRule cX0_setRule 3 (Option.some FieldType.boolean) : Cond) ∈ wG := wG_of 287 (by decide +kernel) (by decide +kernel)
theorem wd_mlL_77 : (.methodLink RL 77 yL_takeBack : Cond) ∈ wG := wG_of 288 (by decide +kernel) (by decide +kernel)
theorem wd_st_L_takeBack : (.static yL_takeBack : Cond) ∈ wG := wG_of 289 (by decide +kernel) (by decide +kernel)
theorem wd_cw_L_takeBack : (.codeWith yL_takeBack cL_takeBack 2 (Option.some FieldType.int) [(0, 4, 5, 22)] : Cond) ∈ wG := wG_of 290 (by decide +kernel) (by decide +kernel)
theorem wd_mlL_37 : (.methodLink RL 37 yX0_takeBack : Cond) ∈ wG := wG_of 291 (by decide +kernel) (by decide +kernel)
theorem wd_im_X0_takeBack : (.instanceMethod yX0_takeBack : Cond) ∈ wG := wG_of 292 (by decide +kernel) (by decide +kernel)
theorem wd_se_X0_takeBack : (.selects RX0 yX0_takeBack yX0_takeBack : Cond) ∈ wG := wG_of 293 (by decide +kernel) (by decide +kernel)
theorem wd_co_X0_takeBack : (.code yX0_takeBack cX0_takeBack 1 (Option.some FieldType.int) : Cond) ∈ wG := wG_of 294 (by decide +kernel) (by decide +kernel)
theorem wd_mlL_80 : (.methodLink RL 80 yL_move : Cond) ∈ wG := wG_of 296 (by decide +kernel) (by decide +kernel)
theorem wd_st_L_move : (.static yL_move : Cond) ∈ wG := wG_of 297 (by decide +kernel) (by decide +kernel)
theorem wd_cw_L_move : (.codeWith yL_move cL_move 4 (Option.some FieldType.int) [(0, 6, 7, 20), (0, 6, 11, 22)] : Cond) ∈ wG := wG_of 298 (by decide +kernel) (by decide +kernel)
theorem wd_mlL_34 : (.methodLink RL 34 yX0_move : Cond) ∈ wG := wG_of 299 (by decide +kernel) (by decide +kernel)
theorem wd_im_X0_move : (.instanceMethod yX0_move : Cond) ∈ wG := wG_of 300 (by decide +kernel) (by decide +kernel)
theorem wd_se_X0_move : (.selects RX0 yX0_move yX0_move : Cond) ∈ wG := wG_of 301 (by decide +kernel) (by decide +kernel)
theorem wd_co_X0_move : (.code yX0_move cX0_move 4 (Option.some FieldType.int) : Cond) ∈ wG := wG_of 302 (by decide +kernel) (by decide +kernel)
theorem wd_ml0_105 : (.methodLink RX0 105 yX0_isPossible : Cond) ∈ wG := wG_of 303 (by decide +kernel) (by decide +kernel)
theorem wd_im_X0_isPossible : (.instanceMethod yX0_isPossible : Cond) ∈ wG := wG_of 305 (by decide +kernel) (by decide +kernel)
theorem wd_co_X0_isPossible : (.code yX0_isPossible cX0_isPossible 3 (Option.some FieldType.boolean) : Cond) ∈ wG := wG_of 306 (by decide +kernel) (by decide +kernel)
theorem wd_ml0_120 : (.methodLink RX0 120 yX0_readTops : Cond) ∈ wG := wG_of 307 (by decide +kernel) (by decide +kernel)
theorem wd_im_X0_readTops : (.instanceMethod yX0_readTops : Cond) ∈ wG := wG_of 309 (by decide +kernel) (by decide +kernel)
theorem wd_co_X0_readTops : (.code yX0_readTops cX0_readTops 4 (Option.none : Option FieldType) : Cond) ∈ wG := wG_of 310 (by decide +kernel) (by decide +kernel)
theorem wd_ml0_165 : (.methodLink RX0 165 yX0_fits : Cond) ∈ wG := wG_of 311 (by decide +kernel) (by decide +kernel)
theorem wd_im_X0_fits : (.instanceMethod yX0_fits : Cond) ∈ wG := wG_of 313 (by decide +kernel) (by decide +kernel)
theorem wd_co_X0_fits : (.code yX0_fits cX0_fits 5 (Option.some FieldType.boolean) : Cond) ∈ wG := wG_of 314 (by decide +kernel) (by decide +kernel)
theorem wd_ml0_111 : (.methodLink RX0 111 yX0_behindMove : Cond) ∈ wG := wG_of 315 (by decide +kernel) (by decide +kernel)
theorem wd_im_X0_behindMove : (.instanceMethod yX0_behindMove : Cond) ∈ wG := wG_of 317 (by decide +kernel) (by decide +kernel)
theorem wd_co_X0_behindMove : (.code yX0_behindMove cX0_behindMove 5 (Option.some FieldType.int) : Cond) ∈ wG := wG_of 318 (by decide +kernel) (by decide +kernel)
theorem wd_ml0_124 : (.methodLink RX0 124 yX0_keepsRule : Cond) ∈ wG := wG_of 319 (by decide +kernel) (by decide +kernel)
theorem wd_im_X0_keepsRule : (.instanceMethod yX0_keepsRule : Cond) ∈ wG := wG_of 321 (by decide +kernel) (by decide +kernel)
theorem wd_co_X0_keepsRule : (.code yX0_keepsRule cX0_keepsRule 3 (Option.some FieldType.boolean) : Cond) ∈ wG := wG_of 322 (by decide +kernel) (by decide +kernel)
theorem wd_ml0_159 : (.methodLink RX0 159 yX0_diskBelow : Cond) ∈ wG := wG_of 323 (by decide +kernel) (by decide +kernel)
theorem wd_im_X0_diskBelow : (.instanceMethod yX0_diskBelow : Cond) ∈ wG := wG_of 325 (by decide +kernel) (by decide +kernel)
theorem wd_co_X0_diskBelow : (.code yX0_diskBelow cX0_diskBelow 5 (Option.some FieldType.int) : Cond) ∈ wG := wG_of 326 (by decide +kernel) (by decide +kernel)
theorem wd_ml0_162 : (.methodLink RX0 162 yX0_mayLieOn : Cond) ∈ wG := wG_of 327 (by decide +kernel) (by decide +kernel)
theorem wd_im_X0_mayLieOn : (.instanceMethod yX0_mayLieOn : Cond) ∈ wG := wG_of 329 (by decide +kernel) (by decide +kernel)
theorem wd_co_X0_mayLieOn : (.code yX0_mayLieOn cX0_mayLieOn 3 (Option.some FieldType.boolean) : Cond) ∈ wG := wG_of 330 (by decide +kernel) (by decide +kernel)
theorem wd_mlL_128 : (.methodLink RL 128 yL_areAlike : Cond) ∈ wG := wG_of 332 (by decide +kernel) (by decide +kernel)
theorem wd_st_L_areAlike : (.static yL_areAlike : Cond) ∈ wG := wG_of 333 (by decide +kernel) (by decide +kernel)
theorem wd_co_L_areAlike : (.code yL_areAlike cL_areAlike 2 (Option.some FieldType.boolean) : Cond) ∈ wG := wG_of 334 (by decide +kernel) (by decide +kernel)
theorem wd_mlL_82 : (.methodLink RL 82 yX0_moves : Cond) ∈ wG := wG_of 335 (by decide +kernel) (by decide +kernel)
theorem wd_im_X0_moves : (.instanceMethod yX0_moves : Cond) ∈ wG := wG_of 336 (by decide +kernel) (by decide +kernel)
theorem wd_se_X0_moves : (.selects RX0 yX0_moves yX0_moves : Cond) ∈ wG := wG_of 337 (by decide +kernel) (by decide +kernel)
theorem wd_co_X0_moves : (.code yX0_moves cX0_moves 1 (Option.some FieldType.int) : Cond) ∈ wG := wG_of 338 (by decide +kernel) (by decide +kernel)
theorem wd_mlL_85 : (.methodLink RL 85 yX0_arrangement : Cond) ∈ wG := wG_of 339 (by decide +kernel) (by decide +kernel)
theorem wd_im_X0_arrangement : (.instanceMethod yX0_arrangement : Cond) ∈ wG := wG_of 340 (by decide +kernel) (by decide +kernel)
theorem wd_se_X0_arrangement : (.selects RX0 yX0_arrangement yX0_arrangement : Cond) ∈ wG := wG_of 341 (by decide +kernel) (by decide +kernel)
theorem wd_co_X0_arrangement : (.code yX0_arrangement cX0_arrangement 1 (Option.some FieldType.int) : Cond) ∈ wG := wG_of 342 (by decide +kernel) (by decide +kernel)
theorem wd_mlL_88 : (.methodLink RL 88 yX0_goal : Cond) ∈ wG := wG_of 343 (by decide +kernel) (by decide +kernel)
theorem wd_im_X0_goal : (.instanceMethod yX0_goal : Cond) ∈ wG := wG_of 344 (by decide +kernel) (by decide +kernel)
theorem wd_se_X0_goal : (.selects RX0 yX0_goal yX0_goal : Cond) ∈ wG := wG_of 345 (by decide +kernel) (by decide +kernel)
theorem wd_co_X0_goal : (.code yX0_goal cX0_goal 1 (Option.some FieldType.int) : Cond) ∈ wG := wG_of 346 (by decide +kernel) (by decide +kernel)
theorem wd_mlL_91 : (.methodLink RL 91 yX0_way : Cond) ∈ wG := wG_of 347 (by decide +kernel) (by decide +kernel)
theorem wd_im_X0_way : (.instanceMethod yX0_way : Cond) ∈ wG := wG_of 348 (by decide +kernel) (by decide +kernel)
theorem wd_se_X0_way : (.selects RX0 yX0_way yX0_way : Cond) ∈ wG := wG_of 349 (by decide +kernel) (by decide +kernel)
theorem wd_co_X0_way : (.code yX0_way cX0_way 1 (Option.some FieldType.int) : Cond) ∈ wG := wG_of 350 (by decide +kernel) (by decide +kernel)
theorem wd_ml0_127 : (.methodLink RX0 127 yX0_wayFrom : Cond) ∈ wG := wG_of 351 (by decide +kernel) (by decide +kernel)
theorem wd_im_X0_wayFrom : (.instanceMethod yX0_wayFrom : Cond) ∈ wG := wG_of 353 (by decide +kernel) (by decide +kernel)
theorem wd_co_X0_wayFrom : (.code yX0_wayFrom cX0_wayFrom 2 (Option.some FieldType.int) : Cond) ∈ wG := wG_of 354 (by decide +kernel) (by decide +kernel)
theorem wd_ml0_150 : (.methodLink RX0 150 yX0_search : Cond) ∈ wG := wG_of 355 (by decide +kernel) (by decide +kernel)
theorem wd_im_X0_search : (.instanceMethod yX0_search : Cond) ∈ wG := wG_of 357 (by decide +kernel) (by decide +kernel)
theorem wd_co_X0_search : (.code yX0_search cX0_search 6 (Option.some FieldType.int) : Cond) ∈ wG := wG_of 358 (by decide +kernel) (by decide +kernel)
theorem wd_ml0_168 : (.methodLink RX0 168 yX0_isNumber : Cond) ∈ wG := wG_of 359 (by decide +kernel) (by decide +kernel)
theorem wd_im_X0_isNumber : (.instanceMethod yX0_isNumber : Cond) ∈ wG := wG_of 361 (by decide +kernel) (by decide +kernel)
theorem wd_co_X0_isNumber : (.code yX0_isNumber cX0_isNumber 2 (Option.some FieldType.boolean) : Cond) ∈ wG := wG_of 362 (by decide +kernel) (by decide +kernel)
theorem wd_ml0_171 : (.methodLink RX0 171 yX0_searchFrom : Cond) ∈ wG := wG_of 363 (by decide +kernel) (by decide +kernel)
theorem wd_im_X0_searchFrom : (.instanceMethod yX0_searchFrom : Cond) ∈ wG := wG_of 365 (by decide +kernel) (by decide +kernel)
theorem wd_co_X0_searchFrom : (.code yX0_searchFrom cX0_searchFrom 9 (Option.some FieldType.int) : Cond) ∈ wG := wG_of 366 (by decide +kernel) (by decide +kernel)
theorem wd_ml0_175 : (.methodLink RX0 175 yX0_isStep : Cond) ∈ wG := wG_of 367 (by decide +kernel) (by decide +kernel)
theorem wd_im_X0_isStep : (.instanceMethod yX0_isStep : Cond) ∈ wG := wG_of 369 (by decide +kernel) (by decide +kernel)
theorem wd_co_X0_isStep : (.code yX0_isStep cX0_isStep 5 (Option.some FieldType.boolean) : Cond) ∈ wG := wG_of 370 (by decide +kernel) (by decide +kernel)
theorem wd_mlL_94 : (.methodLink RL 94 yX0_reachable : Cond) ∈ wG := wG_of 371 (by decide +kernel) (by decide +kernel)
theorem wd_im_X0_reachable : (.instanceMethod yX0_reachable : Cond) ∈ wG := wG_of 372 (by decide +kernel) (by decide +kernel)
theorem wd_se_X0_reachable : (.selects RX0 yX0_reachable yX0_reachable : Cond) ∈ wG := wG_of 373 (by decide +kernel) (by decide +kernel)
theorem wd_co_X0_reachable : (.code yX0_reachable cX0_reachable 1 (Option.some FieldType.int) : Cond) ∈ wG := wG_of 374 (by decide +kernel) (by decide +kernel)
theorem wd_mlL_132 : (.methodLink RL 132 yL_isNowSo : Cond) ∈ wG := wG_of 375 (by decide +kernel) (by decide +kernel)
theorem wd_st_L_isNowSo : (.static yL_isNowSo : Cond) ∈ wG := wG_of 376 (by decide +kernel) (by decide +kernel)
theorem wd_co_L_isNowSo : (.code yL_isNowSo cL_isNowSo 8 (Option.some FieldType.boolean) : Cond) ∈ wG := wG_of 377 (by decide +kernel) (by decide +kernel)
theorem wd_mlL_97 : (.methodLink RL 97 yX0_pegOf : Cond) ∈ wG := wG_of 378 (by decide +kernel) (by decide +kernel)
theorem wd_im_X0_pegOf : (.instanceMethod yX0_pegOf : Cond) ∈ wG := wG_of 379 (by decide +kernel) (by decide +kernel)
theorem wd_se_X0_pegOf : (.selects RX0 yX0_pegOf yX0_pegOf : Cond) ∈ wG := wG_of 380 (by decide +kernel) (by decide +kernel)
theorem wd_co_X0_pegOf : (.code yX0_pegOf cX0_pegOf 2 (Option.some FieldType.int) : Cond) ∈ wG := wG_of 381 (by decide +kernel) (by decide +kernel)
theorem wd_mlL_101 : (.methodLink RL 101 yX0_top : Cond) ∈ wG := wG_of 382 (by decide +kernel) (by decide +kernel)
theorem wd_im_X0_top : (.instanceMethod yX0_top : Cond) ∈ wG := wG_of 383 (by decide +kernel) (by decide +kernel)
theorem wd_se_X0_top : (.selects RX0 yX0_top yX0_top : Cond) ∈ wG := wG_of 384 (by decide +kernel) (by decide +kernel)
theorem wd_co_X0_top : (.code yX0_top cX0_top 2 (Option.some FieldType.int) : Cond) ∈ wG := wG_of 385 (by decide +kernel) (by decide +kernel)
theorem wd_mlL_104 : (.methodLink RL 104 yX0_canMove : Cond) ∈ wG := wG_of 386 (by decide +kernel) (by decide +kernel)
theorem wd_im_X0_canMove : (.instanceMethod yX0_canMove : Cond) ∈ wG := wG_of 387 (by decide +kernel) (by decide +kernel)
theorem wd_se_X0_canMove : (.selects RX0 yX0_canMove yX0_canMove : Cond) ∈ wG := wG_of 388 (by decide +kernel) (by decide +kernel)
theorem wd_co_X0_canMove : (.code yX0_canMove cX0_canMove 3 (Option.some FieldType.boolean) : Cond) ∈ wG := wG_of 389 (by decide +kernel) (by decide +kernel)
theorem wd_mlL_136 : (.methodLink RL 136 yL_areWaysSo : Cond) ∈ wG := wG_of 390 (by decide +kernel) (by decide +kernel)
theorem wd_st_L_areWaysSo : (.static yL_areWaysSo : Cond) ∈ wG := wG_of 391 (by decide +kernel) (by decide +kernel)
theorem wd_co_L_areWaysSo : (.code yL_areWaysSo cL_areWaysSo 13 (Option.some FieldType.boolean) : Cond) ∈ wG := wG_of 392 (by decide +kernel) (by decide +kernel)
theorem wd_mlL_108 : (.methodLink RL 108 yX0_next : Cond) ∈ wG := wG_of 393 (by decide +kernel) (by decide +kernel)
theorem wd_im_X0_next : (.instanceMethod yX0_next : Cond) ∈ wG := wG_of 394 (by decide +kernel) (by decide +kernel)
theorem wd_se_X0_next : (.selects RX0 yX0_next yX0_next : Cond) ∈ wG := wG_of 395 (by decide +kernel) (by decide +kernel)
theorem wd_co_X0_next : (.code yX0_next cX0_next 4 (Option.some FieldType.int) : Cond) ∈ wG := wG_of 396 (by decide +kernel) (by decide +kernel)
theorem wd_mlL_111 : (.methodLink RL 111 yL_lost : Cond) ∈ wG := wG_of 397 (by decide +kernel) (by decide +kernel)
theorem wd_st_L_lost : (.static yL_lost : Cond) ∈ wG := wG_of 398 (by decide +kernel) (by decide +kernel)
theorem wd_cw_L_lost : (.codeWith yL_lost cL_lost 2 (Option.some FieldType.int) [(0, 4, 5, 22)] : Cond) ∈ wG := wG_of 399 (by decide +kernel) (by decide +kernel)
theorem wd_mlL_41 : (.methodLink RL 41 yX0_lost : Cond) ∈ wG := wG_of 400 (by decide +kernel) (by decide +kernel)
theorem wd_im_X0_lost : (.instanceMethod yX0_lost : Cond) ∈ wG := wG_of 401 (by decide +kernel) (by decide +kernel)
theorem wd_se_X0_lost : (.selects RX0 yX0_lost yX0_lost : Cond) ∈ wG := wG_of 402 (by decide +kernel) (by decide +kernel)
theorem wd_co_X0_lost : (.code yX0_lost cX0_lost 3 (Option.some FieldType.int) : Cond) ∈ wG := wG_of 403 (by decide +kernel) (by decide +kernel)
theorem wd_mlL_113 : (.methodLink RL 113 yL_wayByDisks : Cond) ∈ wG := wG_of 405 (by decide +kernel) (by decide +kernel)
theorem wd_st_L_wayByDisks : (.static yL_wayByDisks : Cond) ∈ wG := wG_of 406 (by decide +kernel) (by decide +kernel)
theorem wd_cw_L_wayByDisks : (.codeWith yL_wayByDisks cL_wayByDisks 2 (Option.some FieldType.int) [(0, 4, 5, 22)] : Cond) ∈ wG := wG_of 407 (by decide +kernel) (by decide +kernel)
theorem wd_mlL_44 : (.methodLink RL 44 yX0_wayByDisks : Cond) ∈ wG := wG_of 408 (by decide +kernel) (by decide +kernel)
theorem wd_im_X0_wayByDisks : (.instanceMethod yX0_wayByDisks : Cond) ∈ wG := wG_of 409 (by decide +kernel) (by decide +kernel)
theorem wd_se_X0_wayByDisks : (.selects RX0 yX0_wayByDisks yX0_wayByDisks : Cond) ∈ wG := wG_of 410 (by decide +kernel) (by decide +kernel)
theorem wd_co_X0_wayByDisks : (.code yX0_wayByDisks cX0_wayByDisks 7 (Option.some FieldType.int) : Cond) ∈ wG := wG_of 411 (by decide +kernel) (by decide +kernel)
theorem wd_ml0_131 : (.methodLink RX0 131 yX0_isAnyBarred : Cond) ∈ wG := wG_of 412 (by decide +kernel) (by decide +kernel)
theorem wd_im_X0_isAnyBarred : (.instanceMethod yX0_isAnyBarred : Cond) ∈ wG := wG_of 414 (by decide +kernel) (by decide +kernel)
theorem wd_co_X0_isAnyBarred : (.code yX0_isAnyBarred cX0_isAnyBarred 2 (Option.some FieldType.boolean) : Cond) ∈ wG := wG_of 415 (by decide +kernel) (by decide +kernel)
theorem wd_ml0_137 : (.methodLink RX0 137 yX0_thirdPeg : Cond) ∈ wG := wG_of 417 (by decide +kernel) (by decide +kernel)
theorem wd_st_X0_thirdPeg : (.static yX0_thirdPeg : Cond) ∈ wG := wG_of 418 (by decide +kernel) (by decide +kernel)
theorem wd_co_X0_thirdPeg : (.code yX0_thirdPeg cX0_thirdPeg 2 (Option.some FieldType.int) : Cond) ∈ wG := wG_of 419 (by decide +kernel) (by decide +kernel)
theorem wd_ml0_140 : (.methodLink RX0 140 yX0_gather : Cond) ∈ wG := wG_of 420 (by decide +kernel) (by decide +kernel)
theorem wd_im_X0_gather : (.instanceMethod yX0_gather : Cond) ∈ wG := wG_of 422 (by decide +kernel) (by decide +kernel)
theorem wd_co_X0_gather : (.code yX0_gather cX0_gather 8 (Option.some FieldType.int) : Cond) ∈ wG := wG_of 423 (by decide +kernel) (by decide +kernel)
theorem wd_mlL_115 : (.methodLink RL 115 yX0_isLawful : Cond) ∈ wG := wG_of 424 (by decide +kernel) (by decide +kernel)
theorem wd_im_X0_isLawful : (.instanceMethod yX0_isLawful : Cond) ∈ wG := wG_of 425 (by decide +kernel) (by decide +kernel)
theorem wd_se_X0_isLawful : (.selects RX0 yX0_isLawful yX0_isLawful : Cond) ∈ wG := wG_of 426 (by decide +kernel) (by decide +kernel)
theorem wd_co_X0_isLawful : (.code yX0_isLawful cX0_isLawful 1 (Option.some FieldType.boolean) : Cond) ∈ wG := wG_of 427 (by decide +kernel) (by decide +kernel)
theorem wd_se_X0_lay : (.selects RX0 yX0_lay yX0_lay : Cond) ∈ wG := wG_of 0 (by decide +kernel) (by decide +kernel)
theorem wd_se_X0_isDisk : (.selects RX0 yX0_isDisk yX0_isDisk : Cond) ∈ wG := wG_of 2 (by decide +kernel) (by decide +kernel)
theorem wd_se_X0_isPeg : (.selects RX0 yX0_isPeg yX0_isPeg : Cond) ∈ wG := wG_of 3 (by decide +kernel) (by decide +kernel)
theorem wd_se_X0_pegIn : (.selects RX0 yX0_pegIn yX0_pegIn : Cond) ∈ wG := wG_of 4 (by decide +kernel) (by decide +kernel)
theorem wd_se_X0_isPossible : (.selects RX0 yX0_isPossible yX0_isPossible : Cond) ∈ wG := wG_of 5 (by decide +kernel) (by decide +kernel)
theorem wd_se_X0_readTops : (.selects RX0 yX0_readTops yX0_readTops : Cond) ∈ wG := wG_of 6 (by decide +kernel) (by decide +kernel)
theorem wd_se_X0_fits : (.selects RX0 yX0_fits yX0_fits : Cond) ∈ wG := wG_of 7 (by decide +kernel) (by decide +kernel)
theorem wd_se_X0_behindMove : (.selects RX0 yX0_behindMove yX0_behindMove : Cond) ∈ wG := wG_of 8 (by decide +kernel) (by decide +kernel)
theorem wd_se_X0_keepsRule : (.selects RX0 yX0_keepsRule yX0_keepsRule : Cond) ∈ wG := wG_of 9 (by decide +kernel) (by decide +kernel)
theorem wd_se_X0_diskBelow : (.selects RX0 yX0_diskBelow yX0_diskBelow : Cond) ∈ wG := wG_of 10 (by decide +kernel) (by decide +kernel)
theorem wd_se_X0_mayLieOn : (.selects RX0 yX0_mayLieOn yX0_mayLieOn : Cond) ∈ wG := wG_of 11 (by decide +kernel) (by decide +kernel)
theorem wd_se_X0_wayFrom : (.selects RX0 yX0_wayFrom yX0_wayFrom : Cond) ∈ wG := wG_of 12 (by decide +kernel) (by decide +kernel)
theorem wd_se_X0_search : (.selects RX0 yX0_search yX0_search : Cond) ∈ wG := wG_of 13 (by decide +kernel) (by decide +kernel)
theorem wd_se_X0_isNumber : (.selects RX0 yX0_isNumber yX0_isNumber : Cond) ∈ wG := wG_of 14 (by decide +kernel) (by decide +kernel)
theorem wd_se_X0_searchFrom : (.selects RX0 yX0_searchFrom yX0_searchFrom : Cond) ∈ wG := wG_of 15 (by decide +kernel) (by decide +kernel)
theorem wd_se_X0_isStep : (.selects RX0 yX0_isStep yX0_isStep : Cond) ∈ wG := wG_of 16 (by decide +kernel) (by decide +kernel)
theorem wd_se_X0_isAnyBarred : (.selects RX0 yX0_isAnyBarred yX0_isAnyBarred : Cond) ∈ wG := wG_of 17 (by decide +kernel) (by decide +kernel)
theorem wd_se_X0_gather : (.selects RX0 yX0_gather yX0_gather : Cond) ∈ wG := wG_of 18 (by decide +kernel) (by decide +kernel)
theorem wG_X0 : ∀ w ∈ u_ws RX0 TX0 16, w ∈ wG := by
  intro w hw
  obtain ⟨k, hk, rfl⟩ := List.mem_map.mp hw
  have hk := List.mem_range.mp hk
  rcases (show k = 0 ∨ k = 1 ∨ k = 2 ∨ k = 3 ∨ k = 4 ∨ k = 5 ∨ k = 6 ∨ k = 7 ∨ k = 8 ∨ k = 9 ∨ k = 10 ∨ k = 11 ∨ k = 12 ∨ k = 13 ∨ k = 14 ∨ k = 15 by omega) with rfl | rfl | rfl | rfl | rfl | rfl | rfl | rfl | rfl | rfl | rfl | rfl | rfl | rfl | rfl | rfl
  · exact wd_la0_pegCount
  · exact wd_la0_diskCount
  · exact wd_la0_ruleOn
  · exact wd_la0_weight
  · exact wd_la0_colour
  · exact wd_la0_allowed
  · exact wd_la0_now
  · exact wd_la0_target
  · exact wd_la0_trail
  · exact wd_la0_moveCount
  · exact wd_la0_tops
  · exact wd_la0_far
  · exact wd_la0_measured
  · exact wd_la0_seen
  · exact wd_la0_queue
  · exact wd_la0_splitNumbers
theorem gw_0_35 : GoodIn wG (wsS RX0 35 yX0_splitTable (Cond.code yX0_splitTable cX0_splitTable 3 (Option.some (FieldType.array FieldType.int)) :: wG)) := wG_S wd_ml0_35 wd_st_X0_splitTable wd_in_0 wd_co_X0_splitTable
theorem gw_0_156 : GoodIn wG (wsS RX0 156 yX0_splitIndex (Cond.code yX0_splitIndex cX0_splitIndex 2 (Option.some FieldType.int) :: wG)) := wG_S wd_ml0_156 wd_st_X0_splitIndex wd_in_0 wd_co_X0_splitIndex
theorem gw_0_179 : GoodIn wG (wsS RX0 179 yX0_splitNumber (Cond.code yX0_splitNumber cX0_splitNumber 6 (Option.some FieldType.int) :: wG)) := wG_S wd_ml0_179 wd_st_X0_splitNumber wd_in_0 wd_co_X0_splitNumber
theorem gw_0_42 : GoodIn wG (wsV RX0 42 RX0 yX0_lay (Cond.code yX0_lay cX0_lay 5 (Option.none : Option FieldType) :: wG)) := wG_V wd_ml0_42 wd_im_X0_lay wd_se_X0_lay wd_in_0 wd_co_X0_lay
theorem gw_L_120 : GoodIn wG (wsS RL 120 yL_cell (Cond.code yL_cell cL_cell 2 (Option.some FieldType.int) :: wG)) := wG_S wd_mlL_120 wd_st_L_cell wd_in_L wd_co_L_cell
theorem gw_L_124 : GoodIn wG (wsS RL 124 yL_act (Cond.code yL_act cL_act 7 (Option.some FieldType.int) :: wG)) := wG_S wd_mlL_124 wd_st_L_act wd_in_L wd_co_L_act
theorem gw_L_47 : GoodIn wG (wsS RL 47 yL_low (Cond.code yL_low cL_low 2 (Option.some FieldType.int) :: wG)) := wG_S wd_mlL_47 wd_st_L_low wd_in_L wd_co_L_low
theorem gw_L_52 : GoodIn wG (wsV RL 52 RX0 yX0_pegs (Cond.code yX0_pegs cX0_pegs 1 (Option.some FieldType.int) :: wG)) := wG_V wd_mlL_52 wd_im_X0_pegs wd_se_X0_pegs wd_in_0 wd_co_X0_pegs
theorem gw_L_55 : GoodIn wG (wsV RL 55 RX0 yX0_disks (Cond.code yX0_disks cX0_disks 1 (Option.some FieldType.int) :: wG)) := wG_V wd_mlL_55 wd_im_X0_disks wd_se_X0_disks wd_in_0 wd_co_X0_disks
theorem gw_L_58 : GoodIn wG (va_wsS RL 58 yL_begin (Cond.codeWith yL_begin cL_begin 4 (Option.some FieldType.int) [(0, 6, 7, 14)] :: wG)) := wG_SW wd_mlL_58 wd_st_L_begin wd_in_L wd_cw_L_begin
theorem gw_L_8 : GoodIn wG (wsV RL 8 RX0 yX0_begin (Cond.code yX0_begin cX0_begin 3 (Option.some FieldType.int) :: wG)) := wG_V wd_mlL_8 wd_im_X0_begin wd_se_X0_begin wd_in_0 wd_co_X0_begin
theorem gw_L_61 : GoodIn wG (wsV RL 61 RX0 yX0_layStart (Cond.code yX0_layStart cX0_layStart 2 (Option.some FieldType.int) :: wG)) := wG_V wd_mlL_61 wd_im_X0_layStart wd_se_X0_layStart wd_in_0 wd_co_X0_layStart
theorem gw_L_64 : GoodIn wG (va_wsS RL 64 yL_put (Cond.codeWith yL_put cL_put 4 (Option.some FieldType.int) [(0, 6, 7, 20), (0, 6, 11, 22)] :: wG)) := wG_SW wd_mlL_64 wd_st_L_put wd_in_L wd_cw_L_put
theorem gw_L_17 : GoodIn wG (wsV RL 17 RX0 yX0_put (Cond.code yX0_put cX0_put 4 (Option.some FieldType.int) :: wG)) := wG_V wd_mlL_17 wd_im_X0_put wd_se_X0_put wd_in_0 wd_co_X0_put
theorem gw_0_57 : GoodIn wG (wsV RX0 57 RX0 yX0_isDisk (Cond.code yX0_isDisk cX0_isDisk 2 (Option.some FieldType.boolean) :: wG)) := wG_V wd_ml0_57 wd_im_X0_isDisk wd_se_X0_isDisk wd_in_0 wd_co_X0_isDisk
theorem gw_0_61 : GoodIn wG (wsV RX0 61 RX0 yX0_isPeg (Cond.code yX0_isPeg cX0_isPeg 2 (Option.some FieldType.boolean) :: wG)) := wG_V wd_ml0_61 wd_im_X0_isPeg wd_se_X0_isPeg wd_in_0 wd_co_X0_isPeg
theorem gw_0_80 : GoodIn wG (wsV RX0 80 RX0 yX0_pegIn (Cond.code yX0_pegIn cX0_pegIn 4 (Option.some FieldType.int) :: wG)) := wG_V wd_ml0_80 wd_im_X0_pegIn wd_se_X0_pegIn wd_in_0 wd_co_X0_pegIn
theorem gw_L_66 : GoodIn wG (va_wsS RL 66 yL_aim (Cond.codeWith yL_aim cL_aim 4 (Option.some FieldType.int) [(0, 6, 7, 20)] :: wG)) := wG_SW wd_mlL_66 wd_st_L_aim wd_in_L wd_cw_L_aim
theorem gw_L_24 : GoodIn wG (wsV RL 24 RX0 yX0_aim (Cond.code yX0_aim cX0_aim 4 (Option.some FieldType.int) :: wG)) := wG_V wd_mlL_24 wd_im_X0_aim wd_se_X0_aim wd_in_0 wd_co_X0_aim
theorem gw_L_68 : GoodIn wG (va_wsS RL 68 yL_allow (Cond.codeWith yL_allow cL_allow 5 (Option.some FieldType.int) [(0, 15, 16, 20), (0, 15, 21, 14)] :: wG)) := wG_SW wd_mlL_68 wd_st_L_allow wd_in_L wd_cw_L_allow
theorem gw_L_27 : GoodIn wG (wsV RL 27 RX0 yX0_allow (Cond.code yX0_allow cX0_allow 6 (Option.some FieldType.boolean) :: wG)) := wG_V wd_mlL_27 wd_im_X0_allow wd_se_X0_allow wd_in_0 wd_co_X0_allow
theorem gw_0_95 : GoodIn wG (wsS RX0 95 yX0_pairOf (Cond.code yX0_pairOf cX0_pairOf 2 (Option.some FieldType.int) :: wG)) := wG_S wd_ml0_95 wd_st_X0_pairOf wd_in_0 wd_co_X0_pairOf
theorem gw_L_71 : GoodIn wG (va_wsS RL 71 yL_setColour (Cond.codeWith yL_setColour cL_setColour 4 (Option.some FieldType.int) [(0, 6, 7, 20), (0, 6, 11, 14)] :: wG)) := wG_SW wd_mlL_71 wd_st_L_setColour wd_in_L wd_cw_L_setColour
theorem gw_L_31 : GoodIn wG (wsV RL 31 RX0 yX0_setColour (Cond.code yX0_setColour cX0_setColour 4 (Option.some FieldType.int) :: wG)) := wG_V wd_mlL_31 wd_im_X0_setColour wd_se_X0_setColour wd_in_0 wd_co_X0_setColour
theorem gw_L_73 : GoodIn wG (wsV RL 73 RX0 yX0_setRule (Cond.code yX0_setRule cX0_setRule 3 (Option.some FieldType.boolean) :: wG)) := wG_V wd_mlL_73 wd_im_X0_setRule wd_se_X0_setRule wd_in_0 wd_co_X0_setRule
theorem gw_L_77 : GoodIn wG (va_wsS RL 77 yL_takeBack (Cond.codeWith yL_takeBack cL_takeBack 2 (Option.some FieldType.int) [(0, 4, 5, 22)] :: wG)) := wG_SW wd_mlL_77 wd_st_L_takeBack wd_in_L wd_cw_L_takeBack
theorem gw_L_37 : GoodIn wG (wsV RL 37 RX0 yX0_takeBack (Cond.code yX0_takeBack cX0_takeBack 1 (Option.some FieldType.int) :: wG)) := wG_V wd_mlL_37 wd_im_X0_takeBack wd_se_X0_takeBack wd_in_0 wd_co_X0_takeBack
theorem gw_L_80 : GoodIn wG (va_wsS RL 80 yL_move (Cond.codeWith yL_move cL_move 4 (Option.some FieldType.int) [(0, 6, 7, 20), (0, 6, 11, 22)] :: wG)) := wG_SW wd_mlL_80 wd_st_L_move wd_in_L wd_cw_L_move
theorem gw_L_34 : GoodIn wG (wsV RL 34 RX0 yX0_move (Cond.code yX0_move cX0_move 4 (Option.some FieldType.int) :: wG)) := wG_V wd_mlL_34 wd_im_X0_move wd_se_X0_move wd_in_0 wd_co_X0_move
theorem gw_0_105 : GoodIn wG (wsV RX0 105 RX0 yX0_isPossible (Cond.code yX0_isPossible cX0_isPossible 3 (Option.some FieldType.boolean) :: wG)) := wG_V wd_ml0_105 wd_im_X0_isPossible wd_se_X0_isPossible wd_in_0 wd_co_X0_isPossible
theorem gw_0_120 : GoodIn wG (wsV RX0 120 RX0 yX0_readTops (Cond.code yX0_readTops cX0_readTops 4 (Option.none : Option FieldType) :: wG)) := wG_V wd_ml0_120 wd_im_X0_readTops wd_se_X0_readTops wd_in_0 wd_co_X0_readTops
theorem gw_0_165 : GoodIn wG (wsV RX0 165 RX0 yX0_fits (Cond.code yX0_fits cX0_fits 5 (Option.some FieldType.boolean) :: wG)) := wG_V wd_ml0_165 wd_im_X0_fits wd_se_X0_fits wd_in_0 wd_co_X0_fits
theorem gw_0_111 : GoodIn wG (wsV RX0 111 RX0 yX0_behindMove (Cond.code yX0_behindMove cX0_behindMove 5 (Option.some FieldType.int) :: wG)) := wG_V wd_ml0_111 wd_im_X0_behindMove wd_se_X0_behindMove wd_in_0 wd_co_X0_behindMove
theorem gw_0_124 : GoodIn wG (wsV RX0 124 RX0 yX0_keepsRule (Cond.code yX0_keepsRule cX0_keepsRule 3 (Option.some FieldType.boolean) :: wG)) := wG_V wd_ml0_124 wd_im_X0_keepsRule wd_se_X0_keepsRule wd_in_0 wd_co_X0_keepsRule
theorem gw_0_159 : GoodIn wG (wsV RX0 159 RX0 yX0_diskBelow (Cond.code yX0_diskBelow cX0_diskBelow 5 (Option.some FieldType.int) :: wG)) := wG_V wd_ml0_159 wd_im_X0_diskBelow wd_se_X0_diskBelow wd_in_0 wd_co_X0_diskBelow
theorem gw_0_162 : GoodIn wG (wsV RX0 162 RX0 yX0_mayLieOn (Cond.code yX0_mayLieOn cX0_mayLieOn 3 (Option.some FieldType.boolean) :: wG)) := wG_V wd_ml0_162 wd_im_X0_mayLieOn wd_se_X0_mayLieOn wd_in_0 wd_co_X0_mayLieOn
theorem gw_L_128 : GoodIn wG (wsS RL 128 yL_areAlike (Cond.code yL_areAlike cL_areAlike 2 (Option.some FieldType.boolean) :: wG)) := wG_S wd_mlL_128 wd_st_L_areAlike wd_in_L wd_co_L_areAlike
theorem gw_L_82 : GoodIn wG (wsV RL 82 RX0 yX0_moves (Cond.code yX0_moves cX0_moves 1 (Option.some FieldType.int) :: wG)) := wG_V wd_mlL_82 wd_im_X0_moves wd_se_X0_moves wd_in_0 wd_co_X0_moves
theorem gw_L_85 : GoodIn wG (wsV RL 85 RX0 yX0_arrangement (Cond.code yX0_arrangement cX0_arrangement 1 (Option.some FieldType.int) :: wG)) := wG_V wd_mlL_85 wd_im_X0_arrangement wd_se_X0_arrangement wd_in_0 wd_co_X0_arrangement
theorem gw_L_88 : GoodIn wG (wsV RL 88 RX0 yX0_goal (Cond.code yX0_goal cX0_goal 1 (Option.some FieldType.int) :: wG)) := wG_V wd_mlL_88 wd_im_X0_goal wd_se_X0_goal wd_in_0 wd_co_X0_goal
theorem gw_L_91 : GoodIn wG (wsV RL 91 RX0 yX0_way (Cond.code yX0_way cX0_way 1 (Option.some FieldType.int) :: wG)) := wG_V wd_mlL_91 wd_im_X0_way wd_se_X0_way wd_in_0 wd_co_X0_way
theorem gw_0_127 : GoodIn wG (wsV RX0 127 RX0 yX0_wayFrom (Cond.code yX0_wayFrom cX0_wayFrom 2 (Option.some FieldType.int) :: wG)) := wG_V wd_ml0_127 wd_im_X0_wayFrom wd_se_X0_wayFrom wd_in_0 wd_co_X0_wayFrom
theorem gw_0_150 : GoodIn wG (wsV RX0 150 RX0 yX0_search (Cond.code yX0_search cX0_search 6 (Option.some FieldType.int) :: wG)) := wG_V wd_ml0_150 wd_im_X0_search wd_se_X0_search wd_in_0 wd_co_X0_search
theorem gw_0_168 : GoodIn wG (wsV RX0 168 RX0 yX0_isNumber (Cond.code yX0_isNumber cX0_isNumber 2 (Option.some FieldType.boolean) :: wG)) := wG_V wd_ml0_168 wd_im_X0_isNumber wd_se_X0_isNumber wd_in_0 wd_co_X0_isNumber
theorem gw_0_171 : GoodIn wG (wsV RX0 171 RX0 yX0_searchFrom (Cond.code yX0_searchFrom cX0_searchFrom 9 (Option.some FieldType.int) :: wG)) := wG_V wd_ml0_171 wd_im_X0_searchFrom wd_se_X0_searchFrom wd_in_0 wd_co_X0_searchFrom
theorem gw_0_175 : GoodIn wG (wsV RX0 175 RX0 yX0_isStep (Cond.code yX0_isStep cX0_isStep 5 (Option.some FieldType.boolean) :: wG)) := wG_V wd_ml0_175 wd_im_X0_isStep wd_se_X0_isStep wd_in_0 wd_co_X0_isStep
theorem gw_L_94 : GoodIn wG (wsV RL 94 RX0 yX0_reachable (Cond.code yX0_reachable cX0_reachable 1 (Option.some FieldType.int) :: wG)) := wG_V wd_mlL_94 wd_im_X0_reachable wd_se_X0_reachable wd_in_0 wd_co_X0_reachable
theorem gw_L_132 : GoodIn wG (wsS RL 132 yL_isNowSo (Cond.code yL_isNowSo cL_isNowSo 8 (Option.some FieldType.boolean) :: wG)) := wG_S wd_mlL_132 wd_st_L_isNowSo wd_in_L wd_co_L_isNowSo
theorem gw_L_97 : GoodIn wG (wsV RL 97 RX0 yX0_pegOf (Cond.code yX0_pegOf cX0_pegOf 2 (Option.some FieldType.int) :: wG)) := wG_V wd_mlL_97 wd_im_X0_pegOf wd_se_X0_pegOf wd_in_0 wd_co_X0_pegOf
theorem gw_L_101 : GoodIn wG (wsV RL 101 RX0 yX0_top (Cond.code yX0_top cX0_top 2 (Option.some FieldType.int) :: wG)) := wG_V wd_mlL_101 wd_im_X0_top wd_se_X0_top wd_in_0 wd_co_X0_top
theorem gw_L_104 : GoodIn wG (wsV RL 104 RX0 yX0_canMove (Cond.code yX0_canMove cX0_canMove 3 (Option.some FieldType.boolean) :: wG)) := wG_V wd_mlL_104 wd_im_X0_canMove wd_se_X0_canMove wd_in_0 wd_co_X0_canMove
theorem gw_L_136 : GoodIn wG (wsS RL 136 yL_areWaysSo (Cond.code yL_areWaysSo cL_areWaysSo 13 (Option.some FieldType.boolean) :: wG)) := wG_S wd_mlL_136 wd_st_L_areWaysSo wd_in_L wd_co_L_areWaysSo
theorem gw_L_108 : GoodIn wG (wsV RL 108 RX0 yX0_next (Cond.code yX0_next cX0_next 4 (Option.some FieldType.int) :: wG)) := wG_V wd_mlL_108 wd_im_X0_next wd_se_X0_next wd_in_0 wd_co_X0_next
theorem gw_L_111 : GoodIn wG (va_wsS RL 111 yL_lost (Cond.codeWith yL_lost cL_lost 2 (Option.some FieldType.int) [(0, 4, 5, 22)] :: wG)) := wG_SW wd_mlL_111 wd_st_L_lost wd_in_L wd_cw_L_lost
theorem gw_L_41 : GoodIn wG (wsV RL 41 RX0 yX0_lost (Cond.code yX0_lost cX0_lost 3 (Option.some FieldType.int) :: wG)) := wG_V wd_mlL_41 wd_im_X0_lost wd_se_X0_lost wd_in_0 wd_co_X0_lost
theorem gw_L_113 : GoodIn wG (va_wsS RL 113 yL_wayByDisks (Cond.codeWith yL_wayByDisks cL_wayByDisks 2 (Option.some FieldType.int) [(0, 4, 5, 22)] :: wG)) := wG_SW wd_mlL_113 wd_st_L_wayByDisks wd_in_L wd_cw_L_wayByDisks
theorem gw_L_44 : GoodIn wG (wsV RL 44 RX0 yX0_wayByDisks (Cond.code yX0_wayByDisks cX0_wayByDisks 7 (Option.some FieldType.int) :: wG)) := wG_V wd_mlL_44 wd_im_X0_wayByDisks wd_se_X0_wayByDisks wd_in_0 wd_co_X0_wayByDisks
theorem gw_0_131 : GoodIn wG (wsV RX0 131 RX0 yX0_isAnyBarred (Cond.code yX0_isAnyBarred cX0_isAnyBarred 2 (Option.some FieldType.boolean) :: wG)) := wG_V wd_ml0_131 wd_im_X0_isAnyBarred wd_se_X0_isAnyBarred wd_in_0 wd_co_X0_isAnyBarred
theorem gw_0_137 : GoodIn wG (wsS RX0 137 yX0_thirdPeg (Cond.code yX0_thirdPeg cX0_thirdPeg 2 (Option.some FieldType.int) :: wG)) := wG_S wd_ml0_137 wd_st_X0_thirdPeg wd_in_0 wd_co_X0_thirdPeg
theorem gw_0_140 : GoodIn wG (wsV RX0 140 RX0 yX0_gather (Cond.code yX0_gather cX0_gather 8 (Option.some FieldType.int) :: wG)) := wG_V wd_ml0_140 wd_im_X0_gather wd_se_X0_gather wd_in_0 wd_co_X0_gather
theorem gw_L_115 : GoodIn wG (wsV RL 115 RX0 yX0_isLawful (Cond.code yX0_isLawful cX0_isLawful 1 (Option.some FieldType.boolean) :: wG)) := wG_V wd_mlL_115 wd_im_X0_isLawful wd_se_X0_isLawful wd_in_0 wd_co_X0_isLawful
