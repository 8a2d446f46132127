def RX0 : String := "VictimHeap"
def TX0 : u_T := fun k => match k with
  | 0 => ("VictimHeap", "limit", "I", true)
  | 1 => ("VictimHeap", "units", "[I", true)
  | 2 => ("VictimHeap", "sizes", "[I", true)
  | 3 => ("VictimHeap", "states", "[I", true)
  | 4 => ("VictimHeap", "arrivals", "[I", true)
  | 5 => ("VictimHeap", "lastArrival", "I", false)
  | 6 => ("VictimHeap", "end", "I", false)
  | 7 => ("VictimHeap", "victim", "I", false)
  | _ => ("VictimHeap", "top", "I", false)
def tyX0 : Nat → FieldType := fun k => match k with
  | 0 => .int
  | 1 => .array .int
  | 2 => .array .int
  | 3 => .array .int
  | 4 => .array .int
  | 5 => .int
  | 6 => .int
  | 7 => .int
  | _ => .int
theorem nmX0 : ∀ a, a < 9 → ∀ b, b < 9 → a ≠ b → (TX0 a).2.1 ≠ (TX0 b).2.1 := by decide +kernel
theorem tyX0_ok : ∀ k, k < 9 → parseFieldDescriptor (TX0 k).2.2.1 = some (tyX0 k) := by decide +kernel
abbrev cX0_init : ByteArray := prog_1_method_1_code
def yX0_init : MethodName := ⟨RX0, "<init>", "(I)V"⟩
abbrev cX0_malloc : ByteArray := prog_1_method_2_code
def yX0_malloc : MethodName := ⟨RX0, "malloc", "(I)I"⟩
abbrev cX0_calloc : ByteArray := prog_1_method_3_code
def yX0_calloc : MethodName := ⟨RX0, "calloc", "(I)I"⟩
abbrev cX0_free : ByteArray := prog_1_method_4_code
def yX0_free : MethodName := ⟨RX0, "free", "(I)Z"⟩
abbrev cX0_realloc : ByteArray := prog_1_method_5_code
def yX0_realloc : MethodName := ⟨RX0, "realloc", "(II)I"⟩
abbrev cX0_align : ByteArray := prog_1_method_6_code
def yX0_align : MethodName := ⟨RX0, "align", "(II)I"⟩
abbrev cX0_trim : ByteArray := prog_1_method_7_code
def yX0_trim : MethodName := ⟨RX0, "trim", "(I)I"⟩
abbrev cX0_usable : ByteArray := prog_1_method_8_code
def yX0_usable : MethodName := ⟨RX0, "usable", "(I)I"⟩
abbrev cX0_read : ByteArray := prog_1_method_9_code
def yX0_read : MethodName := ⟨RX0, "read", "(II)I"⟩
abbrev cX0_write : ByteArray := prog_1_method_10_code
def yX0_write : MethodName := ⟨RX0, "write", "(III)Z"⟩
abbrev cX0_size : ByteArray := prog_1_method_11_code
def yX0_size : MethodName := ⟨RX0, "size", "(I)I"⟩
abbrev cX0_state : ByteArray := prog_1_method_12_code
def yX0_state : MethodName := ⟨RX0, "state", "(I)I"⟩
abbrev cX0_count : ByteArray := prog_1_method_13_code
def yX0_count : MethodName := ⟨RX0, "count", "(I)I"⟩
abbrev cX0_end : ByteArray := prog_1_method_14_code
def yX0_end : MethodName := ⟨RX0, "end", "()I"⟩
abbrev cX0_total : ByteArray := prog_1_method_15_code
def yX0_total : MethodName := ⟨RX0, "total", "(I)I"⟩
abbrev cX0_unitsFor : ByteArray := prog_1_method_16_code
def yX0_unitsFor : MethodName := ⟨RX0, "unitsFor", "(I)I"⟩
abbrev cX0_pointerTo : ByteArray := prog_1_method_17_code
def yX0_pointerTo : MethodName := ⟨RX0, "pointerTo", "(I)I"⟩
abbrev cX0_isAlignment : ByteArray := prog_1_method_18_code
def yX0_isAlignment : MethodName := ⟨RX0, "isAlignment", "(I)Z"⟩
abbrev cX0_unitsInFront : ByteArray := prog_1_method_19_code
def yX0_unitsInFront : MethodName := ⟨RX0, "unitsInFront", "(II)I"⟩
abbrev cX0_isChunk : ByteArray := prog_1_method_20_code
def yX0_isChunk : MethodName := ⟨RX0, "isChunk", "(I)Z"⟩
abbrev cX0_isFree : ByteArray := prog_1_method_21_code
def yX0_isFree : MethodName := ⟨RX0, "isFree", "(I)Z"⟩
abbrev cX0_isPointer : ByteArray := prog_1_method_22_code
def yX0_isPointer : MethodName := ⟨RX0, "isPointer", "(I)Z"⟩
abbrev cX0_hasData : ByteArray := prog_1_method_23_code
def yX0_hasData : MethodName := ⟨RX0, "hasData", "(II)Z"⟩
abbrev cX0_isCountedBy : ByteArray := prog_1_method_24_code
def yX0_isCountedBy : MethodName := ⟨RX0, "isCountedBy", "(II)Z"⟩
abbrev cX0_sizeAt : ByteArray := prog_1_method_25_code
def yX0_sizeAt : MethodName := ⟨RX0, "sizeAt", "(I)I"⟩
abbrev cX0_take : ByteArray := prog_1_method_26_code
def yX0_take : MethodName := ⟨RX0, "take", "(I)I"⟩
abbrev cX0_takeSmall : ByteArray := prog_1_method_27_code
def yX0_takeSmall : MethodName := ⟨RX0, "takeSmall", "(I)I"⟩
abbrev cX0_takeLarge : ByteArray := prog_1_method_28_code
def yX0_takeLarge : MethodName := ⟨RX0, "takeLarge", "(I)I"⟩
abbrev cX0_takeFromTop : ByteArray := prog_1_method_29_code
def yX0_takeFromTop : MethodName := ⟨RX0, "takeFromTop", "(I)I"⟩
abbrev cX0_cutForVictim : ByteArray := prog_1_method_30_code
def yX0_cutForVictim : MethodName := ⟨RX0, "cutForVictim", "(II)I"⟩
abbrev cX0_bestStored : ByteArray := prog_1_method_31_code
def yX0_bestStored : MethodName := ⟨RX0, "bestStored", "(I)I"⟩
abbrev cX0_isStored : ByteArray := prog_1_method_32_code
def yX0_isStored : MethodName := ⟨RX0, "isStored", "(I)Z"⟩
abbrev cX0_isBetter : ByteArray := prog_1_method_33_code
def yX0_isBetter : MethodName := ⟨RX0, "isBetter", "(II)Z"⟩
abbrev cX0_release : ByteArray := prog_1_method_34_code
def yX0_release : MethodName := ⟨RX0, "release", "(I)V"⟩
abbrev cX0_chunkBefore : ByteArray := prog_1_method_35_code
def yX0_chunkBefore : MethodName := ⟨RX0, "chunkBefore", "(I)I"⟩
abbrev cX0_shorten : ByteArray := prog_1_method_36_code
def yX0_shorten : MethodName := ⟨RX0, "shorten", "(II)V"⟩
abbrev cX0_lengthen : ByteArray := prog_1_method_37_code
def yX0_lengthen : MethodName := ⟨RX0, "lengthen", "(II)Z"⟩
abbrev cX0_move : ByteArray := prog_1_method_38_code
def yX0_move : MethodName := ⟨RX0, "move", "(II)I"⟩
abbrev cX0_grow : ByteArray := prog_1_method_39_code
def yX0_grow : MethodName := ⟨RX0, "grow", "(I)Z"⟩
abbrev cX0_shrinkTop : ByteArray := prog_1_method_40_code
def yX0_shrinkTop : MethodName := ⟨RX0, "shrinkTop", "(I)V"⟩
abbrev cX0_cut : ByteArray := prog_1_method_41_code
def yX0_cut : MethodName := ⟨RX0, "cut", "(III)I"⟩
abbrev cX0_lay : ByteArray := prog_1_method_42_code
def yX0_lay : MethodName := ⟨RX0, "lay", "(III)V"⟩
abbrev cX0_lift : ByteArray := prog_1_method_43_code
def yX0_lift : MethodName := ⟨RX0, "lift", "(I)I"⟩
def RX1 : String := "VictimHeapModel"
def TX1 : u_T := fun k => match k with
  | 0 => ("VictimHeapModel", "limit", "I", true)
  | 1 => ("VictimHeapModel", "end", "I", false)
  | 2 => ("VictimHeapModel", "unit", "[I", true)
  | 3 => ("VictimHeapModel", "chunks", "I", false)
  | 4 => ("VictimHeapModel", "first", "[I", true)
  | 5 => ("VictimHeapModel", "size", "[I", true)
  | 6 => ("VictimHeapModel", "used", "[Z", true)
  | 7 => ("VictimHeapModel", "came", "[I", true)
  | 8 => ("VictimHeapModel", "clock", "I", false)
  | _ => ("VictimHeapModel", "victim", "I", false)
def tyX1 : Nat → FieldType := fun k => match k with
  | 0 => .int
  | 1 => .int
  | 2 => .array .int
  | 3 => .int
  | 4 => .array .int
  | 5 => .array .int
  | 6 => .array .boolean
  | 7 => .array .int
  | 8 => .int
  | _ => .int
theorem nmX1 : ∀ a, a < 10 → ∀ b, b < 10 → a ≠ b → (TX1 a).2.1 ≠ (TX1 b).2.1 := by decide +kernel
theorem tyX1_ok : ∀ k, k < 10 → parseFieldDescriptor (TX1 k).2.2.1 = some (tyX1 k) := by decide +kernel
abbrev cX1_init : ByteArray := prog_3_method_1_code
def yX1_init : MethodName := ⟨RX1, "<init>", "(I)V"⟩
abbrev cX1_at : ByteArray := prog_3_method_2_code
def yX1_at : MethodName := ⟨RX1, "at", "(I)I"⟩
abbrev cX1_holder : ByteArray := prog_3_method_3_code
def yX1_holder : MethodName := ⟨RX1, "holder", "(I)I"⟩
abbrev cX1_stateOf : ByteArray := prog_3_method_4_code
def yX1_stateOf : MethodName := ⟨RX1, "stateOf", "(I)I"⟩
abbrev cX1_top : ByteArray := prog_3_method_5_code
def yX1_top : MethodName := ⟨RX1, "top", "()I"⟩
abbrev cX1_part : ByteArray := prog_3_method_6_code
def yX1_part : MethodName := ⟨RX1, "part", "(II)V"⟩
abbrev cX1_join : ByteArray := prog_3_method_7_code
def yX1_join : MethodName := ⟨RX1, "join", "(I)V"⟩
abbrev cX1_store : ByteArray := prog_3_method_8_code
def yX1_store : MethodName := ⟨RX1, "store", "(I)V"⟩
abbrev cX1_cut : ByteArray := prog_3_method_9_code
def yX1_cut : MethodName := ⟨RX1, "cut", "(II)Z"⟩
abbrev cX1_best : ByteArray := prog_3_method_10_code
def yX1_best : MethodName := ⟨RX1, "best", "(II)I"⟩
abbrev cX1_fromVictim : ByteArray := prog_3_method_11_code
def yX1_fromVictim : MethodName := ⟨RX1, "fromVictim", "(I)I"⟩
abbrev cX1_takeSmall : ByteArray := prog_3_method_12_code
def yX1_takeSmall : MethodName := ⟨RX1, "takeSmall", "(I)I"⟩
abbrev cX1_takeLarge : ByteArray := prog_3_method_13_code
def yX1_takeLarge : MethodName := ⟨RX1, "takeLarge", "(I)I"⟩
abbrev cX1_grow : ByteArray := prog_3_method_14_code
def yX1_grow : MethodName := ⟨RX1, "grow", "(I)Z"⟩
abbrev cX1_take : ByteArray := prog_3_method_15_code
def yX1_take : MethodName := ⟨RX1, "take", "(I)I"⟩
abbrev cX1_give : ByteArray := prog_3_method_16_code
def yX1_give : MethodName := ⟨RX1, "give", "(I)V"⟩
abbrev cX1_malloc : ByteArray := prog_3_method_17_code
def yX1_malloc : MethodName := ⟨RX1, "malloc", "(I)I"⟩
abbrev cX1_calloc : ByteArray := prog_3_method_18_code
def yX1_calloc : MethodName := ⟨RX1, "calloc", "(I)I"⟩
abbrev cX1_free : ByteArray := prog_3_method_19_code
def yX1_free : MethodName := ⟨RX1, "free", "(I)Z"⟩
abbrev cX1_shorten : ByteArray := prog_3_method_20_code
def yX1_shorten : MethodName := ⟨RX1, "shorten", "(II)V"⟩
abbrev cX1_lengthen : ByteArray := prog_3_method_21_code
def yX1_lengthen : MethodName := ⟨RX1, "lengthen", "(II)Z"⟩
abbrev cX1_moveTo : ByteArray := prog_3_method_22_code
def yX1_moveTo : MethodName := ⟨RX1, "moveTo", "(II)I"⟩
abbrev cX1_realloc : ByteArray := prog_3_method_23_code
def yX1_realloc : MethodName := ⟨RX1, "realloc", "(II)I"⟩
abbrev cX1_align : ByteArray := prog_3_method_24_code
def yX1_align : MethodName := ⟨RX1, "align", "(II)I"⟩
abbrev cX1_trim : ByteArray := prog_3_method_25_code
def yX1_trim : MethodName := ⟨RX1, "trim", "(I)I"⟩
abbrev cX1_usable : ByteArray := prog_3_method_26_code
def yX1_usable : MethodName := ⟨RX1, "usable", "(I)I"⟩
abbrev cX1_isData : ByteArray := prog_3_method_27_code
def yX1_isData : MethodName := ⟨RX1, "isData", "(II)Z"⟩
abbrev cX1_read : ByteArray := prog_3_method_28_code
def yX1_read : MethodName := ⟨RX1, "read", "(II)I"⟩
abbrev cX1_write : ByteArray := prog_3_method_29_code
def yX1_write : MethodName := ⟨RX1, "write", "(III)Z"⟩
abbrev cX1_size : ByteArray := prog_3_method_30_code
def yX1_size : MethodName := ⟨RX1, "size", "(I)I"⟩
abbrev cX1_state : ByteArray := prog_3_method_31_code
def yX1_state : MethodName := ⟨RX1, "state", "(I)I"⟩
abbrev cX1_count : ByteArray := prog_3_method_32_code
def yX1_count : MethodName := ⟨RX1, "count", "(I)I"⟩
abbrev cX1_end : ByteArray := prog_3_method_33_code
def yX1_end : MethodName := ⟨RX1, "end", "()I"⟩
abbrev cX1_total : ByteArray := prog_3_method_34_code
def yX1_total : MethodName := ⟨RX1, "total", "(I)I"⟩
def RJ : String := "java/util/Arrays"
abbrev cJ_fill : ByteArray := prog_6_method_103_code
def yJ_fill : MethodName := ⟨RJ, "fill", "([II)V"⟩
abbrev cJ_fillr : ByteArray := prog_6_method_104_code
def yJ_fillr : MethodName := ⟨RJ, "fill", "([IIII)V"⟩
abbrev cJ_rangeCheck : ByteArray := prog_6_method_30_code
def yJ_rangeCheck : MethodName := ⟨RJ, "rangeCheck", "(III)V"⟩
def RL : String := "VictimHeapLaw"
abbrev cL_cell : ByteArray := method_2_code
def yL_cell : MethodName := ⟨RL, "cell", "([II)I"⟩
abbrev cL_law : ByteArray := code
def yL_law : MethodName := ⟨RL, "law", "([I)Z"⟩
def lw_g : List Cond := lw_tbl.filter goodWord
theorem lw_g_in {w : Cond} (h : w ∈ lw_g) : w ∈ lw_tbl := (List.mem_filter.mp h).1
theorem gm (i : Nat) {w : Cond} (h : lw_tbl[i]? = some w) (hg : goodWord w = true) : w ∈ lw_g := List.mem_filter.mpr ⟨List.mem_of_getElem? h, hg⟩
theorem lw_good : ∀ w ∈ lw_g, (w.onTables && w.keeps) = true ∨ ∃ ty, w = .arrayClass ty := fun w h => good_of_word (List.mem_filter.mp h).2
theorem gw_all {ws : List Cond} (h : ∀ w ∈ ws, w ∈ lw_g) : GoodIn lw_g ws := fun w hw => ⟨h w hw, lw_good w (h w hw)⟩
theorem gw_v {own R : String} {idx maxL : Nat} {y : MethodName} {bytes : ByteArray} {rt : Option FieldType} (h1 : Cond.methodLink own idx y ∈ lw_g) (h2 : Cond.instanceMethod y ∈ lw_g) (h3 : Cond.selects R y y ∈ lw_g) (h4 : Cond.initialized R ∈ lw_g) (h5 : Cond.code y bytes maxL rt ∈ lw_g) : GoodIn lw_g (wsV own idx R y (.code y bytes maxL rt :: lw_g)) := by
  refine gw_all fun w hw => ?_
  unfold wsV at hw
  simp only [List.cons_append, List.nil_append, List.mem_cons] at hw
  rcases hw with rfl | rfl | rfl | rfl | rfl | hw
  · exact h1
  · exact h2
  · exact h3
  · exact h4
  · exact h5
  · exact hw
theorem gw_s {own : String} {idx maxL : Nat} {y : MethodName} {bytes : ByteArray} {rt : Option FieldType} (h1 : Cond.methodLink own idx y ∈ lw_g) (h2 : Cond.static y ∈ lw_g) (h4 : Cond.initialized own ∈ lw_g) (h5 : Cond.code y bytes maxL rt ∈ lw_g) : GoodIn lw_g (wsS own idx y (.code y bytes maxL rt :: lw_g)) := by
  refine gw_all fun w hw => ?_
  unfold wsS at hw
  simp only [List.cons_append, List.nil_append, List.mem_cons] at hw
  rcases hw with rfl | rfl | rfl | rfl | hw
  · exact h1
  · exact h2
  · exact h4
  · exact h5
  · exact hw
theorem gw_e {own : String} {idx maxL : Nat} {y : MethodName} {bytes : ByteArray} {rt : Option FieldType} (h1 : Cond.methodLink own idx y ∈ lw_g) (h2 : Cond.static y ∈ lw_g) (h4 : Cond.initialized y.cls ∈ lw_g) (h5 : Cond.code y bytes maxL rt ∈ lw_g) : GoodIn lw_g (va_wsS own idx y (.code y bytes maxL rt :: lw_g)) := by
  refine gw_all fun w hw => ?_
  unfold va_wsS at hw
  simp only [List.cons_append, List.nil_append, List.mem_cons] at hw
  rcases hw with rfl | rfl | rfl | rfl | hw
  · exact h1
  · exact h2
  · exact h4
  · exact h5
  · exact hw
abbrev vcl : List vw_C := [(RX0, TX0, 9), (RX1, TX1, 10)]
