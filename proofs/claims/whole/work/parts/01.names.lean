def RX0 : String := "MixedCells$Body"
def TX0 : u_T := fun k => match k with
  | 0 => ("MixedCells$Body", "x", "[I", true)
  | 1 => ("MixedCells$Body", "y", "[I", true)
  | 2 => ("MixedCells$Body", "weight", "[I", true)
  | _ => ("MixedCells$Body", "size", "I", false)
def tyX0 : Nat → FieldType := fun k => match k with
  | 0 => .array .int
  | 1 => .array .int
  | 2 => .array .int
  | _ => .int
abbrev wsX00 : List Cond := u_ws RX0 TX0 4
theorem nmX0 : ∀ a, a < 4 → ∀ b, b < 4 → a ≠ b → (TX0 a).2.1 ≠ (TX0 b).2.1 := by decide +kernel
theorem tyX0_ok : ∀ k, k < 4 → parseFieldDescriptor (TX0 k).2.2.1 = some (tyX0 k) := by decide +kernel
abbrev cX0_init : ByteArray := prog_2_method_1_code
def yX0_init : MethodName := ⟨RX0, "<init>", "()V"⟩
abbrev cX0_has : ByteArray := prog_2_method_2_code
def yX0_has : MethodName := ⟨RX0, "has", "(I)Z"⟩
abbrev cX0_all : ByteArray := prog_2_method_3_code
def yX0_all : MethodName := ⟨RX0, "all", "()I"⟩
abbrev cX0_find : ByteArray := prog_2_method_4_code
def yX0_find : MethodName := ⟨RX0, "find", "(II)I"⟩
abbrev cX0_append : ByteArray := prog_2_method_5_code
def yX0_append : MethodName := ⟨RX0, "append", "(III)I"⟩
abbrev cX0_remove : ByteArray := prog_2_method_6_code
def yX0_remove : MethodName := ⟨RX0, "remove", "(I)V"⟩
abbrev cX0_copyFrom : ByteArray := prog_2_method_7_code
def yX0_copyFrom : MethodName := ⟨RX0, "copyFrom", "(LMixedCells$Body;)V"⟩
abbrev cX0_lowest : ByteArray := prog_2_method_8_code
def yX0_lowest : MethodName := ⟨RX0, "lowest", "(III)I"⟩
def RX1 : String := "MixedCells$Cell"
def TX1 : u_T := fun k => match k with
  | 0 => ("MixedCells$Cell", "uUpper", "I", false)
  | 1 => ("MixedCells$Cell", "uLower", "I", false)
  | 2 => ("MixedCells$Cell", "vUpper", "I", false)
  | 3 => ("MixedCells$Cell", "vLower", "I", false)
  | 4 => ("MixedCells$Cell", "firstLow", "I", false)
  | _ => ("MixedCells$Cell", "secondLow", "I", false)
def tyX1 : Nat → FieldType := fun k => match k with
  | 0 => .int
  | 1 => .int
  | 2 => .int
  | 3 => .int
  | 4 => .int
  | _ => .int
abbrev wsX10 : List Cond := u_ws RX1 TX1 6
theorem nmX1 : ∀ a, a < 6 → ∀ b, b < 6 → a ≠ b → (TX1 a).2.1 ≠ (TX1 b).2.1 := by decide +kernel
theorem tyX1_ok : ∀ k, k < 6 → parseFieldDescriptor (TX1 k).2.2.1 = some (tyX1 k) := by decide +kernel
abbrev cX1_init : ByteArray := prog_3_method_1_code
def yX1_init : MethodName := ⟨RX1, "<init>", "()V"⟩
abbrev cX1_setSlope : ByteArray := prog_3_method_2_code
def yX1_setSlope : MethodName := ⟨RX1, "setSlope", "(III)V"⟩
abbrev cX1_compareSlope : ByteArray := prog_3_method_3_code
def yX1_compareSlope : MethodName := ⟨RX1, "compareSlope", "(LMixedCells$Cell;)I"⟩
def RX2 : String := "MixedCells$Cutting"
def TX2 : u_T := fun k => match k with
  | 0 => ("MixedCells$Cutting", "found", "[LMixedCells$Cell;", true)
  | 1 => ("MixedCells$Cutting", "size", "I", false)
  | 2 => ("MixedCells$Cutting", "dx", "[I", true)
  | 3 => ("MixedCells$Cutting", "dy", "[I", true)
  | 4 => ("MixedCells$Cutting", "dw", "[I", true)
  | 5 => ("MixedCells$Cutting", "ends", "[I", true)
  | _ => ("MixedCells$Cutting", "pairs", "I", false)
def tyX2 : Nat → FieldType := fun k => match k with
  | 0 => .array (.object "MixedCells$Cell")
  | 1 => .int
  | 2 => .array .int
  | 3 => .array .int
  | 4 => .array .int
  | 5 => .array .int
  | _ => .int
abbrev wsX20 : List Cond := u_ws RX2 TX2 7
theorem nmX2 : ∀ a, a < 7 → ∀ b, b < 7 → a ≠ b → (TX2 a).2.1 ≠ (TX2 b).2.1 := by decide +kernel
theorem tyX2_ok : ∀ k, k < 7 → parseFieldDescriptor (TX2 k).2.2.1 = some (tyX2 k) := by decide +kernel
abbrev cX2_init : ByteArray := prog_4_method_1_code
def yX2_init : MethodName := ⟨RX2, "<init>", "()V"⟩
abbrev cX2_get : ByteArray := prog_4_method_2_code
def yX2_get : MethodName := ⟨RX2, "get", "(I)LMixedCells$Cell;"⟩
abbrev cX2_cut : ByteArray := prog_4_method_3_code
def yX2_cut : MethodName := ⟨RX2, "cut", "(LMixedCells$Body;LMixedCells$Body;)V"⟩
abbrev cX2_addPairs : ByteArray := prog_4_method_4_code
def yX2_addPairs : MethodName := ⟨RX2, "addPairs", "(LMixedCells$Body;I)V"⟩
abbrev cX2_firstEnd : ByteArray := prog_4_method_5_code
def yX2_firstEnd : MethodName := ⟨RX2, "firstEnd", "(I)I"⟩
abbrev cX2_tryPairs : ByteArray := prog_4_method_6_code
def yX2_tryPairs : MethodName := ⟨RX2, "tryPairs", "(LMixedCells$Body;LMixedCells$Body;II)V"⟩
abbrev cX2_sortIn : ByteArray := prog_4_method_7_code
def yX2_sortIn : MethodName := ⟨RX2, "sortIn", "(LMixedCells$Cell;)V"⟩
def RX3 : String := "MixedCells$Region"
def TX3 : u_T := fun k => match k with
  | 0 => ("MixedCells$Region", "xs", "[I", true)
  | 1 => ("MixedCells$Region", "ys", "[I", true)
  | 2 => ("MixedCells$Region", "size", "I", false)
  | 3 => ("MixedCells$Region", "round", "[I", true)
  | _ => ("MixedCells$Region", "corners", "I", false)
def tyX3 : Nat → FieldType := fun k => match k with
  | 0 => .array .int
  | 1 => .array .int
  | 2 => .int
  | 3 => .array .int
  | _ => .int
abbrev wsX30 : List Cond := u_ws RX3 TX3 5
theorem nmX3 : ∀ a, a < 5 → ∀ b, b < 5 → a ≠ b → (TX3 a).2.1 ≠ (TX3 b).2.1 := by decide +kernel
theorem tyX3_ok : ∀ k, k < 5 → parseFieldDescriptor (TX3 k).2.2.1 = some (tyX3 k) := by decide +kernel
abbrev cX3_init : ByteArray := prog_5_method_1_code
def yX3_init : MethodName := ⟨RX3, "<init>", "()V"⟩
abbrev cX3_gather : ByteArray := prog_5_method_2_code
def yX3_gather : MethodName := ⟨RX3, "gather", "(LMixedCells$Body;I)LMixedCells$Region;"⟩
abbrev cX3_gatherSums : ByteArray := prog_5_method_3_code
def yX3_gatherSums : MethodName := ⟨RX3, "gatherSums", "(LMixedCells$Body;ILMixedCells$Body;I)LMixedCells$Region;"⟩
abbrev cX3_gatherFan : ByteArray := prog_5_method_4_code
def yX3_gatherFan : MethodName := ⟨RX3, "gatherFan", "(LMixedCells$Body;)LMixedCells$Region;"⟩
abbrev cX3_include : ByteArray := prog_5_method_5_code
def yX3_include : MethodName := ⟨RX3, "include", "(II)V"⟩
abbrev cX3_comesBehind : ByteArray := prog_5_method_6_code
def yX3_comesBehind : MethodName := ⟨RX3, "comesBehind", "(III)Z"⟩
abbrev cX3_findCorners : ByteArray := prog_5_method_7_code
def yX3_findCorners : MethodName := ⟨RX3, "findCorners", "()LMixedCells$Region;"⟩
abbrev cX3_turnTo : ByteArray := prog_5_method_8_code
def yX3_turnTo : MethodName := ⟨RX3, "turnTo", "(II)V"⟩
abbrev cX3_turnsLeft : ByteArray := prog_5_method_9_code
def yX3_turnsLeft : MethodName := ⟨RX3, "turnsLeft", "(III)Z"⟩
abbrev cX3_hasCorner : ByteArray := prog_5_method_10_code
def yX3_hasCorner : MethodName := ⟨RX3, "hasCorner", "(I)Z"⟩
abbrev cX3_cornerX : ByteArray := prog_5_method_11_code
def yX3_cornerX : MethodName := ⟨RX3, "cornerX", "(I)I"⟩
abbrev cX3_cornerY : ByteArray := prog_5_method_12_code
def yX3_cornerY : MethodName := ⟨RX3, "cornerY", "(I)I"⟩
abbrev cX3_next : ByteArray := prog_5_method_13_code
def yX3_next : MethodName := ⟨RX3, "next", "(I)I"⟩
abbrev cX3_area : ByteArray := prog_5_method_14_code
def yX3_area : MethodName := ⟨RX3, "area", "()I"⟩
abbrev cX3_span : ByteArray := prog_5_method_15_code
def yX3_span : MethodName := ⟨RX3, "span", "()I"⟩
abbrev cX3_stepsRound : ByteArray := prog_5_method_16_code
def yX3_stepsRound : MethodName := ⟨RX3, "stepsRound", "()I"⟩
abbrev cX3_wholePoints : ByteArray := prog_5_method_17_code
def yX3_wholePoints : MethodName := ⟨RX3, "wholePoints", "()I"⟩
abbrev cX3_rimPoints : ByteArray := prog_5_method_18_code
def yX3_rimPoints : MethodName := ⟨RX3, "rimPoints", "()I"⟩
def RX4 : String := "MixedCells"
def TX4 : u_T := fun k => match k with
  | 0 => ("MixedCells", "bodies", "[LMixedCells$Body;", true)
  | 1 => ("MixedCells", "kept", "[LMixedCells$Body;", true)
  | 2 => ("MixedCells", "keptImages", "I", false)
  | 3 => ("MixedCells", "region", "LMixedCells$Region;", true)
  | 4 => ("MixedCells", "cutting", "LMixedCells$Cutting;", true)
  | _ => ("MixedCells", "powers", "[[I", true)
def tyX4 : Nat → FieldType := fun k => match k with
  | 0 => .array (.object "MixedCells$Body")
  | 1 => .array (.object "MixedCells$Body")
  | 2 => .int
  | 3 => .object "MixedCells$Region"
  | 4 => .object "MixedCells$Cutting"
  | _ => .array (.array .int)
abbrev wsX40 : List Cond := u_ws RX4 TX4 6
theorem nmX4 : ∀ a, a < 6 → ∀ b, b < 6 → a ≠ b → (TX4 a).2.1 ≠ (TX4 b).2.1 := by decide +kernel
theorem tyX4_ok : ∀ k, k < 6 → parseFieldDescriptor (TX4 k).2.2.1 = some (tyX4 k) := by decide +kernel
abbrev cX4_init : ByteArray := prog_1_method_1_code
def yX4_init : MethodName := ⟨RX4, "<init>", "()V"⟩
abbrev cX4_put : ByteArray := prog_1_method_2_code
def yX4_put : MethodName := ⟨RX4, "put", "(IIII)I"⟩
abbrev cX4_take : ByteArray := prog_1_method_3_code
def yX4_take : MethodName := ⟨RX4, "take", "(II)I"⟩
abbrev cX4_clear : ByteArray := prog_1_method_4_code
def yX4_clear : MethodName := ⟨RX4, "clear", "(I)I"⟩
abbrev cX4_point : ByteArray := prog_1_method_5_code
def yX4_point : MethodName := ⟨RX4, "point", "(III)I"⟩
abbrev cX4_hull : ByteArray := prog_1_method_6_code
def yX4_hull : MethodName := ⟨RX4, "hull", "(II)I"⟩
abbrev cX4_corner : ByteArray := prog_1_method_7_code
def yX4_corner : MethodName := ⟨RX4, "corner", "(II)I"⟩
abbrev cX4_sum : ByteArray := prog_1_method_8_code
def yX4_sum : MethodName := ⟨RX4, "sum", "(III)I"⟩
abbrev cX4_sumCorner : ByteArray := prog_1_method_9_code
def yX4_sumCorner : MethodName := ⟨RX4, "sumCorner", "(IIII)I"⟩
abbrev cX4_cells : ByteArray := prog_1_method_10_code
def yX4_cells : MethodName := ⟨RX4, "cells", "(III)I"⟩
abbrev cX4_cell : ByteArray := prog_1_method_11_code
def yX4_cell : MethodName := ⟨RX4, "cell", "(IIII)I"⟩
abbrev cX4_slope : ByteArray := prog_1_method_12_code
def yX4_slope : MethodName := ⟨RX4, "slope", "(IIII)I"⟩
abbrev cX4_low : ByteArray := prog_1_method_13_code
def yX4_low : MethodName := ⟨RX4, "low", "(III)I"⟩
abbrev cX4_fan : ByteArray := prog_1_method_14_code
def yX4_fan : MethodName := ⟨RX4, "fan", "(II)I"⟩
abbrev cX4_roots : ByteArray := prog_1_method_15_code
def yX4_roots : MethodName := ⟨RX4, "roots", "(III)I"⟩
abbrev cX4_image : ByteArray := prog_1_method_16_code
def yX4_image : MethodName := ⟨RX4, "image", "(I)I"⟩
abbrev cX4_restore : ByteArray := prog_1_method_17_code
def yX4_restore : MethodName := ⟨RX4, "restore", "(I)I"⟩
abbrev cX4_count : ByteArray := prog_1_method_18_code
def yX4_count : MethodName := ⟨RX4, "count", "(I)I"⟩
abbrev cX4_bodyAt : ByteArray := prog_1_method_19_code
def yX4_bodyAt : MethodName := ⟨RX4, "bodyAt", "(I)LMixedCells$Body;"⟩
abbrev cX4_isWithin : ByteArray := prog_1_method_20_code
def yX4_isWithin : MethodName := ⟨RX4, "isWithin", "(III)Z"⟩
abbrev cX4_isKindAsked : ByteArray := prog_1_method_21_code
def yX4_isKindAsked : MethodName := ⟨RX4, "isKindAsked", "(I)Z"⟩
abbrev cX4_isSmallPrime : ByteArray := prog_1_method_22_code
def yX4_isSmallPrime : MethodName := ⟨RX4, "isSmallPrime", "(I)Z"⟩
abbrev cX4_pointsOfAll : ByteArray := prog_1_method_23_code
def yX4_pointsOfAll : MethodName := ⟨RX4, "pointsOfAll", "()I"⟩
abbrev cX4_filledBodies : ByteArray := prog_1_method_24_code
def yX4_filledBodies : MethodName := ⟨RX4, "filledBodies", "()I"⟩
abbrev cX4_mixedOf : ByteArray := prog_1_method_25_code
def yX4_mixedOf : MethodName := ⟨RX4, "mixedOf", "(LMixedCells$Body;ILMixedCells$Body;I)I"⟩
abbrev cX4_kindOf : ByteArray := prog_1_method_26_code
def yX4_kindOf : MethodName := ⟨RX4, "kindOf", "(LMixedCells$Cell;LMixedCells$Body;LMixedCells$Body;)I"⟩
abbrev cX4_shareOf : ByteArray := prog_1_method_27_code
def yX4_shareOf : MethodName := ⟨RX4, "shareOf", "(LMixedCells$Cell;LMixedCells$Body;LMixedCells$Body;I)I"⟩
abbrev cX4_fillPowers : ByteArray := prog_1_method_28_code
def yX4_fillPowers : MethodName := ⟨RX4, "fillPowers", "(I)V"⟩
abbrev cX4_isRoot : ByteArray := prog_1_method_29_code
def yX4_isRoot : MethodName := ⟨RX4, "isRoot", "(LMixedCells$Body;III)Z"⟩
abbrev cX4_commonDivisor : ByteArray := prog_1_method_30_code
def yX4_commonDivisor : MethodName := ⟨RX4, "commonDivisor", "(II)I"⟩
def RX5 : String := "MixedCellsModel"
def TX5 : u_T := fun k => match k with
  | 0 => ("MixedCellsModel", "state", "[I", true)
  | 1 => ("MixedCellsModel", "images", "[I", true)
  | 2 => ("MixedCellsModel", "isKept", "[Z", true)
  | 3 => ("MixedCellsModel", "xs", "[I", true)
  | 4 => ("MixedCellsModel", "ys", "[I", true)
  | 5 => ("MixedCellsModel", "points", "I", false)
  | 6 => ("MixedCellsModel", "corners", "[I", true)
  | 7 => ("MixedCellsModel", "cornerCount", "I", false)
  | 8 => ("MixedCellsModel", "us", "[I", true)
  | 9 => ("MixedCellsModel", "vs", "[I", true)
  | 10 => ("MixedCellsModel", "lows", "[I", true)
  | 11 => ("MixedCellsModel", "cells", "I", false)
  | 12 => ("MixedCellsModel", "firsts", "[I", true)
  | _ => ("MixedCellsModel", "seconds", "[I", true)
def tyX5 : Nat → FieldType := fun k => match k with
  | 0 => .array .int
  | 1 => .array .int
  | 2 => .array .boolean
  | 3 => .array .int
  | 4 => .array .int
  | 5 => .int
  | 6 => .array .int
  | 7 => .int
  | 8 => .array .int
  | 9 => .array .int
  | 10 => .array .int
  | 11 => .int
  | 12 => .array .int
  | _ => .array .int
abbrev wsX50 : List Cond := u_ws RX5 TX5 14
theorem nmX5 : ∀ a, a < 14 → ∀ b, b < 14 → a ≠ b → (TX5 a).2.1 ≠ (TX5 b).2.1 := by decide +kernel
theorem tyX5_ok : ∀ k, k < 14 → parseFieldDescriptor (TX5 k).2.2.1 = some (tyX5 k) := by decide +kernel
abbrev cX5_init : ByteArray := prog_7_method_1_code
def yX5_init : MethodName := ⟨RX5, "<init>", "()V"⟩
abbrev cX5_in : ByteArray := prog_7_method_2_code
def yX5_in : MethodName := ⟨RX5, "in", "(III)Z"⟩
abbrev cX5_isBody : ByteArray := prog_7_method_3_code
def yX5_isBody : MethodName := ⟨RX5, "isBody", "(I)Z"⟩
abbrev cX5_has : ByteArray := prog_7_method_4_code
def yX5_has : MethodName := ⟨RX5, "has", "(II)Z"⟩
abbrev cX5_many : ByteArray := prog_7_method_5_code
def yX5_many : MethodName := ⟨RX5, "many", "(I)I"⟩
abbrev cX5_at : ByteArray := prog_7_method_6_code
def yX5_at : MethodName := ⟨RX5, "at", "(III)I"⟩
abbrev cX5_of : ByteArray := prog_7_method_7_code
def yX5_of : MethodName := ⟨RX5, "of", "(III)I"⟩
abbrev cX5_put : ByteArray := prog_7_method_8_code
def yX5_put : MethodName := ⟨RX5, "put", "(IIII)I"⟩
abbrev cX5_take : ByteArray := prog_7_method_9_code
def yX5_take : MethodName := ⟨RX5, "take", "(II)I"⟩
abbrev cX5_clear : ByteArray := prog_7_method_10_code
def yX5_clear : MethodName := ⟨RX5, "clear", "(I)I"⟩
abbrev cX5_point : ByteArray := prog_7_method_11_code
def yX5_point : MethodName := ⟨RX5, "point", "(III)I"⟩
abbrev cX5_addPoint : ByteArray := prog_7_method_12_code
def yX5_addPoint : MethodName := ⟨RX5, "addPoint", "(II)V"⟩
abbrev cX5_turn : ByteArray := prog_7_method_13_code
def yX5_turn : MethodName := ⟨RX5, "turn", "(III)I"⟩
abbrev cX5_far : ByteArray := prog_7_method_14_code
def yX5_far : MethodName := ⟨RX5, "far", "(II)I"⟩
abbrev cX5_nextCorner : ByteArray := prog_7_method_15_code
def yX5_nextCorner : MethodName := ⟨RX5, "nextCorner", "(I)I"⟩
abbrev cX5_layCorners : ByteArray := prog_7_method_16_code
def yX5_layCorners : MethodName := ⟨RX5, "layCorners", "()V"⟩
abbrev cX5_area : ByteArray := prog_7_method_17_code
def yX5_area : MethodName := ⟨RX5, "area", "()I"⟩
abbrev cX5_span : ByteArray := prog_7_method_18_code
def yX5_span : MethodName := ⟨RX5, "span", "()I"⟩
abbrev cX5_layBody : ByteArray := prog_7_method_19_code
def yX5_layBody : MethodName := ⟨RX5, "layBody", "(II)V"⟩
abbrev cX5_laySums : ByteArray := prog_7_method_20_code
def yX5_laySums : MethodName := ⟨RX5, "laySums", "(IIII)V"⟩
abbrev cX5_lies : ByteArray := prog_7_method_21_code
def yX5_lies : MethodName := ⟨RX5, "lies", "(II)I"⟩
abbrev cX5_lattice : ByteArray := prog_7_method_22_code
def yX5_lattice : MethodName := ⟨RX5, "lattice", "(I)I"⟩
abbrev cX5_hull : ByteArray := prog_7_method_23_code
def yX5_hull : MethodName := ⟨RX5, "hull", "(II)I"⟩
abbrev cX5_corner : ByteArray := prog_7_method_24_code
def yX5_corner : MethodName := ⟨RX5, "corner", "(II)I"⟩
abbrev cX5_areaOf : ByteArray := prog_7_method_25_code
def yX5_areaOf : MethodName := ⟨RX5, "areaOf", "(II)I"⟩
abbrev cX5_areaOfSums : ByteArray := prog_7_method_26_code
def yX5_areaOfSums : MethodName := ⟨RX5, "areaOfSums", "(IIII)I"⟩
abbrev cX5_sum : ByteArray := prog_7_method_27_code
def yX5_sum : MethodName := ⟨RX5, "sum", "(III)I"⟩
abbrev cX5_sumCorner : ByteArray := prog_7_method_28_code
def yX5_sumCorner : MethodName := ⟨RX5, "sumCorner", "(IIII)I"⟩
abbrev cX5_lowBy : ByteArray := prog_7_method_29_code
def yX5_lowBy : MethodName := ⟨RX5, "lowBy", "(IIII)I"⟩
abbrev cX5_compare : ByteArray := prog_7_method_30_code
def yX5_compare : MethodName := ⟨RX5, "compare", "(IIII)I"⟩
abbrev cX5_addCell : ByteArray := prog_7_method_31_code
def yX5_addCell : MethodName := ⟨RX5, "addCell", "(III)V"⟩
abbrev cX5_tryThree : ByteArray := prog_7_method_32_code
def yX5_tryThree : MethodName := ⟨RX5, "tryThree", "(IIIII)V"⟩
abbrev cX5_sumOf : ByteArray := prog_7_method_33_code
def yX5_sumOf : MethodName := ⟨RX5, "sumOf", "(IIII)I"⟩
abbrev cX5_isLow : ByteArray := prog_7_method_34_code
def yX5_isLow : MethodName := ⟨RX5, "isLow", "(III)Z"⟩
abbrev cX5_layCells : ByteArray := prog_7_method_35_code
def yX5_layCells : MethodName := ⟨RX5, "layCells", "(II)V"⟩
abbrev cX5_lowOf : ByteArray := prog_7_method_36_code
def yX5_lowOf : MethodName := ⟨RX5, "lowOf", "(II)I"⟩
abbrev cX5_spanOf : ByteArray := prog_7_method_37_code
def yX5_spanOf : MethodName := ⟨RX5, "spanOf", "(II)I"⟩
abbrev cX5_kindOf : ByteArray := prog_7_method_38_code
def yX5_kindOf : MethodName := ⟨RX5, "kindOf", "(III)I"⟩
abbrev cX5_cellArea : ByteArray := prog_7_method_39_code
def yX5_cellArea : MethodName := ⟨RX5, "cellArea", "(III)I"⟩
abbrev cX5_cellMixed : ByteArray := prog_7_method_40_code
def yX5_cellMixed : MethodName := ⟨RX5, "cellMixed", "(III)I"⟩
abbrev cX5_isKind : ByteArray := prog_7_method_41_code
def yX5_isKind : MethodName := ⟨RX5, "isKind", "(I)Z"⟩
abbrev cX5_cells : ByteArray := prog_7_method_42_code
def yX5_cells : MethodName := ⟨RX5, "cells", "(III)I"⟩
abbrev cX5_cell : ByteArray := prog_7_method_43_code
def yX5_cell : MethodName := ⟨RX5, "cell", "(IIII)I"⟩
abbrev cX5_common : ByteArray := prog_7_method_44_code
def yX5_common : MethodName := ⟨RX5, "common", "(II)I"⟩
abbrev cX5_slope : ByteArray := prog_7_method_45_code
def yX5_slope : MethodName := ⟨RX5, "slope", "(IIII)I"⟩
abbrev cX5_low : ByteArray := prog_7_method_46_code
def yX5_low : MethodName := ⟨RX5, "low", "(III)I"⟩
abbrev cX5_fan : ByteArray := prog_7_method_47_code
def yX5_fan : MethodName := ⟨RX5, "fan", "(II)I"⟩
abbrev cX5_power : ByteArray := prog_7_method_48_code
def yX5_power : MethodName := ⟨RX5, "power", "(III)I"⟩
abbrev cX5_holds : ByteArray := prog_7_method_49_code
def yX5_holds : MethodName := ⟨RX5, "holds", "(IIII)Z"⟩
abbrev cX5_roots : ByteArray := prog_7_method_50_code
def yX5_roots : MethodName := ⟨RX5, "roots", "(III)I"⟩
abbrev cX5_image : ByteArray := prog_7_method_51_code
def yX5_image : MethodName := ⟨RX5, "image", "(I)I"⟩
abbrev cX5_restore : ByteArray := prog_7_method_52_code
def yX5_restore : MethodName := ⟨RX5, "restore", "(I)I"⟩
abbrev cX5_count : ByteArray := prog_7_method_53_code
def yX5_count : MethodName := ⟨RX5, "count", "(I)I"⟩
def RJ6 : String := "java/lang/Integer"
def TJ6 : u_T := fun k => match k with
  | _ => ("", "", "", false)
def tyJ6 : Nat → FieldType := fun k => match k with
  | _ => .int
abbrev wsJ60 : List Cond := u_ws RJ6 TJ6 0
theorem nmJ6 : ∀ a, a < 0 → ∀ b, b < 0 → a ≠ b → (TJ6 a).2.1 ≠ (TJ6 b).2.1 := by decide +kernel
theorem tyJ6_ok : ∀ k, k < 0 → parseFieldDescriptor (TJ6 k).2.2.1 = some (tyJ6 k) := by decide +kernel
abbrev cJ6_compare_7cf53 : ByteArray := prog_8_method_40_code
def yJ6_compare_7cf53 : MethodName := ⟨RJ6, "compare", "(II)I"⟩
abbrev cJ6_numberOfTrailingZeros_0f7a4 : ByteArray := prog_8_method_48_code
def yJ6_numberOfTrailingZeros_0f7a4 : MethodName := ⟨RJ6, "numberOfTrailingZeros", "(I)I"⟩
def RJ9 : String := "java/lang/Math"
def TJ9 : u_T := fun k => match k with
  | _ => ("", "", "", false)
def tyJ9 : Nat → FieldType := fun k => match k with
  | _ => .int
abbrev wsJ90 : List Cond := u_ws RJ9 TJ9 0
theorem nmJ9 : ∀ a, a < 0 → ∀ b, b < 0 → a ≠ b → (TJ9 a).2.1 ≠ (TJ9 b).2.1 := by decide +kernel
theorem tyJ9_ok : ∀ k, k < 0 → parseFieldDescriptor (TJ9 k).2.2.1 = some (tyJ9 k) := by decide +kernel
abbrev cJ9_abs_0f7a4 : ByteArray := prog_9_method_59_code
def yJ9_abs_0f7a4 : MethodName := ⟨RJ9, "abs", "(I)I"⟩
abbrev cJ9_max_7cf53 : ByteArray := prog_9_method_65_code
def yJ9_max_7cf53 : MethodName := ⟨RJ9, "max", "(II)I"⟩
abbrev cJ9_min_7cf53 : ByteArray := prog_9_method_69_code
def yJ9_min_7cf53 : MethodName := ⟨RJ9, "min", "(II)I"⟩
def RL : String := "MixedCellsLaw"
abbrev cL_law : ByteArray := code
def yL_law : MethodName := ⟨RL, "law", "([I)Z"⟩
theorem inX0 : ∀ w ∈ wsX00, w ∈ lw_tbl := fun w h => by
  have e : wsX00 = ([127, 129, 131, 133] : List Nat).filterMap (fun i => tables_1[i]?) := by decide +kernel
  rw [e] at h
  obtain ⟨i, -, hi⟩ := List.mem_filterMap.mp h
  exact List.mem_append_right _ (List.mem_of_getElem? hi)
theorem inX1 : ∀ w ∈ wsX10, w ∈ lw_tbl := fun w h => by
  have e : wsX10 = ([69, 71, 73, 75, 77, 79] : List Nat).filterMap (fun i => tables_1[i]?) := by decide +kernel
  rw [e] at h
  obtain ⟨i, -, hi⟩ := List.mem_filterMap.mp h
  exact List.mem_append_right _ (List.mem_of_getElem? hi)
theorem inX2 : ∀ w ∈ wsX20, w ∈ lw_tbl := fun w h => by
  have e : wsX20 = ([90, 92, 94, 96, 98, 100, 102] : List Nat).filterMap (fun i => tables_1[i]?) := by decide +kernel
  rw [e] at h
  obtain ⟨i, -, hi⟩ := List.mem_filterMap.mp h
  exact List.mem_append_right _ (List.mem_of_getElem? hi)
theorem inX3 : ∀ w ∈ wsX30, w ∈ lw_tbl := fun w h => by
  have e : wsX30 = ([32, 34, 36, 38, 40] : List Nat).filterMap (fun i => tables_1[i]?) := by decide +kernel
  rw [e] at h
  obtain ⟨i, -, hi⟩ := List.mem_filterMap.mp h
  exact List.mem_append_right _ (List.mem_of_getElem? hi)
theorem inX4 : ∀ w ∈ wsX40, w ∈ lw_tbl := fun w h => by
  have e : wsX40 = ([142, 144, 146, 148, 150, 152] : List Nat).filterMap (fun i => tables_1[i]?) := by decide +kernel
  rw [e] at h
  obtain ⟨i, -, hi⟩ := List.mem_filterMap.mp h
  exact List.mem_append_right _ (List.mem_of_getElem? hi)
theorem inX5 : ∀ w ∈ wsX50, w ∈ lw_tbl := fun w h => by
  have e : wsX50 = ([442, 444, 446, 448, 450, 452, 454, 456, 458, 460, 462, 464, 466, 468] : List Nat).filterMap (fun i => tables_1[i]?) := by decide +kernel
  rw [e] at h
  obtain ⟨i, -, hi⟩ := List.mem_filterMap.mp h
  exact List.mem_append_right _ (List.mem_of_getElem? hi)
abbrev vwCl : List vw_C := [(RX0, TX0, 4), (RX1, TX1, 6), (RX2, TX2, 7), (RX3, TX3, 5), (RX4, TX4, 6), (RX5, TX5, 14)]
