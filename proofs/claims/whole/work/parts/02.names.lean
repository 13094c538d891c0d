/-! ===== BEGIN printed: names, fields, word lists, decode rows ===== -/
def RX0 : String := "CoverWays$Rows"
def TX0 : u_T := fun k => match k with
  | 0 => ("CoverWays$Rows", "behind", "[I", true)
  | 1 => ("CoverWays$Rows", "aheadOf", "[I", true)
  | _ => ("CoverWays$Rows", "tried", "I", false)
def tyX0 : Nat → FieldType := fun k => match k with
  | 0 => .array .int
  | 1 => .array .int
  | _ => .int
abbrev wsX00 : List Cond := u_ws RX0 TX0 3
theorem nmX0 : ∀ a, a < 3 → ∀ b, b < 3 → a ≠ b → (TX0 a).2.1 ≠ (TX0 b).2.1 := by decide +kernel
theorem tyX0_ok : ∀ k, k < 3 → parseFieldDescriptor (TX0 k).2.2.1 = some (tyX0 k) := by decide +kernel
abbrev cX0_init : ByteArray := prog_2_method_1_code
def yX0_init : MethodName := ⟨RX0, "<init>", "()V"⟩
abbrev cX0_findBehind : ByteArray := prog_2_method_2_code
def yX0_findBehind : MethodName := ⟨RX0, "findBehind", "(LCoverWays$State;)V"⟩
abbrev cX0_countByPairing : ByteArray := prog_2_method_3_code
def yX0_countByPairing : MethodName := ⟨RX0, "countByPairing", "()I"⟩
abbrev cX0_findPartner : ByteArray := prog_2_method_4_code
def yX0_findPartner : MethodName := ⟨RX0, "findPartner", "(LCoverWays$Rows;II)Z"⟩
abbrev cX0_countBySets : ByteArray := prog_2_method_5_code
def yX0_countBySets : MethodName := ⟨RX0, "countBySets", "()I"⟩
abbrev cX0_hasNoneBehind : ByteArray := prog_2_method_6_code
def yX0_hasNoneBehind : MethodName := ⟨RX0, "hasNoneBehind", "(I)Z"⟩
def RX1 : String := "CoverWays$State"
def TX1 : u_T := fun k => match k with
  | 0 => ("CoverWays$State", "covers", "[I", true)
  | 1 => ("CoverWays$State", "marks", "[I", true)
  | 2 => ("CoverWays$State", "joins", "[I", true)
  | 3 => ("CoverWays$State", "bars", "[I", true)
  | 4 => ("CoverWays$State", "rests", "[I", true)
  | 5 => ("CoverWays$State", "notedWeights", "[I", true)
  | 6 => ("CoverWays$State", "notedMasks", "[I", true)
  | 7 => ("CoverWays$State", "notedWays", "I", false)
  | 8 => ("CoverWays$State", "steps", "I", false)
  | _ => ("CoverWays$State", "refusals", "I", false)
def tyX1 : Nat → FieldType := fun k => match k with
  | 0 => .array .int
  | 1 => .array .int
  | 2 => .array .int
  | 3 => .array .int
  | 4 => .array .int
  | 5 => .array .int
  | 6 => .array .int
  | 7 => .int
  | 8 => .int
  | _ => .int
abbrev wsX10 : List Cond := u_ws RX1 TX1 10
theorem nmX1 : ∀ a, a < 10 → ∀ b, b < 10 → a ≠ b → (TX1 a).2.1 ≠ (TX1 b).2.1 := by decide +kernel
theorem tyX1_ok : ∀ k, k < 10 → parseFieldDescriptor (TX1 k).2.2.1 = some (tyX1 k) := by decide +kernel
abbrev cX1_init : ByteArray := prog_3_method_1_code
def yX1_init : MethodName := ⟨RX1, "<init>", "()V"⟩
abbrev cX1_clearGraph : ByteArray := prog_3_method_2_code
def yX1_clearGraph : MethodName := ⟨RX1, "clearGraph", "()V"⟩
abbrev cX1_copyGraph : ByteArray := prog_3_method_3_code
def yX1_copyGraph : MethodName := ⟨RX1, "copyGraph", "(LCoverWays$State;)V"⟩
abbrev cX1_copySplitting : ByteArray := prog_3_method_4_code
def yX1_copySplitting : MethodName := ⟨RX1, "copySplitting", "(LCoverWays$State;)V"⟩
abbrev cX1_beginAnew : ByteArray := prog_3_method_5_code
def yX1_beginAnew : MethodName := ⟨RX1, "beginAnew", "()V"⟩
abbrev cX1_countJoins : ByteArray := prog_3_method_6_code
def yX1_countJoins : MethodName := ⟨RX1, "countJoins", "()I"⟩
abbrev cX1_countJoinsTo : ByteArray := prog_3_method_7_code
def yX1_countJoinsTo : MethodName := ⟨RX1, "countJoinsTo", "(I)I"⟩
abbrev cX1_weightOf : ByteArray := prog_3_method_8_code
def yX1_weightOf : MethodName := ⟨RX1, "weightOf", "(I)I"⟩
abbrev cX1_isOpen : ByteArray := prog_3_method_9_code
def yX1_isOpen : MethodName := ⟨RX1, "isOpen", "(I)Z"⟩
abbrev cX1_takeWay : ByteArray := prog_3_method_10_code
def yX1_takeWay : MethodName := ⟨RX1, "takeWay", "(II)V"⟩
def RX2 : String := "CoverWays$Text"
def TX2 : u_T := fun k => match k with
  | 0 => ("CoverWays$Text", "codes", "[I", true)
  | 1 => ("CoverWays$Text", "length", "I", false)
  | 2 => ("CoverWays$Text", "graph", "LCoverWays$State;", true)
  | 3 => ("CoverWays$Text", "place", "I", false)
  | 4 => ("CoverWays$Text", "kind", "I", false)
  | _ => ("CoverWays$Text", "first", "I", false)
def tyX2 : Nat → FieldType := fun k => match k with
  | 0 => .array .int
  | 1 => .int
  | 2 => .object "CoverWays$State"
  | 3 => .int
  | 4 => .int
  | _ => .int
abbrev wsX20 : List Cond := u_ws RX2 TX2 6
theorem nmX2 : ∀ a, a < 6 → ∀ b, b < 6 → a ≠ b → (TX2 a).2.1 ≠ (TX2 b).2.1 := by decide +kernel
theorem tyX2_ok : ∀ k, k < 6 → parseFieldDescriptor (TX2 k).2.2.1 = some (tyX2 k) := by decide +kernel
abbrev cX2_init : ByteArray := prog_4_method_1_code
def yX2_init : MethodName := ⟨RX2, "<init>", "()V"⟩
abbrev cX2_read : ByteArray := prog_4_method_2_code
def yX2_read : MethodName := ⟨RX2, "read", "()I"⟩
abbrev cX2_isWhole : ByteArray := prog_4_method_3_code
def yX2_isWhole : MethodName := ⟨RX2, "isWhole", "()Z"⟩
abbrev cX2_takeCode : ByteArray := prog_4_method_4_code
def yX2_takeCode : MethodName := ⟨RX2, "takeCode", "(I)Z"⟩
abbrev cX2_takeFirst : ByteArray := prog_4_method_5_code
def yX2_takeFirst : MethodName := ⟨RX2, "takeFirst", "(I)Z"⟩
abbrev cX2_takeSecond : ByteArray := prog_4_method_6_code
def yX2_takeSecond : MethodName := ⟨RX2, "takeSecond", "(I)Z"⟩
abbrev cX2_canGrow : ByteArray := prog_4_method_7_code
def yX2_canGrow : MethodName := ⟨RX2, "canGrow", "()Z"⟩
abbrev cX2_takeDigit : ByteArray := prog_4_method_8_code
def yX2_takeDigit : MethodName := ⟨RX2, "takeDigit", "(I)Z"⟩
abbrev cX2_takeSeparator : ByteArray := prog_4_method_9_code
def yX2_takeSeparator : MethodName := ⟨RX2, "takeSeparator", "(I)Z"⟩
def RX3 : String := "CoverWays$Ways"
def TX3 : u_T := fun k => match k with
  | 0 => ("CoverWays$Ways", "all", "[I", true)
  | 1 => ("CoverWays$Ways", "open", "[I", true)
  | 2 => ("CoverWays$Ways", "allWays", "I", false)
  | 3 => ("CoverWays$Ways", "openWays", "I", false)
  | 4 => ("CoverWays$Ways", "listed", "LCoverWays$State;", true)
  | _ => ("CoverWays$Ways", "waysFrom", "[I", true)
def tyX3 : Nat → FieldType := fun k => match k with
  | 0 => .array .int
  | 1 => .array .int
  | 2 => .int
  | 3 => .int
  | 4 => .object "CoverWays$State"
  | _ => .array .int
abbrev wsX30 : List Cond := u_ws RX3 TX3 6
theorem nmX3 : ∀ a, a < 6 → ∀ b, b < 6 → a ≠ b → (TX3 a).2.1 ≠ (TX3 b).2.1 := by decide +kernel
theorem tyX3_ok : ∀ k, k < 6 → parseFieldDescriptor (TX3 k).2.2.1 = some (tyX3 k) := by decide +kernel
abbrev cX3_init : ByteArray := prog_5_method_1_code
def yX3_init : MethodName := ⟨RX3, "<init>", "()V"⟩
abbrev cX3_list : ByteArray := prog_5_method_2_code
def yX3_list : MethodName := ⟨RX3, "list", "(LCoverWays$State;)V"⟩
abbrev cX3_isListed : ByteArray := prog_5_method_3_code
def yX3_isListed : MethodName := ⟨RX3, "isListed", "(LCoverWays$State;)Z"⟩
abbrev cX3_walk : ByteArray := prog_5_method_4_code
def yX3_walk : MethodName := ⟨RX3, "walk", "(LCoverWays$Ways;III)V"⟩
abbrev cX3_pickOpen : ByteArray := prog_5_method_5_code
def yX3_pickOpen : MethodName := ⟨RX3, "pickOpen", "()V"⟩
abbrev cX3_addUp : ByteArray := prog_5_method_6_code
def yX3_addUp : MethodName := ⟨RX3, "addUp", "(LCoverWays$State;)I"⟩
def RX4 : String := "CoverWays"
def TX4 : u_T := fun k => match k with
  | 0 => ("CoverWays", "now", "LCoverWays$State;", true)
  | 1 => ("CoverWays", "trial", "LCoverWays$State;", true)
  | 2 => ("CoverWays", "saved", "[LCoverWays$State;", true)
  | 3 => ("CoverWays", "savedStates", "I", false)
  | 4 => ("CoverWays", "snapshots", "[LCoverWays$State;", true)
  | 5 => ("CoverWays", "isKept", "[Z", true)
  | 6 => ("CoverWays", "text", "LCoverWays$Text;", true)
  | 7 => ("CoverWays", "ways", "LCoverWays$Ways;", true)
  | _ => ("CoverWays", "rows", "LCoverWays$Rows;", true)
def tyX4 : Nat → FieldType := fun k => match k with
  | 0 => .object "CoverWays$State"
  | 1 => .object "CoverWays$State"
  | 2 => .array (.object "CoverWays$State")
  | 3 => .int
  | 4 => .array (.object "CoverWays$State")
  | 5 => .array .boolean
  | 6 => .object "CoverWays$Text"
  | 7 => .object "CoverWays$Ways"
  | _ => .object "CoverWays$Rows"
abbrev wsX40 : List Cond := u_ws RX4 TX4 9
theorem nmX4 : ∀ a, a < 9 → ∀ b, b < 9 → a ≠ b → (TX4 a).2.1 ≠ (TX4 b).2.1 := by decide +kernel
theorem tyX4_ok : ∀ k, k < 9 → parseFieldDescriptor (TX4 k).2.2.1 = some (tyX4 k) := by decide +kernel
abbrev cX4_init : ByteArray := prog_1_method_1_code
def yX4_init : MethodName := ⟨RX4, "<init>", "()V"⟩
abbrev cX4_cover : ByteArray := prog_1_method_2_code
def yX4_cover : MethodName := ⟨RX4, "cover", "(II)I"⟩
abbrev cX4_join : ByteArray := prog_1_method_3_code
def yX4_join : MethodName := ⟨RX4, "join", "(II)I"⟩
abbrev cX4_mark : ByteArray := prog_1_method_4_code
def yX4_mark : MethodName := ⟨RX4, "mark", "(II)I"⟩
abbrev cX4_bar : ByteArray := prog_1_method_5_code
def yX4_bar : MethodName := ⟨RX4, "bar", "(II)I"⟩
abbrev cX4_step : ByteArray := prog_1_method_6_code
def yX4_step : MethodName := ⟨RX4, "step", "()I"⟩
abbrev cX4_split : ByteArray := prog_1_method_7_code
def yX4_split : MethodName := ⟨RX4, "split", "()I"⟩
abbrev cX4_begin : ByteArray := prog_1_method_8_code
def yX4_begin : MethodName := ⟨RX4, "begin", "()I"⟩
abbrev cX4_append : ByteArray := prog_1_method_9_code
def yX4_append : MethodName := ⟨RX4, "append", "(I)I"⟩
abbrev cX4_clearBuffer : ByteArray := prog_1_method_10_code
def yX4_clearBuffer : MethodName := ⟨RX4, "clearBuffer", "()I"⟩
abbrev cX4_firstError : ByteArray := prog_1_method_11_code
def yX4_firstError : MethodName := ⟨RX4, "firstError", "()I"⟩
abbrev cX4_load : ByteArray := prog_1_method_12_code
def yX4_load : MethodName := ⟨RX4, "load", "()I"⟩
abbrev cX4_keep : ByteArray := prog_1_method_13_code
def yX4_keep : MethodName := ⟨RX4, "keep", "(I)I"⟩
abbrev cX4_goBack : ByteArray := prog_1_method_14_code
def yX4_goBack : MethodName := ⟨RX4, "goBack", "(I)I"⟩
abbrev cX4_undo : ByteArray := prog_1_method_15_code
def yX4_undo : MethodName := ⟨RX4, "undo", "()I"⟩
abbrev cX4_pieceOf : ByteArray := prog_1_method_16_code
def yX4_pieceOf : MethodName := ⟨RX4, "pieceOf", "(II)I"⟩
abbrev cX4_isJoined : ByteArray := prog_1_method_17_code
def yX4_isJoined : MethodName := ⟨RX4, "isJoined", "(II)I"⟩
abbrev cX4_noted : ByteArray := prog_1_method_18_code
def yX4_noted : MethodName := ⟨RX4, "noted", "(II)I"⟩
abbrev cX4_count : ByteArray := prog_1_method_19_code
def yX4_count : MethodName := ⟨RX4, "count", "(I)I"⟩
abbrev cX4_heaviest : ByteArray := prog_1_method_20_code
def yX4_heaviest : MethodName := ⟨RX4, "heaviest", "(I)I"⟩
abbrev cX4_openWay : ByteArray := prog_1_method_21_code
def yX4_openWay : MethodName := ⟨RX4, "openWay", "(I)I"⟩
abbrev cX4_ifSplit : ByteArray := prog_1_method_22_code
def yX4_ifSplit : MethodName := ⟨RX4, "ifSplit", "()I"⟩
abbrev cX4_mainPiece : ByteArray := prog_1_method_23_code
def yX4_mainPiece : MethodName := ⟨RX4, "mainPiece", "()I"⟩
abbrev cX4_explained : ByteArray := prog_1_method_24_code
def yX4_explained : MethodName := ⟨RX4, "explained", "()D"⟩
abbrev cX4_digest : ByteArray := prog_1_method_25_code
def yX4_digest : MethodName := ⟨RX4, "digest", "()J"⟩
abbrev cX4_mixPiece : ByteArray := prog_1_method_26_code
def yX4_mixPiece : MethodName := ⟨RX4, "mixPiece", "(JI)J"⟩
abbrev cX4_mixBuffer : ByteArray := prog_1_method_27_code
def yX4_mixBuffer : MethodName := ⟨RX4, "mixBuffer", "(J)J"⟩
abbrev cX4_mix : ByteArray := prog_1_method_28_code
def yX4_mix : MethodName := ⟨RX4, "mix", "(JJ)J"⟩
abbrev cX4_bitsOf : ByteArray := prog_1_method_29_code
def yX4_bitsOf : MethodName := ⟨RX4, "bitsOf", "(D)J"⟩
abbrev cX4_isPiece : ByteArray := prog_1_method_30_code
def yX4_isPiece : MethodName := ⟨RX4, "isPiece", "(I)Z"⟩
abbrev cX4_isSlot : ByteArray := prog_1_method_31_code
def yX4_isSlot : MethodName := ⟨RX4, "isSlot", "(I)Z"⟩
abbrev cX4_bit : ByteArray := prog_1_method_32_code
def yX4_bit : MethodName := ⟨RX4, "bit", "(II)I"⟩
abbrev cX4_sum : ByteArray := prog_1_method_33_code
def yX4_sum : MethodName := ⟨RX4, "sum", "([I)I"⟩
abbrev cX4_countWith : ByteArray := prog_1_method_34_code
def yX4_countWith : MethodName := ⟨RX4, "countWith", "([III)I"⟩
abbrev cX4_saveState : ByteArray := prog_1_method_35_code
def yX4_saveState : MethodName := ⟨RX4, "saveState", "()V"⟩
abbrev cX4_dropOldest : ByteArray := prog_1_method_36_code
def yX4_dropOldest : MethodName := ⟨RX4, "dropOldest", "()V"⟩
abbrev cX4_copyState : ByteArray := prog_1_method_37_code
def yX4_copyState : MethodName := ⟨RX4, "copyState", "(LCoverWays$State;LCoverWays$State;)V"⟩
abbrev cX4_findHeaviest : ByteArray := prog_1_method_38_code
def yX4_findHeaviest : MethodName := ⟨RX4, "findHeaviest", "(LCoverWays$State;)I"⟩
abbrev cX4_takeHeaviest : ByteArray := prog_1_method_39_code
def yX4_takeHeaviest : MethodName := ⟨RX4, "takeHeaviest", "(LCoverWays$State;)I"⟩
abbrev cX4_takeAll : ByteArray := prog_1_method_40_code
def yX4_takeAll : MethodName := ⟨RX4, "takeAll", "(LCoverWays$State;)I"⟩
def RX5 : String := "CoverWaysModel"
def TX5 : u_T := fun k => match k with
  | 0 => ("CoverWaysModel", "thrown", "I", false)
  | 1 => ("CoverWaysModel", "s", "[I", true)
  | 2 => ("CoverWaysModel", "aside", "[I", true)
  | 3 => ("CoverWaysModel", "slots", "[I", true)
  | 4 => ("CoverWaysModel", "isKept", "[Z", true)
  | 5 => ("CoverWaysModel", "saved", "[I", true)
  | 6 => ("CoverWaysModel", "savedMany", "I", false)
  | 7 => ("CoverWaysModel", "text", "[I", true)
  | 8 => ("CoverWaysModel", "length", "I", false)
  | _ => ("CoverWaysModel", "digested", "J", false)
def tyX5 : Nat → FieldType := fun k => match k with
  | 0 => .int
  | 1 => .array .int
  | 2 => .array .int
  | 3 => .array .int
  | 4 => .array .boolean
  | 5 => .array .int
  | 6 => .int
  | 7 => .array .int
  | 8 => .int
  | _ => .long
abbrev wsX50 : List Cond := u_ws RX5 TX5 10
theorem nmX5 : ∀ a, a < 10 → ∀ b, b < 10 → a ≠ b → (TX5 a).2.1 ≠ (TX5 b).2.1 := by decide +kernel
theorem tyX5_ok : ∀ k, k < 10 → parseFieldDescriptor (TX5 k).2.2.1 = some (tyX5 k) := by decide +kernel
abbrev cX5_init : ByteArray := prog_7_method_1_code
def yX5_init : MethodName := ⟨RX5, "<init>", "()V"⟩
abbrev cX5_thrown : ByteArray := prog_7_method_2_code
def yX5_thrown : MethodName := ⟨RX5, "thrown", "()I"⟩
abbrev cX5_in : ByteArray := prog_7_method_3_code
def yX5_in : MethodName := ⟨RX5, "in", "(III)Z"⟩
abbrev cX5_isPiece : ByteArray := prog_7_method_4_code
def yX5_isPiece : MethodName := ⟨RX5, "isPiece", "(I)Z"⟩
abbrev cX5_holds : ByteArray := prog_7_method_5_code
def yX5_holds : MethodName := ⟨RX5, "holds", "(I)Z"⟩
abbrev cX5_save : ByteArray := prog_7_method_6_code
def yX5_save : MethodName := ⟨RX5, "save", "()V"⟩
abbrev cX5_putAside : ByteArray := prog_7_method_7_code
def yX5_putAside : MethodName := ⟨RX5, "putAside", "()V"⟩
abbrev cX5_putBack : ByteArray := prog_7_method_8_code
def yX5_putBack : MethodName := ⟨RX5, "putBack", "()V"⟩
abbrev cX5_many : ByteArray := prog_7_method_9_code
def yX5_many : MethodName := ⟨RX5, "many", "(I)I"⟩
abbrev cX5_greatest : ByteArray := prog_7_method_10_code
def yX5_greatest : MethodName := ⟨RX5, "greatest", "(I)I"⟩
abbrev cX5_next : ByteArray := prog_7_method_11_code
def yX5_next : MethodName := ⟨RX5, "next", "(I)I"⟩
abbrev cX5_isWay : ByteArray := prog_7_method_12_code
def yX5_isWay : MethodName := ⟨RX5, "isWay", "(I)Z"⟩
abbrev cX5_isOpen : ByteArray := prog_7_method_13_code
def yX5_isOpen : MethodName := ⟨RX5, "isOpen", "(I)Z"⟩
abbrev cX5_weight : ByteArray := prog_7_method_14_code
def yX5_weight : MethodName := ⟨RX5, "weight", "(I)I"⟩
abbrev cX5_heaviestWay : ByteArray := prog_7_method_15_code
def yX5_heaviestWay : MethodName := ⟨RX5, "heaviestWay", "()I"⟩
abbrev cX5_ways : ByteArray := prog_7_method_16_code
def yX5_ways : MethodName := ⟨RX5, "ways", "(IZ)I"⟩
abbrev cX5_behind : ByteArray := prog_7_method_17_code
def yX5_behind : MethodName := ⟨RX5, "behind", "(I)I"⟩
abbrev cX5_rows : ByteArray := prog_7_method_18_code
def yX5_rows : MethodName := ⟨RX5, "rows", "()I"⟩
abbrev cX5_anew : ByteArray := prog_7_method_19_code
def yX5_anew : MethodName := ⟨RX5, "anew", "()V"⟩
abbrev cX5_lays : ByteArray := prog_7_method_20_code
def yX5_lays : MethodName := ⟨RX5, "lays", "(II)I"⟩
abbrev cX5_cover : ByteArray := prog_7_method_21_code
def yX5_cover : MethodName := ⟨RX5, "cover", "(II)I"⟩
abbrev cX5_join : ByteArray := prog_7_method_22_code
def yX5_join : MethodName := ⟨RX5, "join", "(II)I"⟩
abbrev cX5_mark : ByteArray := prog_7_method_23_code
def yX5_mark : MethodName := ⟨RX5, "mark", "(II)I"⟩
abbrev cX5_bar : ByteArray := prog_7_method_24_code
def yX5_bar : MethodName := ⟨RX5, "bar", "(II)I"⟩
abbrev cX5_steps : ByteArray := prog_7_method_25_code
def yX5_steps : MethodName := ⟨RX5, "steps", "()I"⟩
abbrev cX5_splits : ByteArray := prog_7_method_26_code
def yX5_splits : MethodName := ⟨RX5, "splits", "()I"⟩
abbrev cX5_step : ByteArray := prog_7_method_27_code
def yX5_step : MethodName := ⟨RX5, "step", "()I"⟩
abbrev cX5_split : ByteArray := prog_7_method_28_code
def yX5_split : MethodName := ⟨RX5, "split", "()I"⟩
abbrev cX5_begin : ByteArray := prog_7_method_29_code
def yX5_begin : MethodName := ⟨RX5, "begin", "()I"⟩
abbrev cX5_append : ByteArray := prog_7_method_30_code
def yX5_append : MethodName := ⟨RX5, "append", "(I)I"⟩
abbrev cX5_clearBuffer : ByteArray := prog_7_method_31_code
def yX5_clearBuffer : MethodName := ⟨RX5, "clearBuffer", "()I"⟩
abbrev cX5_charAt : ByteArray := prog_7_method_32_code
def yX5_charAt : MethodName := ⟨RX5, "charAt", "(I)I"⟩
abbrev cX5_digitAt : ByteArray := prog_7_method_33_code
def yX5_digitAt : MethodName := ⟨RX5, "digitAt", "(I)I"⟩
abbrev cX5_behindNumber : ByteArray := prog_7_method_34_code
def yX5_behindNumber : MethodName := ⟨RX5, "behindNumber", "(I)I"⟩
abbrev cX5_behindPart : ByteArray := prog_7_method_35_code
def yX5_behindPart : MethodName := ⟨RX5, "behindPart", "(I)I"⟩
abbrev cX5_wrong : ByteArray := prog_7_method_36_code
def yX5_wrong : MethodName := ⟨RX5, "wrong", "()I"⟩
abbrev cX5_firstError : ByteArray := prog_7_method_37_code
def yX5_firstError : MethodName := ⟨RX5, "firstError", "()I"⟩
abbrev cX5_takes : ByteArray := prog_7_method_38_code
def yX5_takes : MethodName := ⟨RX5, "takes", "(II)V"⟩
abbrev cX5_joins : ByteArray := prog_7_method_39_code
def yX5_joins : MethodName := ⟨RX5, "joins", "()I"⟩
abbrev cX5_load : ByteArray := prog_7_method_40_code
def yX5_load : MethodName := ⟨RX5, "load", "()I"⟩
abbrev cX5_keep : ByteArray := prog_7_method_41_code
def yX5_keep : MethodName := ⟨RX5, "keep", "(I)I"⟩
abbrev cX5_goBack : ByteArray := prog_7_method_42_code
def yX5_goBack : MethodName := ⟨RX5, "goBack", "(I)I"⟩
abbrev cX5_undo : ByteArray := prog_7_method_43_code
def yX5_undo : MethodName := ⟨RX5, "undo", "()I"⟩
abbrev cX5_joinsTo : ByteArray := prog_7_method_44_code
def yX5_joinsTo : MethodName := ⟨RX5, "joinsTo", "(I)I"⟩
abbrev cX5_property : ByteArray := prog_7_method_45_code
def yX5_property : MethodName := ⟨RX5, "property", "(II)I"⟩
abbrev cX5_pieceOf : ByteArray := prog_7_method_46_code
def yX5_pieceOf : MethodName := ⟨RX5, "pieceOf", "(II)I"⟩
abbrev cX5_isJoined : ByteArray := prog_7_method_47_code
def yX5_isJoined : MethodName := ⟨RX5, "isJoined", "(II)I"⟩
abbrev cX5_note : ByteArray := prog_7_method_48_code
def yX5_note : MethodName := ⟨RX5, "note", "(II)I"⟩
abbrev cX5_noted : ByteArray := prog_7_method_49_code
def yX5_noted : MethodName := ⟨RX5, "noted", "(II)I"⟩
abbrev cX5_sum : ByteArray := prog_7_method_50_code
def yX5_sum : MethodName := ⟨RX5, "sum", "(I)I"⟩
abbrev cX5_counted : ByteArray := prog_7_method_51_code
def yX5_counted : MethodName := ⟨RX5, "counted", "(I)I"⟩
abbrev cX5_count : ByteArray := prog_7_method_52_code
def yX5_count : MethodName := ⟨RX5, "count", "(I)I"⟩
abbrev cX5_heavy : ByteArray := prog_7_method_53_code
def yX5_heavy : MethodName := ⟨RX5, "heavy", "(I)I"⟩
abbrev cX5_heaviest : ByteArray := prog_7_method_54_code
def yX5_heaviest : MethodName := ⟨RX5, "heaviest", "(I)I"⟩
abbrev cX5_openAt : ByteArray := prog_7_method_55_code
def yX5_openAt : MethodName := ⟨RX5, "openAt", "(I)I"⟩
abbrev cX5_openWay : ByteArray := prog_7_method_56_code
def yX5_openWay : MethodName := ⟨RX5, "openWay", "(I)I"⟩
abbrev cX5_unexplained : ByteArray := prog_7_method_57_code
def yX5_unexplained : MethodName := ⟨RX5, "unexplained", "()I"⟩
abbrev cX5_ifSplit : ByteArray := prog_7_method_58_code
def yX5_ifSplit : MethodName := ⟨RX5, "ifSplit", "()I"⟩
abbrev cX5_mainOne : ByteArray := prog_7_method_59_code
def yX5_mainOne : MethodName := ⟨RX5, "mainOne", "()I"⟩
abbrev cX5_mainPiece : ByteArray := prog_7_method_60_code
def yX5_mainPiece : MethodName := ⟨RX5, "mainPiece", "()I"⟩
abbrev cX5_share : ByteArray := prog_7_method_61_code
def yX5_share : MethodName := ⟨RX5, "share", "()D"⟩
abbrev cX5_explained : ByteArray := prog_7_method_62_code
def yX5_explained : MethodName := ⟨RX5, "explained", "()D"⟩
abbrev cX5_bitsOf : ByteArray := prog_7_method_63_code
def yX5_bitsOf : MethodName := ⟨RX5, "bitsOf", "(D)J"⟩
abbrev cX5_digestOne : ByteArray := prog_7_method_64_code
def yX5_digestOne : MethodName := ⟨RX5, "digestOne", "(J)V"⟩
abbrev cX5_digestPiece : ByteArray := prog_7_method_65_code
def yX5_digestPiece : MethodName := ⟨RX5, "digestPiece", "(I)V"⟩
abbrev cX5_digest : ByteArray := prog_7_method_66_code
def yX5_digest : MethodName := ⟨RX5, "digest", "()J"⟩
def RJ6 : String := "java/lang/Integer"
def TJ6 : u_T := fun k => match k with
  | _ => ("", "", "", false)
def tyJ6 : Nat → FieldType := fun k => match k with
  | _ => .int
abbrev wsJ60 : List Cond := u_ws RJ6 TJ6 0
theorem nmJ6 : ∀ a, a < 0 → ∀ b, b < 0 → a ≠ b → (TJ6 a).2.1 ≠ (TJ6 b).2.1 := by decide +kernel
theorem tyJ6_ok : ∀ k, k < 0 → parseFieldDescriptor (TJ6 k).2.2.1 = some (tyJ6 k) := by decide +kernel
abbrev cJ6_bitCount_0f7a4 : ByteArray := prog_12_method_49_code
def yJ6_bitCount_0f7a4 : MethodName := ⟨RJ6, "bitCount", "(I)I"⟩
def RJ0 : String := "java/lang/String"
def TJ0 : u_T := fun k => match k with
  | _ => ("", "", "", false)
def tyJ0 : Nat → FieldType := fun k => match k with
  | _ => .int
abbrev wsJ00 : List Cond := u_ws RJ0 TJ0 0
theorem nmJ0 : ∀ a, a < 0 → ∀ b, b < 0 → a ≠ b → (TJ0 a).2.1 ≠ (TJ0 b).2.1 := by decide +kernel
theorem tyJ0_ok : ∀ k, k < 0 → parseFieldDescriptor (TJ0 k).2.2.1 = some (tyJ0 k) := by decide +kernel
def RL : String := "CoverWaysLaw"
abbrev cL_cover : ByteArray := method_3_code
def yL_cover : MethodName := ⟨RL, "cover", "(LCoverWays;II[J)I"⟩
abbrev cL_join : ByteArray := method_4_code
def yL_join : MethodName := ⟨RL, "join", "(LCoverWays;II[J)I"⟩
abbrev cL_mark : ByteArray := method_5_code
def yL_mark : MethodName := ⟨RL, "mark", "(LCoverWays;II[J)I"⟩
abbrev cL_bar : ByteArray := method_6_code
def yL_bar : MethodName := ⟨RL, "bar", "(LCoverWays;II[J)I"⟩
abbrev cL_append : ByteArray := method_7_code
def yL_append : MethodName := ⟨RL, "append", "(LCoverWays;I[J)I"⟩
abbrev cL_load : ByteArray := method_8_code
def yL_load : MethodName := ⟨RL, "load", "(LCoverWays;[J)I"⟩
abbrev cL_keep : ByteArray := method_9_code
def yL_keep : MethodName := ⟨RL, "keep", "(LCoverWays;I[J)I"⟩
abbrev cL_goBack : ByteArray := method_10_code
def yL_goBack : MethodName := ⟨RL, "goBack", "(LCoverWays;I[J)I"⟩
abbrev cL_undo : ByteArray := method_11_code
def yL_undo : MethodName := ⟨RL, "undo", "(LCoverWays;[J)I"⟩
abbrev cL_pieceOf : ByteArray := method_12_code
def yL_pieceOf : MethodName := ⟨RL, "pieceOf", "(LCoverWays;II[J)I"⟩
abbrev cL_isJoined : ByteArray := method_13_code
def yL_isJoined : MethodName := ⟨RL, "isJoined", "(LCoverWays;II[J)I"⟩
abbrev cL_noted : ByteArray := method_14_code
def yL_noted : MethodName := ⟨RL, "noted", "(LCoverWays;II[J)I"⟩
abbrev cL_count : ByteArray := method_15_code
def yL_count : MethodName := ⟨RL, "count", "(LCoverWays;I[J)I"⟩
abbrev cL_heaviest : ByteArray := method_16_code
def yL_heaviest : MethodName := ⟨RL, "heaviest", "(LCoverWays;I[J)I"⟩
abbrev cL_openWay : ByteArray := method_17_code
def yL_openWay : MethodName := ⟨RL, "openWay", "(LCoverWays;I[J)I"⟩
abbrev cL_law : ByteArray := code
def yL_law : MethodName := ⟨RL, "law", "([I)Z"⟩
def wsX0_init : List Cond := .code yX0_init cX0_init 1 none :: ([.methodLink RX0 3 objectInit, .instanceMethod objectInit, .code objectInit ⟨#[0xb1]⟩ 1 none, .arrayClass .int, .fieldLink RX0 9 "CoverWays$Rows" "behind" "[I", .fieldLink RX0 15 "CoverWays$Rows" "aheadOf" "[I"] ++ wsX00)
def wsX4_bit : List Cond := .code yX4_bit cX4_bit 2 (some .int) :: ([])
def wsX0_findBehind : List Cond := .code yX0_findBehind cX0_findBehind 4 none :: ([.fieldLink RX0 9 "CoverWays$Rows" "behind" "[I", .fieldLink RX0 18 "CoverWays$State" "joins" "[I", .static yX4_bit, .initialized RX4, .code yX4_bit cX4_bit 2 (some .int)] ++ wsX00 ++ wsX10)
def wsX4_isPiece : List Cond := .code yX4_isPiece cX4_isPiece 1 (some .boolean) :: ([])
def wsX0_findPartner : List Cond := .code yX0_findPartner cX0_findPartner 5 (some .boolean) :: ([.fieldLink RX0 9 "CoverWays$Rows" "behind" "[I", .fieldLink RX0 27 "CoverWays$Rows" "tried" "I", .fieldLink RX0 15 "CoverWays$Rows" "aheadOf" "[I", .static yX4_isPiece, .initialized RX4, .code yX4_isPiece cX4_isPiece 1 (some .boolean), .static yX4_bit, .code yX4_bit cX4_bit 2 (some .int), .methodLink RX0 31 yX0_findPartner, .static yX0_findPartner, .initialized RX0] ++ wsX00)
def wsX0_countByPairing : List Cond := .code yX0_countByPairing cX0_countByPairing 3 (some .int) :: ([.fieldLink RX0 15 "CoverWays$Rows" "aheadOf" "[I", .fieldLink RX0 27 "CoverWays$Rows" "tried" "I", .methodLink RX0 31 yX0_findPartner, .static yX0_findPartner, .initialized RX0, .code yX0_findPartner cX0_findPartner 5 (some .boolean), .fieldLink RX0 9 "CoverWays$Rows" "behind" "[I", .static yX4_isPiece, .initialized RX4, .code yX4_isPiece cX4_isPiece 1 (some .boolean), .static yX4_bit, .code yX4_bit cX4_bit 2 (some .int)] ++ wsX00)
def wsJ6_bitCount_0f7a4 : List Cond := .code yJ6_bitCount_0f7a4 cJ6_bitCount_0f7a4 1 (some .int) :: ([.constant RJ6 265 (1431655765), .constant RJ6 266 (858993459), .constant RJ6 267 (252645135)])
def wsX0_hasNoneBehind : List Cond := .code yX0_hasNoneBehind cX0_hasNoneBehind 3 (some .boolean) :: ([.fieldLink RX0 9 "CoverWays$Rows" "behind" "[I", .static yX4_bit, .initialized RX4, .code yX4_bit cX4_bit 2 (some .int)] ++ wsX00)
def wsX0_countBySets : List Cond := .code yX0_countBySets cX0_countBySets 4 (some .int) :: ([.methodLink RX0 39 yJ6_bitCount_0f7a4, .static yJ6_bitCount_0f7a4, .initialized RJ6, .code yJ6_bitCount_0f7a4 cJ6_bitCount_0f7a4 1 (some .int), .constant RJ6 265 (1431655765), .constant RJ6 266 (858993459), .constant RJ6 267 (252645135), .methodLink RX0 45 yX0_hasNoneBehind, .instanceMethod yX0_hasNoneBehind, .selects RX0 yX0_hasNoneBehind yX0_hasNoneBehind, .initialized RX0, .code yX0_hasNoneBehind cX0_hasNoneBehind 3 (some .boolean), .fieldLink RX0 9 "CoverWays$Rows" "behind" "[I", .static yX4_bit, .initialized RX4, .code yX4_bit cX4_bit 2 (some .int)] ++ wsX00)
def wsX1_init : List Cond := .code yX1_init cX1_init 1 none :: ([.methodLink RX1 3 objectInit, .instanceMethod objectInit, .code objectInit ⟨#[0xb1]⟩ 1 none, .arrayClass .int, .fieldLink RX1 9 "CoverWays$State" "covers" "[I", .fieldLink RX1 15 "CoverWays$State" "marks" "[I", .fieldLink RX1 18 "CoverWays$State" "joins" "[I", .fieldLink RX1 21 "CoverWays$State" "bars" "[I", .fieldLink RX1 24 "CoverWays$State" "rests" "[I", .fieldLink RX1 27 "CoverWays$State" "notedWeights" "[I", .fieldLink RX1 30 "CoverWays$State" "notedMasks" "[I"] ++ wsX10)
def wsX1_clearGraph : List Cond := .code yX1_clearGraph cX1_clearGraph 2 none :: ([.fieldLink RX1 9 "CoverWays$State" "covers" "[I", .fieldLink RX1 15 "CoverWays$State" "marks" "[I", .fieldLink RX1 18 "CoverWays$State" "joins" "[I", .fieldLink RX1 21 "CoverWays$State" "bars" "[I"] ++ wsX10)
def wsX1_copyGraph : List Cond := .code yX1_copyGraph cX1_copyGraph 3 none :: ([.fieldLink RX1 9 "CoverWays$State" "covers" "[I", .fieldLink RX1 15 "CoverWays$State" "marks" "[I", .fieldLink RX1 18 "CoverWays$State" "joins" "[I", .fieldLink RX1 21 "CoverWays$State" "bars" "[I"] ++ wsX10)
def wsX1_copySplitting : List Cond := .code yX1_copySplitting cX1_copySplitting 3 none :: ([.fieldLink RX1 24 "CoverWays$State" "rests" "[I", .fieldLink RX1 27 "CoverWays$State" "notedWeights" "[I", .fieldLink RX1 30 "CoverWays$State" "notedMasks" "[I", .fieldLink RX1 33 "CoverWays$State" "notedWays" "I", .fieldLink RX1 37 "CoverWays$State" "steps" "I", .fieldLink RX1 40 "CoverWays$State" "refusals" "I"] ++ wsX10)
def wsX1_beginAnew : List Cond := .code yX1_beginAnew cX1_beginAnew 2 none :: ([.fieldLink RX1 33 "CoverWays$State" "notedWays" "I", .fieldLink RX1 24 "CoverWays$State" "rests" "[I", .fieldLink RX1 9 "CoverWays$State" "covers" "[I"] ++ wsX10)
def wsX1_countJoins : List Cond := .code yX1_countJoins cX1_countJoins 3 (some .int) :: ([.fieldLink RX1 18 "CoverWays$State" "joins" "[I", .methodLink RX1 43 yJ6_bitCount_0f7a4, .static yJ6_bitCount_0f7a4, .initialized RJ6, .code yJ6_bitCount_0f7a4 cJ6_bitCount_0f7a4 1 (some .int), .constant RJ6 265 (1431655765), .constant RJ6 266 (858993459), .constant RJ6 267 (252645135)] ++ wsX10)
def wsX1_countJoinsTo : List Cond := .code yX1_countJoinsTo cX1_countJoinsTo 4 (some .int) :: ([.fieldLink RX1 18 "CoverWays$State" "joins" "[I", .static yX4_bit, .initialized RX4, .code yX4_bit cX4_bit 2 (some .int)] ++ wsX10)
def wsX1_weightOf : List Cond := .code yX1_weightOf cX1_weightOf 4 (some .int) :: ([.fieldLink RX1 24 "CoverWays$State" "rests" "[I", .static yX4_bit, .initialized RX4, .code yX4_bit cX4_bit 2 (some .int)] ++ wsX10)
def wsX1_isOpen : List Cond := .code yX1_isOpen cX1_isOpen 3 (some .boolean) :: ([.fieldLink RX1 21 "CoverWays$State" "bars" "[I", .static yX4_bit, .initialized RX4, .code yX4_bit cX4_bit 2 (some .int)] ++ wsX10)
def wsX1_takeWay : List Cond := .code yX1_takeWay cX1_takeWay 4 none :: ([.fieldLink RX1 33 "CoverWays$State" "notedWays" "I", .fieldLink RX1 27 "CoverWays$State" "notedWeights" "[I", .fieldLink RX1 30 "CoverWays$State" "notedMasks" "[I", .fieldLink RX1 37 "CoverWays$State" "steps" "I", .fieldLink RX1 24 "CoverWays$State" "rests" "[I", .static yX4_bit, .initialized RX4, .code yX4_bit cX4_bit 2 (some .int)] ++ wsX10)
def wsX2_init : List Cond := .code yX2_init cX2_init 1 none :: ([.methodLink RX2 3 objectInit, .instanceMethod objectInit, .code objectInit ⟨#[0xb1]⟩ 1 none, .arrayClass .int, .fieldLink RX2 9 "CoverWays$Text" "codes" "[I", .classLink RX2 15 RX1, .instantiable RX1 10, .initialized RX1, .fieldLink RX2 18 "CoverWays$Text" "graph" "LCoverWays$State;", .instanceMethod yX1_init, .code yX1_init cX1_init 1 none, .methodLink RX1 3 objectInit, .fieldLink RX1 9 "CoverWays$State" "covers" "[I", .fieldLink RX1 15 "CoverWays$State" "marks" "[I", .fieldLink RX1 18 "CoverWays$State" "joins" "[I", .fieldLink RX1 21 "CoverWays$State" "bars" "[I", .fieldLink RX1 24 "CoverWays$State" "rests" "[I", .fieldLink RX1 27 "CoverWays$State" "notedWeights" "[I", .fieldLink RX1 30 "CoverWays$State" "notedMasks" "[I"] ++ wsX20 ++ wsX10)
def wsX2_takeFirst : List Cond := .code yX2_takeFirst cX2_takeFirst 2 (some .boolean) :: ([.fieldLink RX2 48 "CoverWays$Text" "first" "I", .fieldLink RX2 36 "CoverWays$Text" "kind" "I", .fieldLink RX2 18 "CoverWays$Text" "graph" "LCoverWays$State;", .fieldLink RX2 64 "CoverWays$State" "marks" "[I", .fieldLink RX2 25 "CoverWays$Text" "place" "I", .static yX4_isPiece, .initialized RX4, .code yX4_isPiece cX4_isPiece 1 (some .boolean)] ++ wsX20 ++ wsX10)
def wsX2_takeSecond : List Cond := .code yX2_takeSecond cX2_takeSecond 2 (some .boolean) :: ([.fieldLink RX2 48 "CoverWays$Text" "first" "I", .fieldLink RX2 36 "CoverWays$Text" "kind" "I", .fieldLink RX2 18 "CoverWays$Text" "graph" "LCoverWays$State;", .fieldLink RX2 67 "CoverWays$State" "joins" "[I", .fieldLink RX2 70 "CoverWays$State" "bars" "[I", .fieldLink RX2 25 "CoverWays$Text" "place" "I", .static yX4_isPiece, .initialized RX4, .code yX4_isPiece cX4_isPiece 1 (some .boolean)] ++ wsX20 ++ wsX10)
def wsX2_takeDigit : List Cond := .code yX2_takeDigit cX2_takeDigit 2 (some .boolean) :: ([.fieldLink RX2 18 "CoverWays$Text" "graph" "LCoverWays$State;", .fieldLink RX2 45 "CoverWays$State" "covers" "[I", .fieldLink RX2 48 "CoverWays$Text" "first" "I"] ++ wsX20 ++ wsX10)
def wsX2_takeSeparator : List Cond := .code yX2_takeSeparator cX2_takeSeparator 2 (some .boolean) :: ([.fieldLink RX2 25 "CoverWays$Text" "place" "I"] ++ wsX20)
def wsX2_canGrow : List Cond := .code yX2_canGrow cX2_canGrow 2 (some .boolean) :: ([.fieldLink RX2 18 "CoverWays$Text" "graph" "LCoverWays$State;", .fieldLink RX2 45 "CoverWays$State" "covers" "[I", .fieldLink RX2 48 "CoverWays$Text" "first" "I"] ++ wsX20 ++ wsX10)
def wsX2_takeCode_r1 : List Cond := [Cond.fieldLink RX2 25 "CoverWays$Text" "place" "I", Cond.fieldLink RX2 36 "CoverWays$Text" "kind" "I", Cond.fieldLink RX2 18 "CoverWays$Text" "graph" "LCoverWays$State;", Cond.fieldLink RX2 45 "CoverWays$State" "covers" "[I", Cond.fieldLink RX2 48 "CoverWays$Text" "first" "I", Cond.methodLink RX2 39 yX2_takeFirst, Cond.instanceMethod yX2_takeFirst, Cond.selects RX2 yX2_takeFirst yX2_takeFirst, Cond.initialized RX2, Cond.code yX2_takeFirst cX2_takeFirst 2 (some .boolean), Cond.fieldLink RX2 64 "CoverWays$State" "marks" "[I", Cond.static yX4_isPiece, Cond.initialized RX4, Cond.code yX4_isPiece cX4_isPiece 1 (some .boolean), Cond.methodLink RX2 42 yX2_takeSecond, Cond.instanceMethod yX2_takeSecond, Cond.selects RX2 yX2_takeSecond yX2_takeSecond, Cond.code yX2_takeSecond cX2_takeSecond 2 (some .boolean), Cond.fieldLink RX2 67 "CoverWays$State" "joins" "[I", Cond.fieldLink RX2 70 "CoverWays$State" "bars" "[I", Cond.methodLink RX2 51 yX2_takeDigit, Cond.instanceMethod yX2_takeDigit, Cond.selects RX2 yX2_takeDigit yX2_takeDigit, Cond.code yX2_takeDigit cX2_takeDigit 2 (some .boolean)]
def wsX2_takeCode_r2 : List Cond := [Cond.methodLink RX2 54 yX2_takeSeparator, Cond.instanceMethod yX2_takeSeparator, Cond.selects RX2 yX2_takeSeparator yX2_takeSeparator, Cond.code yX2_takeSeparator cX2_takeSeparator 2 (some .boolean), Cond.methodLink RX2 57 yX2_canGrow, Cond.instanceMethod yX2_canGrow, Cond.selects RX2 yX2_canGrow yX2_canGrow, Cond.code yX2_canGrow cX2_canGrow 2 (some .boolean)]
def wsX2_takeCode : List Cond := .code yX2_takeCode cX2_takeCode 2 (some .boolean) :: ((wsX2_takeCode_r1 ++ wsX2_takeCode_r2) ++ wsX20 ++ wsX10)
def wsX2_read_r1 : List Cond := [Cond.fieldLink RX2 18 "CoverWays$Text" "graph" "LCoverWays$State;", Cond.fieldLink RX2 25 "CoverWays$Text" "place" "I", Cond.fieldLink RX2 29 "CoverWays$Text" "length" "I", Cond.fieldLink RX2 9 "CoverWays$Text" "codes" "[I", Cond.methodLink RX2 22 yX1_clearGraph, Cond.instanceMethod yX1_clearGraph, Cond.selects RX1 yX1_clearGraph yX1_clearGraph, Cond.initialized RX1, Cond.code yX1_clearGraph cX1_clearGraph 2 none, Cond.fieldLink RX1 9 "CoverWays$State" "covers" "[I", Cond.fieldLink RX1 15 "CoverWays$State" "marks" "[I", Cond.fieldLink RX1 18 "CoverWays$State" "joins" "[I", Cond.fieldLink RX1 21 "CoverWays$State" "bars" "[I", Cond.methodLink RX2 32 yX2_takeCode, Cond.instanceMethod yX2_takeCode, Cond.selects RX2 yX2_takeCode yX2_takeCode, Cond.initialized RX2, Cond.code yX2_takeCode cX2_takeCode 2 (some .boolean), Cond.fieldLink RX2 36 "CoverWays$Text" "kind" "I", Cond.fieldLink RX2 45 "CoverWays$State" "covers" "[I", Cond.fieldLink RX2 48 "CoverWays$Text" "first" "I", Cond.methodLink RX2 39 yX2_takeFirst, Cond.instanceMethod yX2_takeFirst, Cond.selects RX2 yX2_takeFirst yX2_takeFirst]
def wsX2_read_r2 : List Cond := [Cond.code yX2_takeFirst cX2_takeFirst 2 (some .boolean), Cond.fieldLink RX2 64 "CoverWays$State" "marks" "[I", Cond.static yX4_isPiece, Cond.initialized RX4, Cond.code yX4_isPiece cX4_isPiece 1 (some .boolean), Cond.methodLink RX2 42 yX2_takeSecond, Cond.instanceMethod yX2_takeSecond, Cond.selects RX2 yX2_takeSecond yX2_takeSecond, Cond.code yX2_takeSecond cX2_takeSecond 2 (some .boolean), Cond.fieldLink RX2 67 "CoverWays$State" "joins" "[I", Cond.fieldLink RX2 70 "CoverWays$State" "bars" "[I", Cond.methodLink RX2 51 yX2_takeDigit, Cond.instanceMethod yX2_takeDigit, Cond.selects RX2 yX2_takeDigit yX2_takeDigit, Cond.code yX2_takeDigit cX2_takeDigit 2 (some .boolean), Cond.methodLink RX2 54 yX2_takeSeparator, Cond.instanceMethod yX2_takeSeparator, Cond.selects RX2 yX2_takeSeparator yX2_takeSeparator, Cond.code yX2_takeSeparator cX2_takeSeparator 2 (some .boolean), Cond.methodLink RX2 57 yX2_canGrow, Cond.instanceMethod yX2_canGrow, Cond.selects RX2 yX2_canGrow yX2_canGrow, Cond.code yX2_canGrow cX2_canGrow 2 (some .boolean)]
def wsX2_read : List Cond := .code yX2_read cX2_read 2 (some .int) :: ((wsX2_read_r1 ++ wsX2_read_r2) ++ wsX20 ++ wsX10)
def wsX2_isWhole : List Cond := .code yX2_isWhole cX2_isWhole 1 (some .boolean) :: ([.fieldLink RX2 25 "CoverWays$Text" "place" "I"] ++ wsX20)
def wsX3_init : List Cond := .code yX3_init cX3_init 1 none :: ([.methodLink RX3 3 objectInit, .instanceMethod objectInit, .code objectInit ⟨#[0xb1]⟩ 1 none, .arrayClass .int, .fieldLink RX3 9 "CoverWays$Ways" "all" "[I", .fieldLink RX3 15 "CoverWays$Ways" "open" "[I", .classLink RX3 18 RX1, .instantiable RX1 10, .initialized RX1, .fieldLink RX3 21 "CoverWays$Ways" "listed" "LCoverWays$State;", .fieldLink RX3 25 "CoverWays$Ways" "waysFrom" "[I", .instanceMethod yX1_init, .code yX1_init cX1_init 1 none, .methodLink RX1 3 objectInit, .fieldLink RX1 9 "CoverWays$State" "covers" "[I", .fieldLink RX1 15 "CoverWays$State" "marks" "[I", .fieldLink RX1 18 "CoverWays$State" "joins" "[I", .fieldLink RX1 21 "CoverWays$State" "bars" "[I", .fieldLink RX1 24 "CoverWays$State" "rests" "[I", .fieldLink RX1 27 "CoverWays$State" "notedWeights" "[I", .fieldLink RX1 30 "CoverWays$State" "notedMasks" "[I"] ++ wsX30 ++ wsX10)
def wsX3_isListed : List Cond := .code yX3_isListed cX3_isListed 3 (some .boolean) :: ([.fieldLink RX3 21 "CoverWays$Ways" "listed" "LCoverWays$State;", .fieldLink RX3 50 "CoverWays$State" "joins" "[I", .fieldLink RX3 40 "CoverWays$State" "marks" "[I", .fieldLink RX3 53 "CoverWays$State" "bars" "[I"] ++ wsX30 ++ wsX10)
def wsX3_walk : List Cond := .code yX3_walk cX3_walk 6 none :: ([.fieldLink RX3 21 "CoverWays$Ways" "listed" "LCoverWays$State;", .fieldLink RX3 40 "CoverWays$State" "marks" "[I", .fieldLink RX3 36 "CoverWays$Ways" "allWays" "I", .fieldLink RX3 9 "CoverWays$Ways" "all" "[I", .fieldLink RX3 50 "CoverWays$State" "joins" "[I", .static yX4_isPiece, .initialized RX4, .code yX4_isPiece cX4_isPiece 1 (some .boolean), .static yX4_bit, .code yX4_bit cX4_bit 2 (some .int), .methodLink RX3 43 yX3_walk, .static yX3_walk, .initialized RX3] ++ wsX30 ++ wsX10)
def wsX3_pickOpen : List Cond := .code yX3_pickOpen cX3_pickOpen 2 none :: ([.fieldLink RX3 64 "CoverWays$Ways" "openWays" "I", .fieldLink RX3 36 "CoverWays$Ways" "allWays" "I", .fieldLink RX3 21 "CoverWays$Ways" "listed" "LCoverWays$State;", .fieldLink RX3 9 "CoverWays$Ways" "all" "[I", .fieldLink RX3 15 "CoverWays$Ways" "open" "[I", .methodLink RX3 67 yX1_isOpen, .instanceMethod yX1_isOpen, .selects RX1 yX1_isOpen yX1_isOpen, .initialized RX1, .code yX1_isOpen cX1_isOpen 3 (some .boolean), .fieldLink RX1 21 "CoverWays$State" "bars" "[I", .static yX4_bit, .initialized RX4, .code yX4_bit cX4_bit 2 (some .int)] ++ wsX30 ++ wsX10)
def wsX3_list_r1 : List Cond := [Cond.fieldLink RX3 21 "CoverWays$Ways" "listed" "LCoverWays$State;", Cond.fieldLink RX3 36 "CoverWays$Ways" "allWays" "I", Cond.fieldLink RX3 40 "CoverWays$State" "marks" "[I", Cond.methodLink RX3 28 yX3_isListed, Cond.instanceMethod yX3_isListed, Cond.selects RX3 yX3_isListed yX3_isListed, Cond.initialized RX3, Cond.code yX3_isListed cX3_isListed 3 (some .boolean), Cond.fieldLink RX3 50 "CoverWays$State" "joins" "[I", Cond.fieldLink RX3 53 "CoverWays$State" "bars" "[I", Cond.methodLink RX3 32 yX1_copyGraph, Cond.instanceMethod yX1_copyGraph, Cond.selects RX1 yX1_copyGraph yX1_copyGraph, Cond.initialized RX1, Cond.code yX1_copyGraph cX1_copyGraph 3 none, Cond.fieldLink RX1 9 "CoverWays$State" "covers" "[I", Cond.fieldLink RX1 15 "CoverWays$State" "marks" "[I", Cond.fieldLink RX1 18 "CoverWays$State" "joins" "[I", Cond.fieldLink RX1 21 "CoverWays$State" "bars" "[I", Cond.methodLink RX3 43 yX3_walk, Cond.static yX3_walk, Cond.code yX3_walk cX3_walk 6 none, Cond.fieldLink RX3 9 "CoverWays$Ways" "all" "[I", Cond.static yX4_isPiece]
def wsX3_list_r2 : List Cond := [Cond.initialized RX4, Cond.code yX4_isPiece cX4_isPiece 1 (some .boolean), Cond.static yX4_bit, Cond.code yX4_bit cX4_bit 2 (some .int), Cond.methodLink RX3 47 yX3_pickOpen, Cond.instanceMethod yX3_pickOpen, Cond.selects RX3 yX3_pickOpen yX3_pickOpen, Cond.code yX3_pickOpen cX3_pickOpen 2 none, Cond.fieldLink RX3 64 "CoverWays$Ways" "openWays" "I", Cond.fieldLink RX3 15 "CoverWays$Ways" "open" "[I", Cond.methodLink RX3 67 yX1_isOpen, Cond.instanceMethod yX1_isOpen, Cond.selects RX1 yX1_isOpen yX1_isOpen, Cond.code yX1_isOpen cX1_isOpen 3 (some .boolean)]
def wsX3_list : List Cond := .code yX3_list cX3_list 3 none :: ((wsX3_list_r1 ++ wsX3_list_r2) ++ wsX30 ++ wsX10)
def wsX3_addUp : List Cond := .code yX3_addUp cX3_addUp 5 (some .int) :: ([.fieldLink RX3 25 "CoverWays$Ways" "waysFrom" "[I", .fieldLink RX3 40 "CoverWays$State" "marks" "[I", .fieldLink RX3 50 "CoverWays$State" "joins" "[I", .static yX4_bit, .initialized RX4, .code yX4_bit cX4_bit 2 (some .int)] ++ wsX30 ++ wsX10)
def wsX4_init_r1 : List Cond := [Cond.methodLink RX4 3 objectInit, Cond.instanceMethod objectInit, Cond.code objectInit ⟨#[0xb1]⟩ 1 none, Cond.classLink RX4 9 RX1, Cond.instantiable RX1 10, Cond.initialized RX1, Cond.fieldLink RX4 12 "CoverWays" "now" "LCoverWays$State;", Cond.fieldLink RX4 16 "CoverWays" "trial" "LCoverWays$State;", Cond.fieldLink RX4 19 "CoverWays" "saved" "[LCoverWays$State;", Cond.fieldLink RX4 23 "CoverWays" "snapshots" "[LCoverWays$State;", Cond.arrayClass .boolean, Cond.fieldLink RX4 26 "CoverWays" "isKept" "[Z", Cond.classLink RX4 30 RX2, Cond.instantiable RX2 6, Cond.initialized RX2, Cond.fieldLink RX4 33 "CoverWays" "text" "LCoverWays$Text;", Cond.classLink RX4 37 RX3, Cond.instantiable RX3 6, Cond.initialized RX3, Cond.fieldLink RX4 40 "CoverWays" "ways" "LCoverWays$Ways;", Cond.classLink RX4 44 RX0, Cond.instantiable RX0 3, Cond.initialized RX0, Cond.fieldLink RX4 47 "CoverWays" "rows" "LCoverWays$Rows;"]
def wsX4_init_r2 : List Cond := [Cond.fieldLink RX4 51 "CoverWays$State" "marks" "[I", Cond.instanceMethod yX1_init, Cond.code yX1_init cX1_init 1 none, Cond.methodLink RX1 3 objectInit, Cond.arrayClass .int, Cond.fieldLink RX1 9 "CoverWays$State" "covers" "[I", Cond.fieldLink RX1 15 "CoverWays$State" "marks" "[I", Cond.fieldLink RX1 18 "CoverWays$State" "joins" "[I", Cond.fieldLink RX1 21 "CoverWays$State" "bars" "[I", Cond.fieldLink RX1 24 "CoverWays$State" "rests" "[I", Cond.fieldLink RX1 27 "CoverWays$State" "notedWeights" "[I", Cond.fieldLink RX1 30 "CoverWays$State" "notedMasks" "[I", Cond.instanceMethod yX2_init, Cond.code yX2_init cX2_init 1 none, Cond.methodLink RX2 3 objectInit, Cond.fieldLink RX2 9 "CoverWays$Text" "codes" "[I", Cond.classLink RX2 15 RX1, Cond.fieldLink RX2 18 "CoverWays$Text" "graph" "LCoverWays$State;", Cond.instanceMethod yX3_init, Cond.code yX3_init cX3_init 1 none, Cond.methodLink RX3 3 objectInit, Cond.fieldLink RX3 9 "CoverWays$Ways" "all" "[I", Cond.fieldLink RX3 15 "CoverWays$Ways" "open" "[I", Cond.classLink RX3 18 RX1]
def wsX4_init_r3 : List Cond := [Cond.fieldLink RX3 21 "CoverWays$Ways" "listed" "LCoverWays$State;", Cond.fieldLink RX3 25 "CoverWays$Ways" "waysFrom" "[I", Cond.instanceMethod yX0_init, Cond.code yX0_init cX0_init 1 none, Cond.methodLink RX0 3 objectInit, Cond.fieldLink RX0 9 "CoverWays$Rows" "behind" "[I", Cond.fieldLink RX0 15 "CoverWays$Rows" "aheadOf" "[I"]
def wsX4_init : List Cond := .code yX4_init cX4_init 2 none :: ((wsX4_init_r1 ++ (wsX4_init_r2 ++ wsX4_init_r3)) ++ wsX10 ++ wsX40 ++ wsX20 ++ wsX30 ++ wsX00)
def wsX4_dropOldest : List Cond := .code yX4_dropOldest cX4_dropOldest 3 none :: ([.fieldLink RX4 19 "CoverWays" "saved" "[LCoverWays$State;", .fieldLink RX4 154 "CoverWays" "savedStates" "I"] ++ wsX40)
def wsX4_copyState : List Cond := .code yX4_copyState cX4_copyState 2 none :: ([.methodLink RX4 137 yX1_copyGraph, .instanceMethod yX1_copyGraph, .selects RX1 yX1_copyGraph yX1_copyGraph, .initialized RX1, .code yX1_copyGraph cX1_copyGraph 3 none, .fieldLink RX1 9 "CoverWays$State" "covers" "[I", .fieldLink RX1 15 "CoverWays$State" "marks" "[I", .fieldLink RX1 18 "CoverWays$State" "joins" "[I", .fieldLink RX1 21 "CoverWays$State" "bars" "[I", .methodLink RX4 291 yX1_copySplitting, .instanceMethod yX1_copySplitting, .selects RX1 yX1_copySplitting yX1_copySplitting, .code yX1_copySplitting cX1_copySplitting 3 none, .fieldLink RX1 24 "CoverWays$State" "rests" "[I", .fieldLink RX1 27 "CoverWays$State" "notedWeights" "[I", .fieldLink RX1 30 "CoverWays$State" "notedMasks" "[I", .fieldLink RX1 33 "CoverWays$State" "notedWays" "I", .fieldLink RX1 37 "CoverWays$State" "steps" "I", .fieldLink RX1 40 "CoverWays$State" "refusals" "I"] ++ wsX10)
def wsX4_saveState_r1 : List Cond := [Cond.fieldLink RX4 154 "CoverWays" "savedStates" "I", Cond.fieldLink RX4 12 "CoverWays" "now" "LCoverWays$State;", Cond.fieldLink RX4 19 "CoverWays" "saved" "[LCoverWays$State;", Cond.methodLink RX4 288 yX4_dropOldest, Cond.instanceMethod yX4_dropOldest, Cond.selects RX4 yX4_dropOldest yX4_dropOldest, Cond.initialized RX4, Cond.code yX4_dropOldest cX4_dropOldest 3 none, Cond.methodLink RX4 148 yX4_copyState, Cond.static yX4_copyState, Cond.code yX4_copyState cX4_copyState 2 none, Cond.methodLink RX4 137 yX1_copyGraph, Cond.instanceMethod yX1_copyGraph, Cond.selects RX1 yX1_copyGraph yX1_copyGraph, Cond.initialized RX1, Cond.code yX1_copyGraph cX1_copyGraph 3 none, Cond.fieldLink RX1 9 "CoverWays$State" "covers" "[I", Cond.fieldLink RX1 15 "CoverWays$State" "marks" "[I", Cond.fieldLink RX1 18 "CoverWays$State" "joins" "[I", Cond.fieldLink RX1 21 "CoverWays$State" "bars" "[I", Cond.methodLink RX4 291 yX1_copySplitting, Cond.instanceMethod yX1_copySplitting, Cond.selects RX1 yX1_copySplitting yX1_copySplitting, Cond.code yX1_copySplitting cX1_copySplitting 3 none]
def wsX4_saveState_r2 : List Cond := [Cond.fieldLink RX1 24 "CoverWays$State" "rests" "[I", Cond.fieldLink RX1 27 "CoverWays$State" "notedWeights" "[I", Cond.fieldLink RX1 30 "CoverWays$State" "notedMasks" "[I", Cond.fieldLink RX1 33 "CoverWays$State" "notedWays" "I", Cond.fieldLink RX1 37 "CoverWays$State" "steps" "I", Cond.fieldLink RX1 40 "CoverWays$State" "refusals" "I"]
def wsX4_saveState : List Cond := .code yX4_saveState cX4_saveState 1 none :: ((wsX4_saveState_r1 ++ wsX4_saveState_r2) ++ wsX40 ++ wsX10)
def wsX4_cover_r1 : List Cond := [Cond.classLink RX4 59 "java/lang/IndexOutOfBoundsException", Cond.initialized "java/lang/IndexOutOfBoundsException", Cond.classLink RX4 66 "java/lang/IllegalArgumentException", Cond.initialized "java/lang/IllegalArgumentException", Cond.fieldLink RX4 12 "CoverWays" "now" "LCoverWays$State;", Cond.fieldLink RX4 74 "CoverWays$State" "covers" "[I", Cond.methodLink RX4 55 yX4_isPiece, Cond.static yX4_isPiece, Cond.initialized RX4, Cond.code yX4_isPiece cX4_isPiece 1 (some .boolean), Cond.methodLink RX4 71 yX4_saveState, Cond.instanceMethod yX4_saveState, Cond.selects RX4 yX4_saveState yX4_saveState, Cond.code yX4_saveState cX4_saveState 1 none, Cond.fieldLink RX4 154 "CoverWays" "savedStates" "I", Cond.fieldLink RX4 19 "CoverWays" "saved" "[LCoverWays$State;", Cond.methodLink RX4 288 yX4_dropOldest, Cond.instanceMethod yX4_dropOldest, Cond.selects RX4 yX4_dropOldest yX4_dropOldest, Cond.code yX4_dropOldest cX4_dropOldest 3 none, Cond.methodLink RX4 148 yX4_copyState, Cond.static yX4_copyState, Cond.code yX4_copyState cX4_copyState 2 none, Cond.methodLink RX4 137 yX1_copyGraph]
def wsX4_cover_r2 : List Cond := [Cond.instanceMethod yX1_copyGraph, Cond.selects RX1 yX1_copyGraph yX1_copyGraph, Cond.initialized RX1, Cond.code yX1_copyGraph cX1_copyGraph 3 none, Cond.fieldLink RX1 9 "CoverWays$State" "covers" "[I", Cond.fieldLink RX1 15 "CoverWays$State" "marks" "[I", Cond.fieldLink RX1 18 "CoverWays$State" "joins" "[I", Cond.fieldLink RX1 21 "CoverWays$State" "bars" "[I", Cond.methodLink RX4 291 yX1_copySplitting, Cond.instanceMethod yX1_copySplitting, Cond.selects RX1 yX1_copySplitting yX1_copySplitting, Cond.code yX1_copySplitting cX1_copySplitting 3 none, Cond.fieldLink RX1 24 "CoverWays$State" "rests" "[I", Cond.fieldLink RX1 27 "CoverWays$State" "notedWeights" "[I", Cond.fieldLink RX1 30 "CoverWays$State" "notedMasks" "[I", Cond.fieldLink RX1 33 "CoverWays$State" "notedWays" "I", Cond.fieldLink RX1 37 "CoverWays$State" "steps" "I", Cond.fieldLink RX1 40 "CoverWays$State" "refusals" "I", Cond.methodLink RX4 77 yX1_beginAnew, Cond.instanceMethod yX1_beginAnew, Cond.selects RX1 yX1_beginAnew yX1_beginAnew, Cond.code yX1_beginAnew cX1_beginAnew 2 none]
def wsX4_cover : List Cond := .code yX4_cover cX4_cover 4 (some .int) :: ((wsX4_cover_r1 ++ wsX4_cover_r2) ++ wsX40 ++ wsX10 ++ (vx_atS RX4 63 "java/lang/IndexOutOfBoundsException" ["java/lang/RuntimeException", "java/lang/Exception"]).filter goodWord ++ (vx_atS RX4 70 "java/lang/IllegalArgumentException" ["java/lang/RuntimeException", "java/lang/Exception"]).filter goodWord)
def wsX4_join_r1 : List Cond := [Cond.classLink RX4 59 "java/lang/IndexOutOfBoundsException", Cond.initialized "java/lang/IndexOutOfBoundsException", Cond.classLink RX4 66 "java/lang/IllegalArgumentException", Cond.initialized "java/lang/IllegalArgumentException", Cond.fieldLink RX4 12 "CoverWays" "now" "LCoverWays$State;", Cond.fieldLink RX4 82 "CoverWays$State" "joins" "[I", Cond.methodLink RX4 55 yX4_isPiece, Cond.static yX4_isPiece, Cond.initialized RX4, Cond.code yX4_isPiece cX4_isPiece 1 (some .boolean), Cond.methodLink RX4 71 yX4_saveState, Cond.instanceMethod yX4_saveState, Cond.selects RX4 yX4_saveState yX4_saveState, Cond.code yX4_saveState cX4_saveState 1 none, Cond.fieldLink RX4 154 "CoverWays" "savedStates" "I", Cond.fieldLink RX4 19 "CoverWays" "saved" "[LCoverWays$State;", Cond.methodLink RX4 288 yX4_dropOldest, Cond.instanceMethod yX4_dropOldest, Cond.selects RX4 yX4_dropOldest yX4_dropOldest, Cond.code yX4_dropOldest cX4_dropOldest 3 none, Cond.methodLink RX4 148 yX4_copyState, Cond.static yX4_copyState, Cond.code yX4_copyState cX4_copyState 2 none, Cond.methodLink RX4 137 yX1_copyGraph]
def wsX4_join_r2 : List Cond := [Cond.instanceMethod yX1_copyGraph, Cond.selects RX1 yX1_copyGraph yX1_copyGraph, Cond.initialized RX1, Cond.code yX1_copyGraph cX1_copyGraph 3 none, Cond.fieldLink RX1 9 "CoverWays$State" "covers" "[I", Cond.fieldLink RX1 15 "CoverWays$State" "marks" "[I", Cond.fieldLink RX1 18 "CoverWays$State" "joins" "[I", Cond.fieldLink RX1 21 "CoverWays$State" "bars" "[I", Cond.methodLink RX4 291 yX1_copySplitting, Cond.instanceMethod yX1_copySplitting, Cond.selects RX1 yX1_copySplitting yX1_copySplitting, Cond.code yX1_copySplitting cX1_copySplitting 3 none, Cond.fieldLink RX1 24 "CoverWays$State" "rests" "[I", Cond.fieldLink RX1 27 "CoverWays$State" "notedWeights" "[I", Cond.fieldLink RX1 30 "CoverWays$State" "notedMasks" "[I", Cond.fieldLink RX1 33 "CoverWays$State" "notedWays" "I", Cond.fieldLink RX1 37 "CoverWays$State" "steps" "I", Cond.fieldLink RX1 40 "CoverWays$State" "refusals" "I", Cond.methodLink RX4 77 yX1_beginAnew, Cond.instanceMethod yX1_beginAnew, Cond.selects RX1 yX1_beginAnew yX1_beginAnew, Cond.code yX1_beginAnew cX1_beginAnew 2 none, Cond.methodLink RX4 85 yX4_bit, Cond.static yX4_bit]
def wsX4_join_r3 : List Cond := [Cond.code yX4_bit cX4_bit 2 (some .int)]
def wsX4_join : List Cond := .code yX4_join cX4_join 3 (some .int) :: ((wsX4_join_r1 ++ (wsX4_join_r2 ++ wsX4_join_r3)) ++ wsX40 ++ wsX10 ++ (vx_atS RX4 63 "java/lang/IndexOutOfBoundsException" ["java/lang/RuntimeException", "java/lang/Exception"]).filter goodWord ++ (vx_atS RX4 70 "java/lang/IllegalArgumentException" ["java/lang/RuntimeException", "java/lang/Exception"]).filter goodWord)
def wsX4_mark_r1 : List Cond := [Cond.classLink RX4 59 "java/lang/IndexOutOfBoundsException", Cond.initialized "java/lang/IndexOutOfBoundsException", Cond.classLink RX4 66 "java/lang/IllegalArgumentException", Cond.initialized "java/lang/IllegalArgumentException", Cond.fieldLink RX4 12 "CoverWays" "now" "LCoverWays$State;", Cond.fieldLink RX4 51 "CoverWays$State" "marks" "[I", Cond.methodLink RX4 55 yX4_isPiece, Cond.static yX4_isPiece, Cond.initialized RX4, Cond.code yX4_isPiece cX4_isPiece 1 (some .boolean), Cond.methodLink RX4 71 yX4_saveState, Cond.instanceMethod yX4_saveState, Cond.selects RX4 yX4_saveState yX4_saveState, Cond.code yX4_saveState cX4_saveState 1 none, Cond.fieldLink RX4 154 "CoverWays" "savedStates" "I", Cond.fieldLink RX4 19 "CoverWays" "saved" "[LCoverWays$State;", Cond.methodLink RX4 288 yX4_dropOldest, Cond.instanceMethod yX4_dropOldest, Cond.selects RX4 yX4_dropOldest yX4_dropOldest, Cond.code yX4_dropOldest cX4_dropOldest 3 none, Cond.methodLink RX4 148 yX4_copyState, Cond.static yX4_copyState, Cond.code yX4_copyState cX4_copyState 2 none, Cond.methodLink RX4 137 yX1_copyGraph]
def wsX4_mark_r2 : List Cond := [Cond.instanceMethod yX1_copyGraph, Cond.selects RX1 yX1_copyGraph yX1_copyGraph, Cond.initialized RX1, Cond.code yX1_copyGraph cX1_copyGraph 3 none, Cond.fieldLink RX1 9 "CoverWays$State" "covers" "[I", Cond.fieldLink RX1 15 "CoverWays$State" "marks" "[I", Cond.fieldLink RX1 18 "CoverWays$State" "joins" "[I", Cond.fieldLink RX1 21 "CoverWays$State" "bars" "[I", Cond.methodLink RX4 291 yX1_copySplitting, Cond.instanceMethod yX1_copySplitting, Cond.selects RX1 yX1_copySplitting yX1_copySplitting, Cond.code yX1_copySplitting cX1_copySplitting 3 none, Cond.fieldLink RX1 24 "CoverWays$State" "rests" "[I", Cond.fieldLink RX1 27 "CoverWays$State" "notedWeights" "[I", Cond.fieldLink RX1 30 "CoverWays$State" "notedMasks" "[I", Cond.fieldLink RX1 33 "CoverWays$State" "notedWays" "I", Cond.fieldLink RX1 37 "CoverWays$State" "steps" "I", Cond.fieldLink RX1 40 "CoverWays$State" "refusals" "I", Cond.methodLink RX4 77 yX1_beginAnew, Cond.instanceMethod yX1_beginAnew, Cond.selects RX1 yX1_beginAnew yX1_beginAnew, Cond.code yX1_beginAnew cX1_beginAnew 2 none]
def wsX4_mark : List Cond := .code yX4_mark cX4_mark 4 (some .int) :: ((wsX4_mark_r1 ++ wsX4_mark_r2) ++ wsX40 ++ wsX10 ++ (vx_atS RX4 63 "java/lang/IndexOutOfBoundsException" ["java/lang/RuntimeException", "java/lang/Exception"]).filter goodWord ++ (vx_atS RX4 70 "java/lang/IllegalArgumentException" ["java/lang/RuntimeException", "java/lang/Exception"]).filter goodWord)
def wsX4_bar_r1 : List Cond := [Cond.classLink RX4 59 "java/lang/IndexOutOfBoundsException", Cond.initialized "java/lang/IndexOutOfBoundsException", Cond.classLink RX4 66 "java/lang/IllegalArgumentException", Cond.initialized "java/lang/IllegalArgumentException", Cond.fieldLink RX4 12 "CoverWays" "now" "LCoverWays$State;", Cond.fieldLink RX4 93 "CoverWays$State" "bars" "[I", Cond.methodLink RX4 55 yX4_isPiece, Cond.static yX4_isPiece, Cond.initialized RX4, Cond.code yX4_isPiece cX4_isPiece 1 (some .boolean), Cond.methodLink RX4 71 yX4_saveState, Cond.instanceMethod yX4_saveState, Cond.selects RX4 yX4_saveState yX4_saveState, Cond.code yX4_saveState cX4_saveState 1 none, Cond.fieldLink RX4 154 "CoverWays" "savedStates" "I", Cond.fieldLink RX4 19 "CoverWays" "saved" "[LCoverWays$State;", Cond.methodLink RX4 288 yX4_dropOldest, Cond.instanceMethod yX4_dropOldest, Cond.selects RX4 yX4_dropOldest yX4_dropOldest, Cond.code yX4_dropOldest cX4_dropOldest 3 none, Cond.methodLink RX4 148 yX4_copyState, Cond.static yX4_copyState, Cond.code yX4_copyState cX4_copyState 2 none, Cond.methodLink RX4 137 yX1_copyGraph]
def wsX4_bar_r2 : List Cond := [Cond.instanceMethod yX1_copyGraph, Cond.selects RX1 yX1_copyGraph yX1_copyGraph, Cond.initialized RX1, Cond.code yX1_copyGraph cX1_copyGraph 3 none, Cond.fieldLink RX1 9 "CoverWays$State" "covers" "[I", Cond.fieldLink RX1 15 "CoverWays$State" "marks" "[I", Cond.fieldLink RX1 18 "CoverWays$State" "joins" "[I", Cond.fieldLink RX1 21 "CoverWays$State" "bars" "[I", Cond.methodLink RX4 291 yX1_copySplitting, Cond.instanceMethod yX1_copySplitting, Cond.selects RX1 yX1_copySplitting yX1_copySplitting, Cond.code yX1_copySplitting cX1_copySplitting 3 none, Cond.fieldLink RX1 24 "CoverWays$State" "rests" "[I", Cond.fieldLink RX1 27 "CoverWays$State" "notedWeights" "[I", Cond.fieldLink RX1 30 "CoverWays$State" "notedMasks" "[I", Cond.fieldLink RX1 33 "CoverWays$State" "notedWays" "I", Cond.fieldLink RX1 37 "CoverWays$State" "steps" "I", Cond.fieldLink RX1 40 "CoverWays$State" "refusals" "I", Cond.methodLink RX4 77 yX1_beginAnew, Cond.instanceMethod yX1_beginAnew, Cond.selects RX1 yX1_beginAnew yX1_beginAnew, Cond.code yX1_beginAnew cX1_beginAnew 2 none, Cond.methodLink RX4 85 yX4_bit, Cond.static yX4_bit]
def wsX4_bar_r3 : List Cond := [Cond.code yX4_bit cX4_bit 2 (some .int)]
def wsX4_bar : List Cond := .code yX4_bar cX4_bar 3 (some .int) :: ((wsX4_bar_r1 ++ (wsX4_bar_r2 ++ wsX4_bar_r3)) ++ wsX40 ++ wsX10 ++ (vx_atS RX4 63 "java/lang/IndexOutOfBoundsException" ["java/lang/RuntimeException", "java/lang/Exception"]).filter goodWord ++ (vx_atS RX4 70 "java/lang/IllegalArgumentException" ["java/lang/RuntimeException", "java/lang/Exception"]).filter goodWord)
def wsX4_findHeaviest : List Cond := .code yX4_findHeaviest cX4_findHeaviest 6 (some .int) :: ([.fieldLink RX4 40 "CoverWays" "ways" "LCoverWays$Ways;", .fieldLink RX4 204 "CoverWays$Ways" "openWays" "I", .fieldLink RX4 231 "CoverWays$Ways" "open" "[I", .methodLink RX4 226 yX1_weightOf, .instanceMethod yX1_weightOf, .selects RX1 yX1_weightOf yX1_weightOf, .initialized RX1, .code yX1_weightOf cX1_weightOf 4 (some .int), .fieldLink RX1 24 "CoverWays$State" "rests" "[I", .static yX4_bit, .initialized RX4, .code yX4_bit cX4_bit 2 (some .int)] ++ wsX40 ++ wsX30 ++ wsX10)
def wsX4_takeHeaviest_r1 : List Cond := [Cond.fieldLink RX4 107 "CoverWays$State" "notedWays" "I", Cond.fieldLink RX4 216 "CoverWays$State" "refusals" "I", Cond.methodLink RX4 223 yX4_findHeaviest, Cond.instanceMethod yX4_findHeaviest, Cond.selects RX4 yX4_findHeaviest yX4_findHeaviest, Cond.initialized RX4, Cond.code yX4_findHeaviest cX4_findHeaviest 6 (some .int), Cond.fieldLink RX4 40 "CoverWays" "ways" "LCoverWays$Ways;", Cond.fieldLink RX4 204 "CoverWays$Ways" "openWays" "I", Cond.fieldLink RX4 231 "CoverWays$Ways" "open" "[I", Cond.methodLink RX4 226 yX1_weightOf, Cond.instanceMethod yX1_weightOf, Cond.selects RX1 yX1_weightOf yX1_weightOf, Cond.initialized RX1, Cond.code yX1_weightOf cX1_weightOf 4 (some .int), Cond.fieldLink RX1 24 "CoverWays$State" "rests" "[I", Cond.static yX4_bit, Cond.code yX4_bit cX4_bit 2 (some .int), Cond.methodLink RX4 294 yX1_takeWay, Cond.instanceMethod yX1_takeWay, Cond.selects RX1 yX1_takeWay yX1_takeWay, Cond.code yX1_takeWay cX1_takeWay 4 none, Cond.fieldLink RX1 33 "CoverWays$State" "notedWays" "I", Cond.fieldLink RX1 27 "CoverWays$State" "notedWeights" "[I"]
def wsX4_takeHeaviest_r2 : List Cond := [Cond.fieldLink RX1 30 "CoverWays$State" "notedMasks" "[I", Cond.fieldLink RX1 37 "CoverWays$State" "steps" "I"]
def wsX4_takeHeaviest : List Cond := .code yX4_takeHeaviest cX4_takeHeaviest 4 (some .int) :: ((wsX4_takeHeaviest_r1 ++ wsX4_takeHeaviest_r2) ++ wsX10 ++ wsX40 ++ wsX30)
def wsX4_step_r1 : List Cond := [Cond.fieldLink RX4 40 "CoverWays" "ways" "LCoverWays$Ways;", Cond.fieldLink RX4 12 "CoverWays" "now" "LCoverWays$State;", Cond.methodLink RX4 71 yX4_saveState, Cond.instanceMethod yX4_saveState, Cond.selects RX4 yX4_saveState yX4_saveState, Cond.initialized RX4, Cond.code yX4_saveState cX4_saveState 1 none, Cond.fieldLink RX4 154 "CoverWays" "savedStates" "I", Cond.fieldLink RX4 19 "CoverWays" "saved" "[LCoverWays$State;", Cond.methodLink RX4 288 yX4_dropOldest, Cond.instanceMethod yX4_dropOldest, Cond.selects RX4 yX4_dropOldest yX4_dropOldest, Cond.code yX4_dropOldest cX4_dropOldest 3 none, Cond.methodLink RX4 148 yX4_copyState, Cond.static yX4_copyState, Cond.code yX4_copyState cX4_copyState 2 none, Cond.methodLink RX4 137 yX1_copyGraph, Cond.instanceMethod yX1_copyGraph, Cond.selects RX1 yX1_copyGraph yX1_copyGraph, Cond.initialized RX1, Cond.code yX1_copyGraph cX1_copyGraph 3 none, Cond.fieldLink RX1 9 "CoverWays$State" "covers" "[I", Cond.fieldLink RX1 15 "CoverWays$State" "marks" "[I", Cond.fieldLink RX1 18 "CoverWays$State" "joins" "[I"]
def wsX4_step_r2 : List Cond := [Cond.fieldLink RX1 21 "CoverWays$State" "bars" "[I", Cond.methodLink RX4 291 yX1_copySplitting, Cond.instanceMethod yX1_copySplitting, Cond.selects RX1 yX1_copySplitting yX1_copySplitting, Cond.code yX1_copySplitting cX1_copySplitting 3 none, Cond.fieldLink RX1 24 "CoverWays$State" "rests" "[I", Cond.fieldLink RX1 27 "CoverWays$State" "notedWeights" "[I", Cond.fieldLink RX1 30 "CoverWays$State" "notedMasks" "[I", Cond.fieldLink RX1 33 "CoverWays$State" "notedWays" "I", Cond.fieldLink RX1 37 "CoverWays$State" "steps" "I", Cond.fieldLink RX1 40 "CoverWays$State" "refusals" "I", Cond.methodLink RX4 96 yX3_list, Cond.instanceMethod yX3_list, Cond.selects RX3 yX3_list yX3_list, Cond.initialized RX3, Cond.code yX3_list cX3_list 3 none, Cond.fieldLink RX3 21 "CoverWays$Ways" "listed" "LCoverWays$State;", Cond.fieldLink RX3 36 "CoverWays$Ways" "allWays" "I", Cond.fieldLink RX3 40 "CoverWays$State" "marks" "[I", Cond.methodLink RX3 28 yX3_isListed, Cond.instanceMethod yX3_isListed, Cond.selects RX3 yX3_isListed yX3_isListed, Cond.code yX3_isListed cX3_isListed 3 (some .boolean), Cond.fieldLink RX3 50 "CoverWays$State" "joins" "[I"]
def wsX4_step_r3 : List Cond := [Cond.fieldLink RX3 53 "CoverWays$State" "bars" "[I", Cond.methodLink RX3 32 yX1_copyGraph, Cond.methodLink RX3 43 yX3_walk, Cond.static yX3_walk, Cond.code yX3_walk cX3_walk 6 none, Cond.fieldLink RX3 9 "CoverWays$Ways" "all" "[I", Cond.static yX4_isPiece, Cond.code yX4_isPiece cX4_isPiece 1 (some .boolean), Cond.static yX4_bit, Cond.code yX4_bit cX4_bit 2 (some .int), Cond.methodLink RX3 47 yX3_pickOpen, Cond.instanceMethod yX3_pickOpen, Cond.selects RX3 yX3_pickOpen yX3_pickOpen, Cond.code yX3_pickOpen cX3_pickOpen 2 none, Cond.fieldLink RX3 64 "CoverWays$Ways" "openWays" "I", Cond.fieldLink RX3 15 "CoverWays$Ways" "open" "[I", Cond.methodLink RX3 67 yX1_isOpen, Cond.instanceMethod yX1_isOpen, Cond.selects RX1 yX1_isOpen yX1_isOpen, Cond.code yX1_isOpen cX1_isOpen 3 (some .boolean), Cond.methodLink RX4 100 yX4_takeHeaviest, Cond.instanceMethod yX4_takeHeaviest, Cond.selects RX4 yX4_takeHeaviest yX4_takeHeaviest, Cond.code yX4_takeHeaviest cX4_takeHeaviest 4 (some .int)]
def wsX4_step_r4 : List Cond := [Cond.fieldLink RX4 107 "CoverWays$State" "notedWays" "I", Cond.fieldLink RX4 216 "CoverWays$State" "refusals" "I", Cond.methodLink RX4 223 yX4_findHeaviest, Cond.instanceMethod yX4_findHeaviest, Cond.selects RX4 yX4_findHeaviest yX4_findHeaviest, Cond.code yX4_findHeaviest cX4_findHeaviest 6 (some .int), Cond.fieldLink RX4 204 "CoverWays$Ways" "openWays" "I", Cond.fieldLink RX4 231 "CoverWays$Ways" "open" "[I", Cond.methodLink RX4 226 yX1_weightOf, Cond.instanceMethod yX1_weightOf, Cond.selects RX1 yX1_weightOf yX1_weightOf, Cond.code yX1_weightOf cX1_weightOf 4 (some .int), Cond.methodLink RX4 294 yX1_takeWay, Cond.instanceMethod yX1_takeWay, Cond.selects RX1 yX1_takeWay yX1_takeWay, Cond.code yX1_takeWay cX1_takeWay 4 none]
def wsX4_step : List Cond := .code yX4_step cX4_step 1 (some .int) :: ((wsX4_step_r1 ++ (wsX4_step_r2 ++ (wsX4_step_r3 ++ wsX4_step_r4))) ++ wsX40 ++ wsX10 ++ wsX30)
def wsX4_takeAll_r1 : List Cond := [Cond.methodLink RX4 100 yX4_takeHeaviest, Cond.instanceMethod yX4_takeHeaviest, Cond.selects RX4 yX4_takeHeaviest yX4_takeHeaviest, Cond.initialized RX4, Cond.code yX4_takeHeaviest cX4_takeHeaviest 4 (some .int), Cond.fieldLink RX4 107 "CoverWays$State" "notedWays" "I", Cond.fieldLink RX4 216 "CoverWays$State" "refusals" "I", Cond.methodLink RX4 223 yX4_findHeaviest, Cond.instanceMethod yX4_findHeaviest, Cond.selects RX4 yX4_findHeaviest yX4_findHeaviest, Cond.code yX4_findHeaviest cX4_findHeaviest 6 (some .int), Cond.fieldLink RX4 40 "CoverWays" "ways" "LCoverWays$Ways;", Cond.fieldLink RX4 204 "CoverWays$Ways" "openWays" "I", Cond.fieldLink RX4 231 "CoverWays$Ways" "open" "[I", Cond.methodLink RX4 226 yX1_weightOf, Cond.instanceMethod yX1_weightOf, Cond.selects RX1 yX1_weightOf yX1_weightOf, Cond.initialized RX1, Cond.code yX1_weightOf cX1_weightOf 4 (some .int), Cond.fieldLink RX1 24 "CoverWays$State" "rests" "[I", Cond.static yX4_bit, Cond.code yX4_bit cX4_bit 2 (some .int), Cond.methodLink RX4 294 yX1_takeWay, Cond.instanceMethod yX1_takeWay]
def wsX4_takeAll_r2 : List Cond := [Cond.selects RX1 yX1_takeWay yX1_takeWay, Cond.code yX1_takeWay cX1_takeWay 4 none, Cond.fieldLink RX1 33 "CoverWays$State" "notedWays" "I", Cond.fieldLink RX1 27 "CoverWays$State" "notedWeights" "[I", Cond.fieldLink RX1 30 "CoverWays$State" "notedMasks" "[I", Cond.fieldLink RX1 37 "CoverWays$State" "steps" "I"]
def wsX4_takeAll : List Cond := .code yX4_takeAll cX4_takeAll 3 (some .int) :: ((wsX4_takeAll_r1 ++ wsX4_takeAll_r2) ++ wsX10 ++ wsX40 ++ wsX30)
def wsX4_split_r1 : List Cond := [Cond.fieldLink RX4 40 "CoverWays" "ways" "LCoverWays$Ways;", Cond.fieldLink RX4 12 "CoverWays" "now" "LCoverWays$State;", Cond.methodLink RX4 71 yX4_saveState, Cond.instanceMethod yX4_saveState, Cond.selects RX4 yX4_saveState yX4_saveState, Cond.initialized RX4, Cond.code yX4_saveState cX4_saveState 1 none, Cond.fieldLink RX4 154 "CoverWays" "savedStates" "I", Cond.fieldLink RX4 19 "CoverWays" "saved" "[LCoverWays$State;", Cond.methodLink RX4 288 yX4_dropOldest, Cond.instanceMethod yX4_dropOldest, Cond.selects RX4 yX4_dropOldest yX4_dropOldest, Cond.code yX4_dropOldest cX4_dropOldest 3 none, Cond.methodLink RX4 148 yX4_copyState, Cond.static yX4_copyState, Cond.code yX4_copyState cX4_copyState 2 none, Cond.methodLink RX4 137 yX1_copyGraph, Cond.instanceMethod yX1_copyGraph, Cond.selects RX1 yX1_copyGraph yX1_copyGraph, Cond.initialized RX1, Cond.code yX1_copyGraph cX1_copyGraph 3 none, Cond.fieldLink RX1 9 "CoverWays$State" "covers" "[I", Cond.fieldLink RX1 15 "CoverWays$State" "marks" "[I", Cond.fieldLink RX1 18 "CoverWays$State" "joins" "[I"]
def wsX4_split_r2 : List Cond := [Cond.fieldLink RX1 21 "CoverWays$State" "bars" "[I", Cond.methodLink RX4 291 yX1_copySplitting, Cond.instanceMethod yX1_copySplitting, Cond.selects RX1 yX1_copySplitting yX1_copySplitting, Cond.code yX1_copySplitting cX1_copySplitting 3 none, Cond.fieldLink RX1 24 "CoverWays$State" "rests" "[I", Cond.fieldLink RX1 27 "CoverWays$State" "notedWeights" "[I", Cond.fieldLink RX1 30 "CoverWays$State" "notedMasks" "[I", Cond.fieldLink RX1 33 "CoverWays$State" "notedWays" "I", Cond.fieldLink RX1 37 "CoverWays$State" "steps" "I", Cond.fieldLink RX1 40 "CoverWays$State" "refusals" "I", Cond.methodLink RX4 96 yX3_list, Cond.instanceMethod yX3_list, Cond.selects RX3 yX3_list yX3_list, Cond.initialized RX3, Cond.code yX3_list cX3_list 3 none, Cond.fieldLink RX3 21 "CoverWays$Ways" "listed" "LCoverWays$State;", Cond.fieldLink RX3 36 "CoverWays$Ways" "allWays" "I", Cond.fieldLink RX3 40 "CoverWays$State" "marks" "[I", Cond.methodLink RX3 28 yX3_isListed, Cond.instanceMethod yX3_isListed, Cond.selects RX3 yX3_isListed yX3_isListed, Cond.code yX3_isListed cX3_isListed 3 (some .boolean), Cond.fieldLink RX3 50 "CoverWays$State" "joins" "[I"]
def wsX4_split_r3 : List Cond := [Cond.fieldLink RX3 53 "CoverWays$State" "bars" "[I", Cond.methodLink RX3 32 yX1_copyGraph, Cond.methodLink RX3 43 yX3_walk, Cond.static yX3_walk, Cond.code yX3_walk cX3_walk 6 none, Cond.fieldLink RX3 9 "CoverWays$Ways" "all" "[I", Cond.static yX4_isPiece, Cond.code yX4_isPiece cX4_isPiece 1 (some .boolean), Cond.static yX4_bit, Cond.code yX4_bit cX4_bit 2 (some .int), Cond.methodLink RX3 47 yX3_pickOpen, Cond.instanceMethod yX3_pickOpen, Cond.selects RX3 yX3_pickOpen yX3_pickOpen, Cond.code yX3_pickOpen cX3_pickOpen 2 none, Cond.fieldLink RX3 64 "CoverWays$Ways" "openWays" "I", Cond.fieldLink RX3 15 "CoverWays$Ways" "open" "[I", Cond.methodLink RX3 67 yX1_isOpen, Cond.instanceMethod yX1_isOpen, Cond.selects RX1 yX1_isOpen yX1_isOpen, Cond.code yX1_isOpen cX1_isOpen 3 (some .boolean), Cond.methodLink RX4 104 yX4_takeAll, Cond.instanceMethod yX4_takeAll, Cond.selects RX4 yX4_takeAll yX4_takeAll, Cond.code yX4_takeAll cX4_takeAll 3 (some .int)]
def wsX4_split_r4 : List Cond := [Cond.methodLink RX4 100 yX4_takeHeaviest, Cond.instanceMethod yX4_takeHeaviest, Cond.selects RX4 yX4_takeHeaviest yX4_takeHeaviest, Cond.code yX4_takeHeaviest cX4_takeHeaviest 4 (some .int), Cond.fieldLink RX4 107 "CoverWays$State" "notedWays" "I", Cond.fieldLink RX4 216 "CoverWays$State" "refusals" "I", Cond.methodLink RX4 223 yX4_findHeaviest, Cond.instanceMethod yX4_findHeaviest, Cond.selects RX4 yX4_findHeaviest yX4_findHeaviest, Cond.code yX4_findHeaviest cX4_findHeaviest 6 (some .int), Cond.fieldLink RX4 204 "CoverWays$Ways" "openWays" "I", Cond.fieldLink RX4 231 "CoverWays$Ways" "open" "[I", Cond.methodLink RX4 226 yX1_weightOf, Cond.instanceMethod yX1_weightOf, Cond.selects RX1 yX1_weightOf yX1_weightOf, Cond.code yX1_weightOf cX1_weightOf 4 (some .int), Cond.methodLink RX4 294 yX1_takeWay, Cond.instanceMethod yX1_takeWay, Cond.selects RX1 yX1_takeWay yX1_takeWay, Cond.code yX1_takeWay cX1_takeWay 4 none]
def wsX4_split : List Cond := .code yX4_split cX4_split 1 (some .int) :: ((wsX4_split_r1 ++ (wsX4_split_r2 ++ (wsX4_split_r3 ++ wsX4_split_r4))) ++ wsX40 ++ wsX10 ++ wsX30)
def wsX4_begin_r1 : List Cond := [Cond.fieldLink RX4 12 "CoverWays" "now" "LCoverWays$State;", Cond.fieldLink RX4 107 "CoverWays$State" "notedWays" "I", Cond.methodLink RX4 71 yX4_saveState, Cond.instanceMethod yX4_saveState, Cond.selects RX4 yX4_saveState yX4_saveState, Cond.initialized RX4, Cond.code yX4_saveState cX4_saveState 1 none, Cond.fieldLink RX4 154 "CoverWays" "savedStates" "I", Cond.fieldLink RX4 19 "CoverWays" "saved" "[LCoverWays$State;", Cond.methodLink RX4 288 yX4_dropOldest, Cond.instanceMethod yX4_dropOldest, Cond.selects RX4 yX4_dropOldest yX4_dropOldest, Cond.code yX4_dropOldest cX4_dropOldest 3 none, Cond.methodLink RX4 148 yX4_copyState, Cond.static yX4_copyState, Cond.code yX4_copyState cX4_copyState 2 none, Cond.methodLink RX4 137 yX1_copyGraph, Cond.instanceMethod yX1_copyGraph, Cond.selects RX1 yX1_copyGraph yX1_copyGraph, Cond.initialized RX1, Cond.code yX1_copyGraph cX1_copyGraph 3 none, Cond.fieldLink RX1 9 "CoverWays$State" "covers" "[I", Cond.fieldLink RX1 15 "CoverWays$State" "marks" "[I", Cond.fieldLink RX1 18 "CoverWays$State" "joins" "[I"]
def wsX4_begin_r2 : List Cond := [Cond.fieldLink RX1 21 "CoverWays$State" "bars" "[I", Cond.methodLink RX4 291 yX1_copySplitting, Cond.instanceMethod yX1_copySplitting, Cond.selects RX1 yX1_copySplitting yX1_copySplitting, Cond.code yX1_copySplitting cX1_copySplitting 3 none, Cond.fieldLink RX1 24 "CoverWays$State" "rests" "[I", Cond.fieldLink RX1 27 "CoverWays$State" "notedWeights" "[I", Cond.fieldLink RX1 30 "CoverWays$State" "notedMasks" "[I", Cond.fieldLink RX1 33 "CoverWays$State" "notedWays" "I", Cond.fieldLink RX1 37 "CoverWays$State" "steps" "I", Cond.fieldLink RX1 40 "CoverWays$State" "refusals" "I", Cond.methodLink RX4 77 yX1_beginAnew, Cond.instanceMethod yX1_beginAnew, Cond.selects RX1 yX1_beginAnew yX1_beginAnew, Cond.code yX1_beginAnew cX1_beginAnew 2 none]
def wsX4_begin : List Cond := .code yX4_begin cX4_begin 2 (some .int) :: ((wsX4_begin_r1 ++ wsX4_begin_r2) ++ wsX40 ++ wsX10)
def wsX4_append : List Cond := .code yX4_append cX4_append 2 (some .int) :: ([.classLink RX4 66 "java/lang/IllegalArgumentException", .initialized "java/lang/IllegalArgumentException", .classLink RX4 116 "java/lang/IllegalStateException", .initialized "java/lang/IllegalStateException", .fieldLink RX4 33 "CoverWays" "text" "LCoverWays$Text;", .fieldLink RX4 113 "CoverWays$Text" "length" "I", .fieldLink RX4 121 "CoverWays$Text" "codes" "[I"] ++ wsX40 ++ wsX20 ++ (vx_atS RX4 70 "java/lang/IllegalArgumentException" ["java/lang/RuntimeException", "java/lang/Exception"]).filter goodWord ++ (vx_atS RX4 120 "java/lang/IllegalStateException" ["java/lang/RuntimeException", "java/lang/Exception"]).filter goodWord)
def wsX4_clearBuffer : List Cond := .code yX4_clearBuffer cX4_clearBuffer 2 (some .int) :: ([.fieldLink RX4 33 "CoverWays" "text" "LCoverWays$Text;", .fieldLink RX4 113 "CoverWays$Text" "length" "I"] ++ wsX40 ++ wsX20)
def wsX4_firstError_r1 : List Cond := [Cond.fieldLink RX4 33 "CoverWays" "text" "LCoverWays$Text;", Cond.methodLink RX4 124 yX2_read, Cond.instanceMethod yX2_read, Cond.selects RX2 yX2_read yX2_read, Cond.initialized RX2, Cond.code yX2_read cX2_read 2 (some .int), Cond.fieldLink RX2 18 "CoverWays$Text" "graph" "LCoverWays$State;", Cond.fieldLink RX2 25 "CoverWays$Text" "place" "I", Cond.fieldLink RX2 29 "CoverWays$Text" "length" "I", Cond.fieldLink RX2 9 "CoverWays$Text" "codes" "[I", Cond.methodLink RX2 22 yX1_clearGraph, Cond.instanceMethod yX1_clearGraph, Cond.selects RX1 yX1_clearGraph yX1_clearGraph, Cond.initialized RX1, Cond.code yX1_clearGraph cX1_clearGraph 2 none, Cond.fieldLink RX1 9 "CoverWays$State" "covers" "[I", Cond.fieldLink RX1 15 "CoverWays$State" "marks" "[I", Cond.fieldLink RX1 18 "CoverWays$State" "joins" "[I", Cond.fieldLink RX1 21 "CoverWays$State" "bars" "[I", Cond.methodLink RX2 32 yX2_takeCode, Cond.instanceMethod yX2_takeCode, Cond.selects RX2 yX2_takeCode yX2_takeCode, Cond.code yX2_takeCode cX2_takeCode 2 (some .boolean), Cond.fieldLink RX2 36 "CoverWays$Text" "kind" "I"]
def wsX4_firstError_r2 : List Cond := [Cond.fieldLink RX2 45 "CoverWays$State" "covers" "[I", Cond.fieldLink RX2 48 "CoverWays$Text" "first" "I", Cond.methodLink RX2 39 yX2_takeFirst, Cond.instanceMethod yX2_takeFirst, Cond.selects RX2 yX2_takeFirst yX2_takeFirst, Cond.code yX2_takeFirst cX2_takeFirst 2 (some .boolean), Cond.fieldLink RX2 64 "CoverWays$State" "marks" "[I", Cond.static yX4_isPiece, Cond.initialized RX4, Cond.code yX4_isPiece cX4_isPiece 1 (some .boolean), Cond.methodLink RX2 42 yX2_takeSecond, Cond.instanceMethod yX2_takeSecond, Cond.selects RX2 yX2_takeSecond yX2_takeSecond, Cond.code yX2_takeSecond cX2_takeSecond 2 (some .boolean), Cond.fieldLink RX2 67 "CoverWays$State" "joins" "[I", Cond.fieldLink RX2 70 "CoverWays$State" "bars" "[I", Cond.methodLink RX2 51 yX2_takeDigit, Cond.instanceMethod yX2_takeDigit, Cond.selects RX2 yX2_takeDigit yX2_takeDigit, Cond.code yX2_takeDigit cX2_takeDigit 2 (some .boolean), Cond.methodLink RX2 54 yX2_takeSeparator, Cond.instanceMethod yX2_takeSeparator, Cond.selects RX2 yX2_takeSeparator yX2_takeSeparator, Cond.code yX2_takeSeparator cX2_takeSeparator 2 (some .boolean)]
def wsX4_firstError_r3 : List Cond := [Cond.methodLink RX2 57 yX2_canGrow, Cond.instanceMethod yX2_canGrow, Cond.selects RX2 yX2_canGrow yX2_canGrow, Cond.code yX2_canGrow cX2_canGrow 2 (some .boolean)]
def wsX4_firstError : List Cond := .code yX4_firstError cX4_firstError 1 (some .int) :: ((wsX4_firstError_r1 ++ (wsX4_firstError_r2 ++ wsX4_firstError_r3)) ++ wsX40 ++ wsX20 ++ wsX10)
def wsX4_load_r1 : List Cond := [Cond.classLink RX4 66 "java/lang/IllegalArgumentException", Cond.initialized "java/lang/IllegalArgumentException", Cond.fieldLink RX4 33 "CoverWays" "text" "LCoverWays$Text;", Cond.fieldLink RX4 113 "CoverWays$Text" "length" "I", Cond.fieldLink RX4 12 "CoverWays" "now" "LCoverWays$State;", Cond.fieldLink RX4 134 "CoverWays$Text" "graph" "LCoverWays$State;", Cond.methodLink RX4 124 yX2_read, Cond.instanceMethod yX2_read, Cond.selects RX2 yX2_read yX2_read, Cond.initialized RX2, Cond.code yX2_read cX2_read 2 (some .int), Cond.fieldLink RX2 18 "CoverWays$Text" "graph" "LCoverWays$State;", Cond.fieldLink RX2 25 "CoverWays$Text" "place" "I", Cond.fieldLink RX2 29 "CoverWays$Text" "length" "I", Cond.fieldLink RX2 9 "CoverWays$Text" "codes" "[I", Cond.methodLink RX2 22 yX1_clearGraph, Cond.instanceMethod yX1_clearGraph, Cond.selects RX1 yX1_clearGraph yX1_clearGraph, Cond.initialized RX1, Cond.code yX1_clearGraph cX1_clearGraph 2 none, Cond.fieldLink RX1 9 "CoverWays$State" "covers" "[I", Cond.fieldLink RX1 15 "CoverWays$State" "marks" "[I", Cond.fieldLink RX1 18 "CoverWays$State" "joins" "[I", Cond.fieldLink RX1 21 "CoverWays$State" "bars" "[I"]
def wsX4_load_r2 : List Cond := [Cond.methodLink RX2 32 yX2_takeCode, Cond.instanceMethod yX2_takeCode, Cond.selects RX2 yX2_takeCode yX2_takeCode, Cond.code yX2_takeCode cX2_takeCode 2 (some .boolean), Cond.fieldLink RX2 36 "CoverWays$Text" "kind" "I", Cond.fieldLink RX2 45 "CoverWays$State" "covers" "[I", Cond.fieldLink RX2 48 "CoverWays$Text" "first" "I", Cond.methodLink RX2 39 yX2_takeFirst, Cond.instanceMethod yX2_takeFirst, Cond.selects RX2 yX2_takeFirst yX2_takeFirst, Cond.code yX2_takeFirst cX2_takeFirst 2 (some .boolean), Cond.fieldLink RX2 64 "CoverWays$State" "marks" "[I", Cond.static yX4_isPiece, Cond.initialized RX4, Cond.code yX4_isPiece cX4_isPiece 1 (some .boolean), Cond.methodLink RX2 42 yX2_takeSecond, Cond.instanceMethod yX2_takeSecond, Cond.selects RX2 yX2_takeSecond yX2_takeSecond, Cond.code yX2_takeSecond cX2_takeSecond 2 (some .boolean), Cond.fieldLink RX2 67 "CoverWays$State" "joins" "[I", Cond.fieldLink RX2 70 "CoverWays$State" "bars" "[I", Cond.methodLink RX2 51 yX2_takeDigit, Cond.instanceMethod yX2_takeDigit, Cond.selects RX2 yX2_takeDigit yX2_takeDigit]
def wsX4_load_r3 : List Cond := [Cond.code yX2_takeDigit cX2_takeDigit 2 (some .boolean), Cond.methodLink RX2 54 yX2_takeSeparator, Cond.instanceMethod yX2_takeSeparator, Cond.selects RX2 yX2_takeSeparator yX2_takeSeparator, Cond.code yX2_takeSeparator cX2_takeSeparator 2 (some .boolean), Cond.methodLink RX2 57 yX2_canGrow, Cond.instanceMethod yX2_canGrow, Cond.selects RX2 yX2_canGrow yX2_canGrow, Cond.code yX2_canGrow cX2_canGrow 2 (some .boolean), Cond.methodLink RX4 128 yX2_isWhole, Cond.instanceMethod yX2_isWhole, Cond.selects RX2 yX2_isWhole yX2_isWhole, Cond.code yX2_isWhole cX2_isWhole 1 (some .boolean), Cond.methodLink RX4 71 yX4_saveState, Cond.instanceMethod yX4_saveState, Cond.selects RX4 yX4_saveState yX4_saveState, Cond.code yX4_saveState cX4_saveState 1 none, Cond.fieldLink RX4 154 "CoverWays" "savedStates" "I", Cond.fieldLink RX4 19 "CoverWays" "saved" "[LCoverWays$State;", Cond.methodLink RX4 288 yX4_dropOldest, Cond.instanceMethod yX4_dropOldest, Cond.selects RX4 yX4_dropOldest yX4_dropOldest, Cond.code yX4_dropOldest cX4_dropOldest 3 none, Cond.methodLink RX4 148 yX4_copyState]
def wsX4_load_r4 : List Cond := [Cond.static yX4_copyState, Cond.code yX4_copyState cX4_copyState 2 none, Cond.methodLink RX4 137 yX1_copyGraph, Cond.instanceMethod yX1_copyGraph, Cond.selects RX1 yX1_copyGraph yX1_copyGraph, Cond.code yX1_copyGraph cX1_copyGraph 3 none, Cond.methodLink RX4 291 yX1_copySplitting, Cond.instanceMethod yX1_copySplitting, Cond.selects RX1 yX1_copySplitting yX1_copySplitting, Cond.code yX1_copySplitting cX1_copySplitting 3 none, Cond.fieldLink RX1 24 "CoverWays$State" "rests" "[I", Cond.fieldLink RX1 27 "CoverWays$State" "notedWeights" "[I", Cond.fieldLink RX1 30 "CoverWays$State" "notedMasks" "[I", Cond.fieldLink RX1 33 "CoverWays$State" "notedWays" "I", Cond.fieldLink RX1 37 "CoverWays$State" "steps" "I", Cond.fieldLink RX1 40 "CoverWays$State" "refusals" "I", Cond.methodLink RX4 77 yX1_beginAnew, Cond.instanceMethod yX1_beginAnew, Cond.selects RX1 yX1_beginAnew yX1_beginAnew, Cond.code yX1_beginAnew cX1_beginAnew 2 none, Cond.methodLink RX4 140 yX1_countJoins, Cond.instanceMethod yX1_countJoins, Cond.selects RX1 yX1_countJoins yX1_countJoins, Cond.code yX1_countJoins cX1_countJoins 3 (some .int)]
def wsX4_load_r5 : List Cond := [Cond.methodLink RX1 43 yJ6_bitCount_0f7a4, Cond.static yJ6_bitCount_0f7a4, Cond.initialized RJ6, Cond.code yJ6_bitCount_0f7a4 cJ6_bitCount_0f7a4 1 (some .int), Cond.constant RJ6 265 (1431655765), Cond.constant RJ6 266 (858993459), Cond.constant RJ6 267 (252645135)]
def wsX4_load : List Cond := .code yX4_load cX4_load 1 (some .int) :: ((wsX4_load_r1 ++ (wsX4_load_r2 ++ (wsX4_load_r3 ++ (wsX4_load_r4 ++ wsX4_load_r5)))) ++ wsX40 ++ wsX20 ++ wsX10 ++ (vx_atS RX4 70 "java/lang/IllegalArgumentException" ["java/lang/RuntimeException", "java/lang/Exception"]).filter goodWord)
def wsX4_isSlot : List Cond := .code yX4_isSlot cX4_isSlot 1 (some .boolean) :: ([])
def wsX4_keep_r1 : List Cond := [Cond.classLink RX4 66 "java/lang/IllegalArgumentException", Cond.initialized "java/lang/IllegalArgumentException", Cond.fieldLink RX4 12 "CoverWays" "now" "LCoverWays$State;", Cond.fieldLink RX4 23 "CoverWays" "snapshots" "[LCoverWays$State;", Cond.fieldLink RX4 26 "CoverWays" "isKept" "[Z", Cond.methodLink RX4 143 yX4_isSlot, Cond.static yX4_isSlot, Cond.initialized RX4, Cond.code yX4_isSlot cX4_isSlot 1 (some .boolean), Cond.methodLink RX4 148 yX4_copyState, Cond.static yX4_copyState, Cond.code yX4_copyState cX4_copyState 2 none, Cond.methodLink RX4 137 yX1_copyGraph, Cond.instanceMethod yX1_copyGraph, Cond.selects RX1 yX1_copyGraph yX1_copyGraph, Cond.initialized RX1, Cond.code yX1_copyGraph cX1_copyGraph 3 none, Cond.fieldLink RX1 9 "CoverWays$State" "covers" "[I", Cond.fieldLink RX1 15 "CoverWays$State" "marks" "[I", Cond.fieldLink RX1 18 "CoverWays$State" "joins" "[I", Cond.fieldLink RX1 21 "CoverWays$State" "bars" "[I", Cond.methodLink RX4 291 yX1_copySplitting, Cond.instanceMethod yX1_copySplitting, Cond.selects RX1 yX1_copySplitting yX1_copySplitting]
def wsX4_keep_r2 : List Cond := [Cond.code yX1_copySplitting cX1_copySplitting 3 none, Cond.fieldLink RX1 24 "CoverWays$State" "rests" "[I", Cond.fieldLink RX1 27 "CoverWays$State" "notedWeights" "[I", Cond.fieldLink RX1 30 "CoverWays$State" "notedMasks" "[I", Cond.fieldLink RX1 33 "CoverWays$State" "notedWays" "I", Cond.fieldLink RX1 37 "CoverWays$State" "steps" "I", Cond.fieldLink RX1 40 "CoverWays$State" "refusals" "I", Cond.methodLink RX4 140 yX1_countJoins, Cond.instanceMethod yX1_countJoins, Cond.selects RX1 yX1_countJoins yX1_countJoins, Cond.code yX1_countJoins cX1_countJoins 3 (some .int), Cond.methodLink RX1 43 yJ6_bitCount_0f7a4, Cond.static yJ6_bitCount_0f7a4, Cond.initialized RJ6, Cond.code yJ6_bitCount_0f7a4 cJ6_bitCount_0f7a4 1 (some .int), Cond.constant RJ6 265 (1431655765), Cond.constant RJ6 266 (858993459), Cond.constant RJ6 267 (252645135)]
def wsX4_keep : List Cond := .code yX4_keep cX4_keep 2 (some .int) :: ((wsX4_keep_r1 ++ wsX4_keep_r2) ++ wsX40 ++ wsX10 ++ (vx_atS RX4 70 "java/lang/IllegalArgumentException" ["java/lang/RuntimeException", "java/lang/Exception"]).filter goodWord)
def wsX4_goBack_r1 : List Cond := [Cond.classLink RX4 66 "java/lang/IllegalArgumentException", Cond.initialized "java/lang/IllegalArgumentException", Cond.classLink RX4 116 "java/lang/IllegalStateException", Cond.initialized "java/lang/IllegalStateException", Cond.fieldLink RX4 26 "CoverWays" "isKept" "[Z", Cond.fieldLink RX4 23 "CoverWays" "snapshots" "[LCoverWays$State;", Cond.fieldLink RX4 12 "CoverWays" "now" "LCoverWays$State;", Cond.methodLink RX4 143 yX4_isSlot, Cond.static yX4_isSlot, Cond.initialized RX4, Cond.code yX4_isSlot cX4_isSlot 1 (some .boolean), Cond.methodLink RX4 71 yX4_saveState, Cond.instanceMethod yX4_saveState, Cond.selects RX4 yX4_saveState yX4_saveState, Cond.code yX4_saveState cX4_saveState 1 none, Cond.fieldLink RX4 154 "CoverWays" "savedStates" "I", Cond.fieldLink RX4 19 "CoverWays" "saved" "[LCoverWays$State;", Cond.methodLink RX4 288 yX4_dropOldest, Cond.instanceMethod yX4_dropOldest, Cond.selects RX4 yX4_dropOldest yX4_dropOldest, Cond.code yX4_dropOldest cX4_dropOldest 3 none, Cond.methodLink RX4 148 yX4_copyState, Cond.static yX4_copyState, Cond.code yX4_copyState cX4_copyState 2 none]
def wsX4_goBack_r2 : List Cond := [Cond.methodLink RX4 137 yX1_copyGraph, Cond.instanceMethod yX1_copyGraph, Cond.selects RX1 yX1_copyGraph yX1_copyGraph, Cond.initialized RX1, Cond.code yX1_copyGraph cX1_copyGraph 3 none, Cond.fieldLink RX1 9 "CoverWays$State" "covers" "[I", Cond.fieldLink RX1 15 "CoverWays$State" "marks" "[I", Cond.fieldLink RX1 18 "CoverWays$State" "joins" "[I", Cond.fieldLink RX1 21 "CoverWays$State" "bars" "[I", Cond.methodLink RX4 291 yX1_copySplitting, Cond.instanceMethod yX1_copySplitting, Cond.selects RX1 yX1_copySplitting yX1_copySplitting, Cond.code yX1_copySplitting cX1_copySplitting 3 none, Cond.fieldLink RX1 24 "CoverWays$State" "rests" "[I", Cond.fieldLink RX1 27 "CoverWays$State" "notedWeights" "[I", Cond.fieldLink RX1 30 "CoverWays$State" "notedMasks" "[I", Cond.fieldLink RX1 33 "CoverWays$State" "notedWays" "I", Cond.fieldLink RX1 37 "CoverWays$State" "steps" "I", Cond.fieldLink RX1 40 "CoverWays$State" "refusals" "I", Cond.methodLink RX4 140 yX1_countJoins, Cond.instanceMethod yX1_countJoins, Cond.selects RX1 yX1_countJoins yX1_countJoins, Cond.code yX1_countJoins cX1_countJoins 3 (some .int), Cond.methodLink RX1 43 yJ6_bitCount_0f7a4]
def wsX4_goBack_r3 : List Cond := [Cond.static yJ6_bitCount_0f7a4, Cond.initialized RJ6, Cond.code yJ6_bitCount_0f7a4 cJ6_bitCount_0f7a4 1 (some .int), Cond.constant RJ6 265 (1431655765), Cond.constant RJ6 266 (858993459), Cond.constant RJ6 267 (252645135)]
def wsX4_goBack : List Cond := .code yX4_goBack cX4_goBack 2 (some .int) :: ((wsX4_goBack_r1 ++ (wsX4_goBack_r2 ++ wsX4_goBack_r3)) ++ wsX40 ++ wsX10 ++ (vx_atS RX4 70 "java/lang/IllegalArgumentException" ["java/lang/RuntimeException", "java/lang/Exception"]).filter goodWord ++ (vx_atS RX4 120 "java/lang/IllegalStateException" ["java/lang/RuntimeException", "java/lang/Exception"]).filter goodWord)
def wsX4_undo_r1 : List Cond := [Cond.classLink RX4 116 "java/lang/IllegalStateException", Cond.initialized "java/lang/IllegalStateException", Cond.fieldLink RX4 154 "CoverWays" "savedStates" "I", Cond.fieldLink RX4 19 "CoverWays" "saved" "[LCoverWays$State;", Cond.fieldLink RX4 12 "CoverWays" "now" "LCoverWays$State;", Cond.methodLink RX4 148 yX4_copyState, Cond.static yX4_copyState, Cond.initialized RX4, Cond.code yX4_copyState cX4_copyState 2 none, Cond.methodLink RX4 137 yX1_copyGraph, Cond.instanceMethod yX1_copyGraph, Cond.selects RX1 yX1_copyGraph yX1_copyGraph, Cond.initialized RX1, Cond.code yX1_copyGraph cX1_copyGraph 3 none, Cond.fieldLink RX1 9 "CoverWays$State" "covers" "[I", Cond.fieldLink RX1 15 "CoverWays$State" "marks" "[I", Cond.fieldLink RX1 18 "CoverWays$State" "joins" "[I", Cond.fieldLink RX1 21 "CoverWays$State" "bars" "[I", Cond.methodLink RX4 291 yX1_copySplitting, Cond.instanceMethod yX1_copySplitting, Cond.selects RX1 yX1_copySplitting yX1_copySplitting, Cond.code yX1_copySplitting cX1_copySplitting 3 none, Cond.fieldLink RX1 24 "CoverWays$State" "rests" "[I", Cond.fieldLink RX1 27 "CoverWays$State" "notedWeights" "[I"]
def wsX4_undo_r2 : List Cond := [Cond.fieldLink RX1 30 "CoverWays$State" "notedMasks" "[I", Cond.fieldLink RX1 33 "CoverWays$State" "notedWays" "I", Cond.fieldLink RX1 37 "CoverWays$State" "steps" "I", Cond.fieldLink RX1 40 "CoverWays$State" "refusals" "I"]
def wsX4_undo : List Cond := .code yX4_undo cX4_undo 1 (some .int) :: ((wsX4_undo_r1 ++ wsX4_undo_r2) ++ wsX40 ++ wsX10 ++ (vx_atS RX4 120 "java/lang/IllegalStateException" ["java/lang/RuntimeException", "java/lang/Exception"]).filter goodWord)
def wsX4_countWith : List Cond := .code yX4_countWith cX4_countWith 5 (some .int) :: ([.methodLink RX4 85 yX4_bit, .static yX4_bit, .initialized RX4, .code yX4_bit cX4_bit 2 (some .int)])
def wsX4_pieceOf_r1 : List Cond := [Cond.classLink RX4 59 "java/lang/IndexOutOfBoundsException", Cond.initialized "java/lang/IndexOutOfBoundsException", Cond.classLink RX4 66 "java/lang/IllegalArgumentException", Cond.initialized "java/lang/IllegalArgumentException", Cond.fieldLink RX4 12 "CoverWays" "now" "LCoverWays$State;", Cond.fieldLink RX4 74 "CoverWays$State" "covers" "[I", Cond.fieldLink RX4 159 "CoverWays$State" "rests" "[I", Cond.fieldLink RX4 51 "CoverWays$State" "marks" "[I", Cond.fieldLink RX4 82 "CoverWays$State" "joins" "[I", Cond.fieldLink RX4 47 "CoverWays" "rows" "LCoverWays$Rows;", Cond.fieldLink RX4 174 "CoverWays$Rows" "behind" "[I", Cond.fieldLink RX4 40 "CoverWays" "ways" "LCoverWays$Ways;", Cond.fieldLink RX4 177 "CoverWays$Ways" "all" "[I", Cond.fieldLink RX4 180 "CoverWays$Ways" "allWays" "I", Cond.fieldLink RX4 93 "CoverWays$State" "bars" "[I", Cond.methodLink RX4 55 yX4_isPiece, Cond.static yX4_isPiece, Cond.initialized RX4, Cond.code yX4_isPiece cX4_isPiece 1 (some .boolean), Cond.methodLink RX4 162 yX1_countJoinsTo, Cond.instanceMethod yX1_countJoinsTo, Cond.selects RX1 yX1_countJoinsTo yX1_countJoinsTo, Cond.initialized RX1, Cond.code yX1_countJoinsTo cX1_countJoinsTo 4 (some .int)]
def wsX4_pieceOf_r2 : List Cond := [Cond.fieldLink RX1 18 "CoverWays$State" "joins" "[I", Cond.static yX4_bit, Cond.code yX4_bit cX4_bit 2 (some .int), Cond.methodLink RX4 166 yJ6_bitCount_0f7a4, Cond.static yJ6_bitCount_0f7a4, Cond.initialized RJ6, Cond.code yJ6_bitCount_0f7a4 cJ6_bitCount_0f7a4 1 (some .int), Cond.constant RJ6 265 (1431655765), Cond.constant RJ6 266 (858993459), Cond.constant RJ6 267 (252645135), Cond.methodLink RX4 171 yX0_findBehind, Cond.instanceMethod yX0_findBehind, Cond.selects RX0 yX0_findBehind yX0_findBehind, Cond.initialized RX0, Cond.code yX0_findBehind cX0_findBehind 4 none, Cond.fieldLink RX0 9 "CoverWays$Rows" "behind" "[I", Cond.fieldLink RX0 18 "CoverWays$State" "joins" "[I", Cond.methodLink RX4 96 yX3_list, Cond.instanceMethod yX3_list, Cond.selects RX3 yX3_list yX3_list, Cond.initialized RX3, Cond.code yX3_list cX3_list 3 none, Cond.fieldLink RX3 21 "CoverWays$Ways" "listed" "LCoverWays$State;", Cond.fieldLink RX3 36 "CoverWays$Ways" "allWays" "I"]
def wsX4_pieceOf_r3 : List Cond := [Cond.fieldLink RX3 40 "CoverWays$State" "marks" "[I", Cond.methodLink RX3 28 yX3_isListed, Cond.instanceMethod yX3_isListed, Cond.selects RX3 yX3_isListed yX3_isListed, Cond.code yX3_isListed cX3_isListed 3 (some .boolean), Cond.fieldLink RX3 50 "CoverWays$State" "joins" "[I", Cond.fieldLink RX3 53 "CoverWays$State" "bars" "[I", Cond.methodLink RX3 32 yX1_copyGraph, Cond.instanceMethod yX1_copyGraph, Cond.selects RX1 yX1_copyGraph yX1_copyGraph, Cond.code yX1_copyGraph cX1_copyGraph 3 none, Cond.fieldLink RX1 9 "CoverWays$State" "covers" "[I", Cond.fieldLink RX1 15 "CoverWays$State" "marks" "[I", Cond.fieldLink RX1 21 "CoverWays$State" "bars" "[I", Cond.methodLink RX3 43 yX3_walk, Cond.static yX3_walk, Cond.code yX3_walk cX3_walk 6 none, Cond.fieldLink RX3 9 "CoverWays$Ways" "all" "[I", Cond.methodLink RX3 47 yX3_pickOpen, Cond.instanceMethod yX3_pickOpen, Cond.selects RX3 yX3_pickOpen yX3_pickOpen, Cond.code yX3_pickOpen cX3_pickOpen 2 none, Cond.fieldLink RX3 64 "CoverWays$Ways" "openWays" "I", Cond.fieldLink RX3 15 "CoverWays$Ways" "open" "[I"]
def wsX4_pieceOf_r4 : List Cond := [Cond.methodLink RX3 67 yX1_isOpen, Cond.instanceMethod yX1_isOpen, Cond.selects RX1 yX1_isOpen yX1_isOpen, Cond.code yX1_isOpen cX1_isOpen 3 (some .boolean), Cond.methodLink RX4 183 yX4_countWith, Cond.static yX4_countWith, Cond.code yX4_countWith cX4_countWith 5 (some .int), Cond.methodLink RX4 85 yX4_bit]
def wsX4_pieceOf : List Cond := .code yX4_pieceOf cX4_pieceOf 3 (some .int) :: ((wsX4_pieceOf_r1 ++ (wsX4_pieceOf_r2 ++ (wsX4_pieceOf_r3 ++ wsX4_pieceOf_r4))) ++ wsX40 ++ wsX10 ++ wsX00 ++ wsX30 ++ (vx_atS RX4 63 "java/lang/IndexOutOfBoundsException" ["java/lang/RuntimeException", "java/lang/Exception"]).filter goodWord ++ (vx_atS RX4 70 "java/lang/IllegalArgumentException" ["java/lang/RuntimeException", "java/lang/Exception"]).filter goodWord)
def wsX4_isJoined : List Cond := .code yX4_isJoined cX4_isJoined 3 (some .int) :: ([.classLink RX4 59 "java/lang/IndexOutOfBoundsException", .initialized "java/lang/IndexOutOfBoundsException", .fieldLink RX4 12 "CoverWays" "now" "LCoverWays$State;", .fieldLink RX4 82 "CoverWays$State" "joins" "[I", .methodLink RX4 55 yX4_isPiece, .static yX4_isPiece, .initialized RX4, .code yX4_isPiece cX4_isPiece 1 (some .boolean), .methodLink RX4 85 yX4_bit, .static yX4_bit, .code yX4_bit cX4_bit 2 (some .int)] ++ wsX40 ++ wsX10 ++ (vx_atS RX4 63 "java/lang/IndexOutOfBoundsException" ["java/lang/RuntimeException", "java/lang/Exception"]).filter goodWord)
def wsX4_noted : List Cond := .code yX4_noted cX4_noted 3 (some .int) :: ([.classLink RX4 66 "java/lang/IllegalArgumentException", .initialized "java/lang/IllegalArgumentException", .fieldLink RX4 12 "CoverWays" "now" "LCoverWays$State;", .fieldLink RX4 107 "CoverWays$State" "notedWays" "I", .fieldLink RX4 191 "CoverWays$State" "notedWeights" "[I", .fieldLink RX4 194 "CoverWays$State" "notedMasks" "[I", .methodLink RX4 166 yJ6_bitCount_0f7a4, .static yJ6_bitCount_0f7a4, .initialized RJ6, .code yJ6_bitCount_0f7a4 cJ6_bitCount_0f7a4 1 (some .int), .constant RJ6 265 (1431655765), .constant RJ6 266 (858993459), .constant RJ6 267 (252645135)] ++ wsX40 ++ wsX10 ++ (vx_atS RX4 70 "java/lang/IllegalArgumentException" ["java/lang/RuntimeException", "java/lang/Exception"]).filter goodWord)
def wsX4_sum : List Cond := .code yX4_sum cX4_sum 6 (some .int) :: ([])
def wsX4_count_r1 : List Cond := [Cond.classLink RX4 66 "java/lang/IllegalArgumentException", Cond.initialized "java/lang/IllegalArgumentException", Cond.fieldLink RX4 12 "CoverWays" "now" "LCoverWays$State;", Cond.fieldLink RX4 74 "CoverWays$State" "covers" "[I", Cond.fieldLink RX4 159 "CoverWays$State" "rests" "[I", Cond.fieldLink RX4 107 "CoverWays$State" "notedWays" "I", Cond.fieldLink RX4 40 "CoverWays" "ways" "LCoverWays$Ways;", Cond.fieldLink RX4 180 "CoverWays$Ways" "allWays" "I", Cond.fieldLink RX4 204 "CoverWays$Ways" "openWays" "I", Cond.fieldLink RX4 47 "CoverWays" "rows" "LCoverWays$Rows;", Cond.fieldLink RX4 213 "CoverWays$State" "steps" "I", Cond.fieldLink RX4 216 "CoverWays$State" "refusals" "I", Cond.fieldLink RX4 154 "CoverWays" "savedStates" "I", Cond.methodLink RX4 140 yX1_countJoins, Cond.instanceMethod yX1_countJoins, Cond.selects RX1 yX1_countJoins yX1_countJoins, Cond.initialized RX1, Cond.code yX1_countJoins cX1_countJoins 3 (some .int), Cond.fieldLink RX1 18 "CoverWays$State" "joins" "[I", Cond.methodLink RX1 43 yJ6_bitCount_0f7a4, Cond.static yJ6_bitCount_0f7a4, Cond.initialized RJ6, Cond.code yJ6_bitCount_0f7a4 cJ6_bitCount_0f7a4 1 (some .int), Cond.constant RJ6 265 (1431655765)]
def wsX4_count_r2 : List Cond := [Cond.constant RJ6 266 (858993459), Cond.constant RJ6 267 (252645135), Cond.methodLink RX4 197 yX4_sum, Cond.static yX4_sum, Cond.initialized RX4, Cond.code yX4_sum cX4_sum 6 (some .int), Cond.methodLink RX4 201 yX3_addUp, Cond.instanceMethod yX3_addUp, Cond.selects RX3 yX3_addUp yX3_addUp, Cond.initialized RX3, Cond.code yX3_addUp cX3_addUp 5 (some .int), Cond.fieldLink RX3 25 "CoverWays$Ways" "waysFrom" "[I", Cond.fieldLink RX3 40 "CoverWays$State" "marks" "[I", Cond.fieldLink RX3 50 "CoverWays$State" "joins" "[I", Cond.static yX4_bit, Cond.code yX4_bit cX4_bit 2 (some .int), Cond.methodLink RX4 96 yX3_list, Cond.instanceMethod yX3_list, Cond.selects RX3 yX3_list yX3_list, Cond.code yX3_list cX3_list 3 none, Cond.fieldLink RX3 21 "CoverWays$Ways" "listed" "LCoverWays$State;", Cond.fieldLink RX3 36 "CoverWays$Ways" "allWays" "I", Cond.methodLink RX3 28 yX3_isListed, Cond.instanceMethod yX3_isListed]
def wsX4_count_r3 : List Cond := [Cond.selects RX3 yX3_isListed yX3_isListed, Cond.code yX3_isListed cX3_isListed 3 (some .boolean), Cond.fieldLink RX3 53 "CoverWays$State" "bars" "[I", Cond.methodLink RX3 32 yX1_copyGraph, Cond.instanceMethod yX1_copyGraph, Cond.selects RX1 yX1_copyGraph yX1_copyGraph, Cond.code yX1_copyGraph cX1_copyGraph 3 none, Cond.fieldLink RX1 9 "CoverWays$State" "covers" "[I", Cond.fieldLink RX1 15 "CoverWays$State" "marks" "[I", Cond.fieldLink RX1 21 "CoverWays$State" "bars" "[I", Cond.methodLink RX3 43 yX3_walk, Cond.static yX3_walk, Cond.code yX3_walk cX3_walk 6 none, Cond.fieldLink RX3 9 "CoverWays$Ways" "all" "[I", Cond.static yX4_isPiece, Cond.code yX4_isPiece cX4_isPiece 1 (some .boolean), Cond.methodLink RX3 47 yX3_pickOpen, Cond.instanceMethod yX3_pickOpen, Cond.selects RX3 yX3_pickOpen yX3_pickOpen, Cond.code yX3_pickOpen cX3_pickOpen 2 none, Cond.fieldLink RX3 64 "CoverWays$Ways" "openWays" "I", Cond.fieldLink RX3 15 "CoverWays$Ways" "open" "[I", Cond.methodLink RX3 67 yX1_isOpen, Cond.instanceMethod yX1_isOpen]
def wsX4_count_r4 : List Cond := [Cond.selects RX1 yX1_isOpen yX1_isOpen, Cond.code yX1_isOpen cX1_isOpen 3 (some .boolean), Cond.methodLink RX4 171 yX0_findBehind, Cond.instanceMethod yX0_findBehind, Cond.selects RX0 yX0_findBehind yX0_findBehind, Cond.initialized RX0, Cond.code yX0_findBehind cX0_findBehind 4 none, Cond.fieldLink RX0 9 "CoverWays$Rows" "behind" "[I", Cond.fieldLink RX0 18 "CoverWays$State" "joins" "[I", Cond.methodLink RX4 207 yX0_countByPairing, Cond.instanceMethod yX0_countByPairing, Cond.selects RX0 yX0_countByPairing yX0_countByPairing, Cond.code yX0_countByPairing cX0_countByPairing 3 (some .int), Cond.fieldLink RX0 15 "CoverWays$Rows" "aheadOf" "[I", Cond.fieldLink RX0 27 "CoverWays$Rows" "tried" "I", Cond.methodLink RX0 31 yX0_findPartner, Cond.static yX0_findPartner, Cond.code yX0_findPartner cX0_findPartner 5 (some .boolean), Cond.methodLink RX4 210 yX0_countBySets, Cond.instanceMethod yX0_countBySets, Cond.selects RX0 yX0_countBySets yX0_countBySets, Cond.code yX0_countBySets cX0_countBySets 4 (some .int), Cond.methodLink RX0 39 yJ6_bitCount_0f7a4, Cond.methodLink RX0 45 yX0_hasNoneBehind]
def wsX4_count_r5 : List Cond := [Cond.instanceMethod yX0_hasNoneBehind, Cond.selects RX0 yX0_hasNoneBehind yX0_hasNoneBehind, Cond.code yX0_hasNoneBehind cX0_hasNoneBehind 3 (some .boolean)]
def wsX4_count : List Cond := .code yX4_count cX4_count 2 (some .int) :: ((wsX4_count_r1 ++ (wsX4_count_r2 ++ (wsX4_count_r3 ++ (wsX4_count_r4 ++ wsX4_count_r5)))) ++ wsX40 ++ wsX10 ++ wsX30 ++ wsX00 ++ (vx_atS RX4 70 "java/lang/IllegalArgumentException" ["java/lang/RuntimeException", "java/lang/Exception"]).filter goodWord)
def wsX4_heaviest_r1 : List Cond := [Cond.classLink RX4 66 "java/lang/IllegalArgumentException", Cond.initialized "java/lang/IllegalArgumentException", Cond.fieldLink RX4 40 "CoverWays" "ways" "LCoverWays$Ways;", Cond.fieldLink RX4 12 "CoverWays" "now" "LCoverWays$State;", Cond.methodLink RX4 96 yX3_list, Cond.instanceMethod yX3_list, Cond.selects RX3 yX3_list yX3_list, Cond.initialized RX3, Cond.code yX3_list cX3_list 3 none, Cond.fieldLink RX3 21 "CoverWays$Ways" "listed" "LCoverWays$State;", Cond.fieldLink RX3 36 "CoverWays$Ways" "allWays" "I", Cond.fieldLink RX3 40 "CoverWays$State" "marks" "[I", Cond.methodLink RX3 28 yX3_isListed, Cond.instanceMethod yX3_isListed, Cond.selects RX3 yX3_isListed yX3_isListed, Cond.code yX3_isListed cX3_isListed 3 (some .boolean), Cond.fieldLink RX3 50 "CoverWays$State" "joins" "[I", Cond.fieldLink RX3 53 "CoverWays$State" "bars" "[I", Cond.methodLink RX3 32 yX1_copyGraph, Cond.instanceMethod yX1_copyGraph, Cond.selects RX1 yX1_copyGraph yX1_copyGraph, Cond.initialized RX1, Cond.code yX1_copyGraph cX1_copyGraph 3 none, Cond.fieldLink RX1 9 "CoverWays$State" "covers" "[I"]
def wsX4_heaviest_r2 : List Cond := [Cond.fieldLink RX1 15 "CoverWays$State" "marks" "[I", Cond.fieldLink RX1 18 "CoverWays$State" "joins" "[I", Cond.fieldLink RX1 21 "CoverWays$State" "bars" "[I", Cond.methodLink RX3 43 yX3_walk, Cond.static yX3_walk, Cond.code yX3_walk cX3_walk 6 none, Cond.fieldLink RX3 9 "CoverWays$Ways" "all" "[I", Cond.static yX4_isPiece, Cond.initialized RX4, Cond.code yX4_isPiece cX4_isPiece 1 (some .boolean), Cond.static yX4_bit, Cond.code yX4_bit cX4_bit 2 (some .int), Cond.methodLink RX3 47 yX3_pickOpen, Cond.instanceMethod yX3_pickOpen, Cond.selects RX3 yX3_pickOpen yX3_pickOpen, Cond.code yX3_pickOpen cX3_pickOpen 2 none, Cond.fieldLink RX3 64 "CoverWays$Ways" "openWays" "I", Cond.fieldLink RX3 15 "CoverWays$Ways" "open" "[I", Cond.methodLink RX3 67 yX1_isOpen, Cond.instanceMethod yX1_isOpen, Cond.selects RX1 yX1_isOpen yX1_isOpen, Cond.code yX1_isOpen cX1_isOpen 3 (some .boolean), Cond.methodLink RX4 223 yX4_findHeaviest, Cond.instanceMethod yX4_findHeaviest]
def wsX4_heaviest_r3 : List Cond := [Cond.selects RX4 yX4_findHeaviest yX4_findHeaviest, Cond.code yX4_findHeaviest cX4_findHeaviest 6 (some .int), Cond.fieldLink RX4 204 "CoverWays$Ways" "openWays" "I", Cond.fieldLink RX4 231 "CoverWays$Ways" "open" "[I", Cond.methodLink RX4 226 yX1_weightOf, Cond.instanceMethod yX1_weightOf, Cond.selects RX1 yX1_weightOf yX1_weightOf, Cond.code yX1_weightOf cX1_weightOf 4 (some .int), Cond.fieldLink RX1 24 "CoverWays$State" "rests" "[I"]
def wsX4_heaviest : List Cond := .code yX4_heaviest cX4_heaviest 3 (some .int) :: ((wsX4_heaviest_r1 ++ (wsX4_heaviest_r2 ++ wsX4_heaviest_r3)) ++ wsX40 ++ wsX30 ++ wsX10 ++ (vx_atS RX4 70 "java/lang/IllegalArgumentException" ["java/lang/RuntimeException", "java/lang/Exception"]).filter goodWord)
def wsX4_openWay_r1 : List Cond := [Cond.classLink RX4 66 "java/lang/IllegalArgumentException", Cond.initialized "java/lang/IllegalArgumentException", Cond.fieldLink RX4 40 "CoverWays" "ways" "LCoverWays$Ways;", Cond.fieldLink RX4 12 "CoverWays" "now" "LCoverWays$State;", Cond.fieldLink RX4 204 "CoverWays$Ways" "openWays" "I", Cond.fieldLink RX4 231 "CoverWays$Ways" "open" "[I", Cond.methodLink RX4 96 yX3_list, Cond.instanceMethod yX3_list, Cond.selects RX3 yX3_list yX3_list, Cond.initialized RX3, Cond.code yX3_list cX3_list 3 none, Cond.fieldLink RX3 21 "CoverWays$Ways" "listed" "LCoverWays$State;", Cond.fieldLink RX3 36 "CoverWays$Ways" "allWays" "I", Cond.fieldLink RX3 40 "CoverWays$State" "marks" "[I", Cond.methodLink RX3 28 yX3_isListed, Cond.instanceMethod yX3_isListed, Cond.selects RX3 yX3_isListed yX3_isListed, Cond.code yX3_isListed cX3_isListed 3 (some .boolean), Cond.fieldLink RX3 50 "CoverWays$State" "joins" "[I", Cond.fieldLink RX3 53 "CoverWays$State" "bars" "[I", Cond.methodLink RX3 32 yX1_copyGraph, Cond.instanceMethod yX1_copyGraph, Cond.selects RX1 yX1_copyGraph yX1_copyGraph, Cond.initialized RX1]
def wsX4_openWay_r2 : List Cond := [Cond.code yX1_copyGraph cX1_copyGraph 3 none, Cond.fieldLink RX1 9 "CoverWays$State" "covers" "[I", Cond.fieldLink RX1 15 "CoverWays$State" "marks" "[I", Cond.fieldLink RX1 18 "CoverWays$State" "joins" "[I", Cond.fieldLink RX1 21 "CoverWays$State" "bars" "[I", Cond.methodLink RX3 43 yX3_walk, Cond.static yX3_walk, Cond.code yX3_walk cX3_walk 6 none, Cond.fieldLink RX3 9 "CoverWays$Ways" "all" "[I", Cond.static yX4_isPiece, Cond.initialized RX4, Cond.code yX4_isPiece cX4_isPiece 1 (some .boolean), Cond.static yX4_bit, Cond.code yX4_bit cX4_bit 2 (some .int), Cond.methodLink RX3 47 yX3_pickOpen, Cond.instanceMethod yX3_pickOpen, Cond.selects RX3 yX3_pickOpen yX3_pickOpen, Cond.code yX3_pickOpen cX3_pickOpen 2 none, Cond.fieldLink RX3 64 "CoverWays$Ways" "openWays" "I", Cond.fieldLink RX3 15 "CoverWays$Ways" "open" "[I", Cond.methodLink RX3 67 yX1_isOpen, Cond.instanceMethod yX1_isOpen, Cond.selects RX1 yX1_isOpen yX1_isOpen, Cond.code yX1_isOpen cX1_isOpen 3 (some .boolean)]
def wsX4_openWay : List Cond := .code yX4_openWay cX4_openWay 2 (some .int) :: ((wsX4_openWay_r1 ++ wsX4_openWay_r2) ++ wsX40 ++ wsX30 ++ wsX10 ++ (vx_atS RX4 70 "java/lang/IllegalArgumentException" ["java/lang/RuntimeException", "java/lang/Exception"]).filter goodWord)
def wsX4_ifSplit_r1 : List Cond := [Cond.fieldLink RX4 12 "CoverWays" "now" "LCoverWays$State;", Cond.fieldLink RX4 16 "CoverWays" "trial" "LCoverWays$State;", Cond.fieldLink RX4 40 "CoverWays" "ways" "LCoverWays$Ways;", Cond.fieldLink RX4 159 "CoverWays$State" "rests" "[I", Cond.methodLink RX4 148 yX4_copyState, Cond.static yX4_copyState, Cond.initialized RX4, Cond.code yX4_copyState cX4_copyState 2 none, Cond.methodLink RX4 137 yX1_copyGraph, Cond.instanceMethod yX1_copyGraph, Cond.selects RX1 yX1_copyGraph yX1_copyGraph, Cond.initialized RX1, Cond.code yX1_copyGraph cX1_copyGraph 3 none, Cond.fieldLink RX1 9 "CoverWays$State" "covers" "[I", Cond.fieldLink RX1 15 "CoverWays$State" "marks" "[I", Cond.fieldLink RX1 18 "CoverWays$State" "joins" "[I", Cond.fieldLink RX1 21 "CoverWays$State" "bars" "[I", Cond.methodLink RX4 291 yX1_copySplitting, Cond.instanceMethod yX1_copySplitting, Cond.selects RX1 yX1_copySplitting yX1_copySplitting, Cond.code yX1_copySplitting cX1_copySplitting 3 none, Cond.fieldLink RX1 24 "CoverWays$State" "rests" "[I", Cond.fieldLink RX1 27 "CoverWays$State" "notedWeights" "[I", Cond.fieldLink RX1 30 "CoverWays$State" "notedMasks" "[I"]
def wsX4_ifSplit_r2 : List Cond := [Cond.fieldLink RX1 33 "CoverWays$State" "notedWays" "I", Cond.fieldLink RX1 37 "CoverWays$State" "steps" "I", Cond.fieldLink RX1 40 "CoverWays$State" "refusals" "I", Cond.methodLink RX4 96 yX3_list, Cond.instanceMethod yX3_list, Cond.selects RX3 yX3_list yX3_list, Cond.initialized RX3, Cond.code yX3_list cX3_list 3 none, Cond.fieldLink RX3 21 "CoverWays$Ways" "listed" "LCoverWays$State;", Cond.fieldLink RX3 36 "CoverWays$Ways" "allWays" "I", Cond.fieldLink RX3 40 "CoverWays$State" "marks" "[I", Cond.methodLink RX3 28 yX3_isListed, Cond.instanceMethod yX3_isListed, Cond.selects RX3 yX3_isListed yX3_isListed, Cond.code yX3_isListed cX3_isListed 3 (some .boolean), Cond.fieldLink RX3 50 "CoverWays$State" "joins" "[I", Cond.fieldLink RX3 53 "CoverWays$State" "bars" "[I", Cond.methodLink RX3 32 yX1_copyGraph, Cond.methodLink RX3 43 yX3_walk, Cond.static yX3_walk, Cond.code yX3_walk cX3_walk 6 none, Cond.fieldLink RX3 9 "CoverWays$Ways" "all" "[I", Cond.static yX4_isPiece, Cond.code yX4_isPiece cX4_isPiece 1 (some .boolean)]
def wsX4_ifSplit_r3 : List Cond := [Cond.static yX4_bit, Cond.code yX4_bit cX4_bit 2 (some .int), Cond.methodLink RX3 47 yX3_pickOpen, Cond.instanceMethod yX3_pickOpen, Cond.selects RX3 yX3_pickOpen yX3_pickOpen, Cond.code yX3_pickOpen cX3_pickOpen 2 none, Cond.fieldLink RX3 64 "CoverWays$Ways" "openWays" "I", Cond.fieldLink RX3 15 "CoverWays$Ways" "open" "[I", Cond.methodLink RX3 67 yX1_isOpen, Cond.instanceMethod yX1_isOpen, Cond.selects RX1 yX1_isOpen yX1_isOpen, Cond.code yX1_isOpen cX1_isOpen 3 (some .boolean), Cond.methodLink RX4 104 yX4_takeAll, Cond.instanceMethod yX4_takeAll, Cond.selects RX4 yX4_takeAll yX4_takeAll, Cond.code yX4_takeAll cX4_takeAll 3 (some .int), Cond.methodLink RX4 100 yX4_takeHeaviest, Cond.instanceMethod yX4_takeHeaviest, Cond.selects RX4 yX4_takeHeaviest yX4_takeHeaviest, Cond.code yX4_takeHeaviest cX4_takeHeaviest 4 (some .int), Cond.fieldLink RX4 107 "CoverWays$State" "notedWays" "I", Cond.fieldLink RX4 216 "CoverWays$State" "refusals" "I", Cond.methodLink RX4 223 yX4_findHeaviest, Cond.instanceMethod yX4_findHeaviest]
def wsX4_ifSplit_r4 : List Cond := [Cond.selects RX4 yX4_findHeaviest yX4_findHeaviest, Cond.code yX4_findHeaviest cX4_findHeaviest 6 (some .int), Cond.fieldLink RX4 204 "CoverWays$Ways" "openWays" "I", Cond.fieldLink RX4 231 "CoverWays$Ways" "open" "[I", Cond.methodLink RX4 226 yX1_weightOf, Cond.instanceMethod yX1_weightOf, Cond.selects RX1 yX1_weightOf yX1_weightOf, Cond.code yX1_weightOf cX1_weightOf 4 (some .int), Cond.methodLink RX4 294 yX1_takeWay, Cond.instanceMethod yX1_takeWay, Cond.selects RX1 yX1_takeWay yX1_takeWay, Cond.code yX1_takeWay cX1_takeWay 4 none, Cond.methodLink RX4 197 yX4_sum, Cond.static yX4_sum, Cond.code yX4_sum cX4_sum 6 (some .int)]
def wsX4_ifSplit : List Cond := .code yX4_ifSplit cX4_ifSplit 1 (some .int) :: ((wsX4_ifSplit_r1 ++ (wsX4_ifSplit_r2 ++ (wsX4_ifSplit_r3 ++ wsX4_ifSplit_r4))) ++ wsX40 ++ wsX10 ++ wsX30)
def wsX4_mainPiece_r1 : List Cond := [Cond.fieldLink RX4 40 "CoverWays" "ways" "LCoverWays$Ways;", Cond.fieldLink RX4 12 "CoverWays" "now" "LCoverWays$State;", Cond.fieldLink RX4 231 "CoverWays$Ways" "open" "[I", Cond.fieldLink RX4 204 "CoverWays$Ways" "openWays" "I", Cond.methodLink RX4 96 yX3_list, Cond.instanceMethod yX3_list, Cond.selects RX3 yX3_list yX3_list, Cond.initialized RX3, Cond.code yX3_list cX3_list 3 none, Cond.fieldLink RX3 21 "CoverWays$Ways" "listed" "LCoverWays$State;", Cond.fieldLink RX3 36 "CoverWays$Ways" "allWays" "I", Cond.fieldLink RX3 40 "CoverWays$State" "marks" "[I", Cond.methodLink RX3 28 yX3_isListed, Cond.instanceMethod yX3_isListed, Cond.selects RX3 yX3_isListed yX3_isListed, Cond.code yX3_isListed cX3_isListed 3 (some .boolean), Cond.fieldLink RX3 50 "CoverWays$State" "joins" "[I", Cond.fieldLink RX3 53 "CoverWays$State" "bars" "[I", Cond.methodLink RX3 32 yX1_copyGraph, Cond.instanceMethod yX1_copyGraph, Cond.selects RX1 yX1_copyGraph yX1_copyGraph, Cond.initialized RX1, Cond.code yX1_copyGraph cX1_copyGraph 3 none, Cond.fieldLink RX1 9 "CoverWays$State" "covers" "[I"]
def wsX4_mainPiece_r2 : List Cond := [Cond.fieldLink RX1 15 "CoverWays$State" "marks" "[I", Cond.fieldLink RX1 18 "CoverWays$State" "joins" "[I", Cond.fieldLink RX1 21 "CoverWays$State" "bars" "[I", Cond.methodLink RX3 43 yX3_walk, Cond.static yX3_walk, Cond.code yX3_walk cX3_walk 6 none, Cond.fieldLink RX3 9 "CoverWays$Ways" "all" "[I", Cond.static yX4_isPiece, Cond.initialized RX4, Cond.code yX4_isPiece cX4_isPiece 1 (some .boolean), Cond.static yX4_bit, Cond.code yX4_bit cX4_bit 2 (some .int), Cond.methodLink RX3 47 yX3_pickOpen, Cond.instanceMethod yX3_pickOpen, Cond.selects RX3 yX3_pickOpen yX3_pickOpen, Cond.code yX3_pickOpen cX3_pickOpen 2 none, Cond.fieldLink RX3 64 "CoverWays$Ways" "openWays" "I", Cond.fieldLink RX3 15 "CoverWays$Ways" "open" "[I", Cond.methodLink RX3 67 yX1_isOpen, Cond.instanceMethod yX1_isOpen, Cond.selects RX1 yX1_isOpen yX1_isOpen, Cond.code yX1_isOpen cX1_isOpen 3 (some .boolean), Cond.methodLink RX4 183 yX4_countWith, Cond.static yX4_countWith]
def wsX4_mainPiece_r3 : List Cond := [Cond.code yX4_countWith cX4_countWith 5 (some .int), Cond.methodLink RX4 85 yX4_bit]
def wsX4_mainPiece : List Cond := .code yX4_mainPiece cX4_mainPiece 5 (some .int) :: ((wsX4_mainPiece_r1 ++ (wsX4_mainPiece_r2 ++ wsX4_mainPiece_r3)) ++ wsX40 ++ wsX30 ++ wsX10)
def wsX4_explained : List Cond := .code yX4_explained cX4_explained 2 (some .double) :: ([.fieldLink RX4 12 "CoverWays" "now" "LCoverWays$State;", .fieldLink RX4 74 "CoverWays$State" "covers" "[I", .fieldLink RX4 159 "CoverWays$State" "rests" "[I", .methodLink RX4 197 yX4_sum, .static yX4_sum, .initialized RX4, .code yX4_sum cX4_sum 6 (some .int)] ++ wsX40 ++ wsX10)
def wsX4_mix : List Cond := .code yX4_mix cX4_mix 4 (some .long) :: ([.constantLong RX4 280 (31)])
def wsX4_mixPiece_r1 : List Cond := [Cond.methodLink RX4 274 yX4_pieceOf, Cond.instanceMethod yX4_pieceOf, Cond.selects RX4 yX4_pieceOf yX4_pieceOf, Cond.initialized RX4, Cond.code yX4_pieceOf cX4_pieceOf 3 (some .int), Cond.classLink RX4 59 "java/lang/IndexOutOfBoundsException", Cond.initialized "java/lang/IndexOutOfBoundsException", Cond.classLink RX4 66 "java/lang/IllegalArgumentException", Cond.initialized "java/lang/IllegalArgumentException", Cond.fieldLink RX4 12 "CoverWays" "now" "LCoverWays$State;", Cond.fieldLink RX4 74 "CoverWays$State" "covers" "[I", Cond.fieldLink RX4 159 "CoverWays$State" "rests" "[I", Cond.fieldLink RX4 51 "CoverWays$State" "marks" "[I", Cond.fieldLink RX4 82 "CoverWays$State" "joins" "[I", Cond.fieldLink RX4 47 "CoverWays" "rows" "LCoverWays$Rows;", Cond.fieldLink RX4 174 "CoverWays$Rows" "behind" "[I", Cond.fieldLink RX4 40 "CoverWays" "ways" "LCoverWays$Ways;", Cond.fieldLink RX4 177 "CoverWays$Ways" "all" "[I", Cond.fieldLink RX4 180 "CoverWays$Ways" "allWays" "I", Cond.fieldLink RX4 93 "CoverWays$State" "bars" "[I", Cond.methodLink RX4 55 yX4_isPiece, Cond.static yX4_isPiece, Cond.code yX4_isPiece cX4_isPiece 1 (some .boolean), Cond.methodLink RX4 162 yX1_countJoinsTo]
def wsX4_mixPiece_r2 : List Cond := [Cond.instanceMethod yX1_countJoinsTo, Cond.selects RX1 yX1_countJoinsTo yX1_countJoinsTo, Cond.initialized RX1, Cond.code yX1_countJoinsTo cX1_countJoinsTo 4 (some .int), Cond.fieldLink RX1 18 "CoverWays$State" "joins" "[I", Cond.static yX4_bit, Cond.code yX4_bit cX4_bit 2 (some .int), Cond.methodLink RX4 166 yJ6_bitCount_0f7a4, Cond.static yJ6_bitCount_0f7a4, Cond.initialized RJ6, Cond.code yJ6_bitCount_0f7a4 cJ6_bitCount_0f7a4 1 (some .int), Cond.constant RJ6 265 (1431655765), Cond.constant RJ6 266 (858993459), Cond.constant RJ6 267 (252645135), Cond.methodLink RX4 171 yX0_findBehind, Cond.instanceMethod yX0_findBehind, Cond.selects RX0 yX0_findBehind yX0_findBehind, Cond.initialized RX0, Cond.code yX0_findBehind cX0_findBehind 4 none, Cond.fieldLink RX0 9 "CoverWays$Rows" "behind" "[I", Cond.fieldLink RX0 18 "CoverWays$State" "joins" "[I", Cond.methodLink RX4 96 yX3_list, Cond.instanceMethod yX3_list, Cond.selects RX3 yX3_list yX3_list]
def wsX4_mixPiece_r3 : List Cond := [Cond.initialized RX3, Cond.code yX3_list cX3_list 3 none, Cond.fieldLink RX3 21 "CoverWays$Ways" "listed" "LCoverWays$State;", Cond.fieldLink RX3 36 "CoverWays$Ways" "allWays" "I", Cond.fieldLink RX3 40 "CoverWays$State" "marks" "[I", Cond.methodLink RX3 28 yX3_isListed, Cond.instanceMethod yX3_isListed, Cond.selects RX3 yX3_isListed yX3_isListed, Cond.code yX3_isListed cX3_isListed 3 (some .boolean), Cond.fieldLink RX3 50 "CoverWays$State" "joins" "[I", Cond.fieldLink RX3 53 "CoverWays$State" "bars" "[I", Cond.methodLink RX3 32 yX1_copyGraph, Cond.instanceMethod yX1_copyGraph, Cond.selects RX1 yX1_copyGraph yX1_copyGraph, Cond.code yX1_copyGraph cX1_copyGraph 3 none, Cond.fieldLink RX1 9 "CoverWays$State" "covers" "[I", Cond.fieldLink RX1 15 "CoverWays$State" "marks" "[I", Cond.fieldLink RX1 21 "CoverWays$State" "bars" "[I", Cond.methodLink RX3 43 yX3_walk, Cond.static yX3_walk, Cond.code yX3_walk cX3_walk 6 none, Cond.fieldLink RX3 9 "CoverWays$Ways" "all" "[I", Cond.methodLink RX3 47 yX3_pickOpen, Cond.instanceMethod yX3_pickOpen]
def wsX4_mixPiece_r4 : List Cond := [Cond.selects RX3 yX3_pickOpen yX3_pickOpen, Cond.code yX3_pickOpen cX3_pickOpen 2 none, Cond.fieldLink RX3 64 "CoverWays$Ways" "openWays" "I", Cond.fieldLink RX3 15 "CoverWays$Ways" "open" "[I", Cond.methodLink RX3 67 yX1_isOpen, Cond.instanceMethod yX1_isOpen, Cond.selects RX1 yX1_isOpen yX1_isOpen, Cond.code yX1_isOpen cX1_isOpen 3 (some .boolean), Cond.methodLink RX4 183 yX4_countWith, Cond.static yX4_countWith, Cond.code yX4_countWith cX4_countWith 5 (some .int), Cond.methodLink RX4 85 yX4_bit, Cond.methodLink RX4 239 yX4_mix, Cond.static yX4_mix, Cond.code yX4_mix cX4_mix 4 (some .long), Cond.constantLong RX4 280 (31), Cond.methodLink RX4 277 yX4_isJoined, Cond.instanceMethod yX4_isJoined, Cond.selects RX4 yX4_isJoined yX4_isJoined, Cond.code yX4_isJoined cX4_isJoined 3 (some .int)]
def wsX4_mixPiece : List Cond := .code yX4_mixPiece cX4_mixPiece 7 (some .long) :: ((wsX4_mixPiece_r1 ++ (wsX4_mixPiece_r2 ++ (wsX4_mixPiece_r3 ++ wsX4_mixPiece_r4))) ++ wsX40 ++ wsX10 ++ wsX00 ++ wsX30 ++ (vx_atS RX4 63 "java/lang/IndexOutOfBoundsException" ["java/lang/RuntimeException", "java/lang/Exception"]).filter goodWord ++ (vx_atS RX4 70 "java/lang/IllegalArgumentException" ["java/lang/RuntimeException", "java/lang/Exception"]).filter goodWord)
def wsX4_bitsOf : List Cond := .code yX4_bitsOf cX4_bitsOf 8 (some .long) :: ([.constantLong RX4 282 (1023), .constantDouble RX4 284 (4611686018427387904), .constantDouble RX4 286 (4841369599423283200)])
def wsX4_mixBuffer : List Cond := .code yX4_mixBuffer cX4_mixBuffer 6 (some .long) :: ([.fieldLink RX4 33 "CoverWays" "text" "LCoverWays$Text;", .fieldLink RX4 113 "CoverWays$Text" "length" "I", .fieldLink RX4 121 "CoverWays$Text" "codes" "[I", .methodLink RX4 239 yX4_mix, .static yX4_mix, .initialized RX4, .code yX4_mix cX4_mix 4 (some .long), .constantLong RX4 280 (31)] ++ wsX40 ++ wsX20)
def wsX4_digest_r1 : List Cond := [Cond.constantLong RX4 234 (3617), Cond.fieldLink RX4 12 "CoverWays" "now" "LCoverWays$State;", Cond.fieldLink RX4 107 "CoverWays$State" "notedWays" "I", Cond.fieldLink RX4 26 "CoverWays" "isKept" "[Z", Cond.methodLink RX4 236 yX4_count, Cond.instanceMethod yX4_count, Cond.selects RX4 yX4_count yX4_count, Cond.initialized RX4, Cond.code yX4_count cX4_count 2 (some .int), Cond.classLink RX4 66 "java/lang/IllegalArgumentException", Cond.initialized "java/lang/IllegalArgumentException", Cond.fieldLink RX4 74 "CoverWays$State" "covers" "[I", Cond.fieldLink RX4 159 "CoverWays$State" "rests" "[I", Cond.fieldLink RX4 40 "CoverWays" "ways" "LCoverWays$Ways;", Cond.fieldLink RX4 180 "CoverWays$Ways" "allWays" "I", Cond.fieldLink RX4 204 "CoverWays$Ways" "openWays" "I", Cond.fieldLink RX4 47 "CoverWays" "rows" "LCoverWays$Rows;", Cond.fieldLink RX4 213 "CoverWays$State" "steps" "I", Cond.fieldLink RX4 216 "CoverWays$State" "refusals" "I", Cond.fieldLink RX4 154 "CoverWays" "savedStates" "I", Cond.methodLink RX4 140 yX1_countJoins, Cond.instanceMethod yX1_countJoins, Cond.selects RX1 yX1_countJoins yX1_countJoins, Cond.initialized RX1]
def wsX4_digest_r2 : List Cond := [Cond.code yX1_countJoins cX1_countJoins 3 (some .int), Cond.fieldLink RX1 18 "CoverWays$State" "joins" "[I", Cond.methodLink RX1 43 yJ6_bitCount_0f7a4, Cond.static yJ6_bitCount_0f7a4, Cond.initialized RJ6, Cond.code yJ6_bitCount_0f7a4 cJ6_bitCount_0f7a4 1 (some .int), Cond.constant RJ6 265 (1431655765), Cond.constant RJ6 266 (858993459), Cond.constant RJ6 267 (252645135), Cond.methodLink RX4 197 yX4_sum, Cond.static yX4_sum, Cond.code yX4_sum cX4_sum 6 (some .int), Cond.methodLink RX4 201 yX3_addUp, Cond.instanceMethod yX3_addUp, Cond.selects RX3 yX3_addUp yX3_addUp, Cond.initialized RX3, Cond.code yX3_addUp cX3_addUp 5 (some .int), Cond.fieldLink RX3 25 "CoverWays$Ways" "waysFrom" "[I", Cond.fieldLink RX3 40 "CoverWays$State" "marks" "[I", Cond.fieldLink RX3 50 "CoverWays$State" "joins" "[I", Cond.static yX4_bit, Cond.code yX4_bit cX4_bit 2 (some .int), Cond.methodLink RX4 96 yX3_list, Cond.instanceMethod yX3_list]
def wsX4_digest_r3 : List Cond := [Cond.selects RX3 yX3_list yX3_list, Cond.code yX3_list cX3_list 3 none, Cond.fieldLink RX3 21 "CoverWays$Ways" "listed" "LCoverWays$State;", Cond.fieldLink RX3 36 "CoverWays$Ways" "allWays" "I", Cond.methodLink RX3 28 yX3_isListed, Cond.instanceMethod yX3_isListed, Cond.selects RX3 yX3_isListed yX3_isListed, Cond.code yX3_isListed cX3_isListed 3 (some .boolean), Cond.fieldLink RX3 53 "CoverWays$State" "bars" "[I", Cond.methodLink RX3 32 yX1_copyGraph, Cond.instanceMethod yX1_copyGraph, Cond.selects RX1 yX1_copyGraph yX1_copyGraph, Cond.code yX1_copyGraph cX1_copyGraph 3 none, Cond.fieldLink RX1 9 "CoverWays$State" "covers" "[I", Cond.fieldLink RX1 15 "CoverWays$State" "marks" "[I", Cond.fieldLink RX1 21 "CoverWays$State" "bars" "[I", Cond.methodLink RX3 43 yX3_walk, Cond.static yX3_walk, Cond.code yX3_walk cX3_walk 6 none, Cond.fieldLink RX3 9 "CoverWays$Ways" "all" "[I", Cond.static yX4_isPiece, Cond.code yX4_isPiece cX4_isPiece 1 (some .boolean), Cond.methodLink RX3 47 yX3_pickOpen, Cond.instanceMethod yX3_pickOpen]
def wsX4_digest_r4 : List Cond := [Cond.selects RX3 yX3_pickOpen yX3_pickOpen, Cond.code yX3_pickOpen cX3_pickOpen 2 none, Cond.fieldLink RX3 64 "CoverWays$Ways" "openWays" "I", Cond.fieldLink RX3 15 "CoverWays$Ways" "open" "[I", Cond.methodLink RX3 67 yX1_isOpen, Cond.instanceMethod yX1_isOpen, Cond.selects RX1 yX1_isOpen yX1_isOpen, Cond.code yX1_isOpen cX1_isOpen 3 (some .boolean), Cond.methodLink RX4 171 yX0_findBehind, Cond.instanceMethod yX0_findBehind, Cond.selects RX0 yX0_findBehind yX0_findBehind, Cond.initialized RX0, Cond.code yX0_findBehind cX0_findBehind 4 none, Cond.fieldLink RX0 9 "CoverWays$Rows" "behind" "[I", Cond.fieldLink RX0 18 "CoverWays$State" "joins" "[I", Cond.methodLink RX4 207 yX0_countByPairing, Cond.instanceMethod yX0_countByPairing, Cond.selects RX0 yX0_countByPairing yX0_countByPairing, Cond.code yX0_countByPairing cX0_countByPairing 3 (some .int), Cond.fieldLink RX0 15 "CoverWays$Rows" "aheadOf" "[I", Cond.fieldLink RX0 27 "CoverWays$Rows" "tried" "I", Cond.methodLink RX0 31 yX0_findPartner, Cond.static yX0_findPartner, Cond.code yX0_findPartner cX0_findPartner 5 (some .boolean)]
def wsX4_digest_r5 : List Cond := [Cond.methodLink RX4 210 yX0_countBySets, Cond.instanceMethod yX0_countBySets, Cond.selects RX0 yX0_countBySets yX0_countBySets, Cond.code yX0_countBySets cX0_countBySets 4 (some .int), Cond.methodLink RX0 39 yJ6_bitCount_0f7a4, Cond.methodLink RX0 45 yX0_hasNoneBehind, Cond.instanceMethod yX0_hasNoneBehind, Cond.selects RX0 yX0_hasNoneBehind yX0_hasNoneBehind, Cond.code yX0_hasNoneBehind cX0_hasNoneBehind 3 (some .boolean), Cond.methodLink RX4 239 yX4_mix, Cond.static yX4_mix, Cond.code yX4_mix cX4_mix 4 (some .long), Cond.constantLong RX4 280 (31), Cond.methodLink RX4 243 yX4_mixPiece, Cond.instanceMethod yX4_mixPiece, Cond.selects RX4 yX4_mixPiece yX4_mixPiece, Cond.code yX4_mixPiece cX4_mixPiece 7 (some .long), Cond.methodLink RX4 274 yX4_pieceOf, Cond.instanceMethod yX4_pieceOf, Cond.selects RX4 yX4_pieceOf yX4_pieceOf, Cond.code yX4_pieceOf cX4_pieceOf 3 (some .int), Cond.classLink RX4 59 "java/lang/IndexOutOfBoundsException", Cond.initialized "java/lang/IndexOutOfBoundsException", Cond.fieldLink RX4 51 "CoverWays$State" "marks" "[I"]
def wsX4_digest_r6 : List Cond := [Cond.fieldLink RX4 82 "CoverWays$State" "joins" "[I", Cond.fieldLink RX4 174 "CoverWays$Rows" "behind" "[I", Cond.fieldLink RX4 177 "CoverWays$Ways" "all" "[I", Cond.fieldLink RX4 93 "CoverWays$State" "bars" "[I", Cond.methodLink RX4 55 yX4_isPiece, Cond.methodLink RX4 162 yX1_countJoinsTo, Cond.instanceMethod yX1_countJoinsTo, Cond.selects RX1 yX1_countJoinsTo yX1_countJoinsTo, Cond.code yX1_countJoinsTo cX1_countJoinsTo 4 (some .int), Cond.methodLink RX4 166 yJ6_bitCount_0f7a4, Cond.methodLink RX4 183 yX4_countWith, Cond.static yX4_countWith, Cond.code yX4_countWith cX4_countWith 5 (some .int), Cond.methodLink RX4 85 yX4_bit, Cond.methodLink RX4 277 yX4_isJoined, Cond.instanceMethod yX4_isJoined, Cond.selects RX4 yX4_isJoined yX4_isJoined, Cond.code yX4_isJoined cX4_isJoined 3 (some .int), Cond.methodLink RX4 247 yX4_noted, Cond.instanceMethod yX4_noted, Cond.selects RX4 yX4_noted yX4_noted, Cond.code yX4_noted cX4_noted 3 (some .int), Cond.fieldLink RX4 191 "CoverWays$State" "notedWeights" "[I", Cond.fieldLink RX4 194 "CoverWays$State" "notedMasks" "[I"]
def wsX4_digest_r7 : List Cond := [Cond.methodLink RX4 250 yX4_heaviest, Cond.instanceMethod yX4_heaviest, Cond.selects RX4 yX4_heaviest yX4_heaviest, Cond.code yX4_heaviest cX4_heaviest 3 (some .int), Cond.methodLink RX4 223 yX4_findHeaviest, Cond.instanceMethod yX4_findHeaviest, Cond.selects RX4 yX4_findHeaviest yX4_findHeaviest, Cond.code yX4_findHeaviest cX4_findHeaviest 6 (some .int), Cond.fieldLink RX4 231 "CoverWays$Ways" "open" "[I", Cond.methodLink RX4 226 yX1_weightOf, Cond.instanceMethod yX1_weightOf, Cond.selects RX1 yX1_weightOf yX1_weightOf, Cond.code yX1_weightOf cX1_weightOf 4 (some .int), Cond.fieldLink RX1 24 "CoverWays$State" "rests" "[I", Cond.methodLink RX4 253 yX4_openWay, Cond.instanceMethod yX4_openWay, Cond.selects RX4 yX4_openWay yX4_openWay, Cond.code yX4_openWay cX4_openWay 2 (some .int), Cond.methodLink RX4 256 yX4_ifSplit, Cond.instanceMethod yX4_ifSplit, Cond.selects RX4 yX4_ifSplit yX4_ifSplit, Cond.code yX4_ifSplit cX4_ifSplit 1 (some .int), Cond.fieldLink RX4 16 "CoverWays" "trial" "LCoverWays$State;", Cond.methodLink RX4 148 yX4_copyState]
def wsX4_digest_r8 : List Cond := [Cond.static yX4_copyState, Cond.code yX4_copyState cX4_copyState 2 none, Cond.methodLink RX4 137 yX1_copyGraph, Cond.methodLink RX4 291 yX1_copySplitting, Cond.instanceMethod yX1_copySplitting, Cond.selects RX1 yX1_copySplitting yX1_copySplitting, Cond.code yX1_copySplitting cX1_copySplitting 3 none, Cond.fieldLink RX1 27 "CoverWays$State" "notedWeights" "[I", Cond.fieldLink RX1 30 "CoverWays$State" "notedMasks" "[I", Cond.fieldLink RX1 33 "CoverWays$State" "notedWays" "I", Cond.fieldLink RX1 37 "CoverWays$State" "steps" "I", Cond.fieldLink RX1 40 "CoverWays$State" "refusals" "I", Cond.methodLink RX4 104 yX4_takeAll, Cond.instanceMethod yX4_takeAll, Cond.selects RX4 yX4_takeAll yX4_takeAll, Cond.code yX4_takeAll cX4_takeAll 3 (some .int), Cond.methodLink RX4 100 yX4_takeHeaviest, Cond.instanceMethod yX4_takeHeaviest, Cond.selects RX4 yX4_takeHeaviest yX4_takeHeaviest, Cond.code yX4_takeHeaviest cX4_takeHeaviest 4 (some .int), Cond.methodLink RX4 294 yX1_takeWay, Cond.instanceMethod yX1_takeWay, Cond.selects RX1 yX1_takeWay yX1_takeWay, Cond.code yX1_takeWay cX1_takeWay 4 none]
def wsX4_digest_r9 : List Cond := [Cond.methodLink RX4 259 yX4_mainPiece, Cond.instanceMethod yX4_mainPiece, Cond.selects RX4 yX4_mainPiece yX4_mainPiece, Cond.code yX4_mainPiece cX4_mainPiece 5 (some .int), Cond.methodLink RX4 262 yX4_explained, Cond.instanceMethod yX4_explained, Cond.selects RX4 yX4_explained yX4_explained, Cond.code yX4_explained cX4_explained 2 (some .double), Cond.methodLink RX4 266 yX4_bitsOf, Cond.static yX4_bitsOf, Cond.code yX4_bitsOf cX4_bitsOf 8 (some .long), Cond.constantLong RX4 282 (1023), Cond.constantDouble RX4 284 (4611686018427387904), Cond.constantDouble RX4 286 (4841369599423283200), Cond.methodLink RX4 270 yX4_mixBuffer, Cond.instanceMethod yX4_mixBuffer, Cond.selects RX4 yX4_mixBuffer yX4_mixBuffer, Cond.code yX4_mixBuffer cX4_mixBuffer 6 (some .long), Cond.fieldLink RX4 33 "CoverWays" "text" "LCoverWays$Text;", Cond.fieldLink RX4 113 "CoverWays$Text" "length" "I", Cond.fieldLink RX4 121 "CoverWays$Text" "codes" "[I"]
def wsX4_digest : List Cond := .code yX4_digest cX4_digest 5 (some .long) :: ((wsX4_digest_r1 ++ (wsX4_digest_r2 ++ (wsX4_digest_r3 ++ (wsX4_digest_r4 ++ (wsX4_digest_r5 ++ (wsX4_digest_r6 ++ (wsX4_digest_r7 ++ (wsX4_digest_r8 ++ wsX4_digest_r9)))))))) ++ wsX40 ++ wsX10 ++ wsX30 ++ wsX00 ++ wsX20 ++ (vx_atS RX4 70 "java/lang/IllegalArgumentException" ["java/lang/RuntimeException", "java/lang/Exception"]).filter goodWord ++ (vx_atS RX4 63 "java/lang/IndexOutOfBoundsException" ["java/lang/RuntimeException", "java/lang/Exception"]).filter goodWord)
def wsX5_init : List Cond := .code yX5_init cX5_init 1 none :: ([.methodLink RX5 1 objectInit, .instanceMethod objectInit, .code objectInit ⟨#[0xb1]⟩ 1 none, .arrayClass .int, .fieldLink RX5 7 "CoverWaysModel" "s" "[I", .fieldLink RX5 13 "CoverWaysModel" "aside" "[I", .fieldLink RX5 16 "CoverWaysModel" "slots" "[I", .arrayClass .boolean, .fieldLink RX5 19 "CoverWaysModel" "isKept" "[Z", .fieldLink RX5 23 "CoverWaysModel" "saved" "[I", .fieldLink RX5 26 "CoverWaysModel" "text" "[I"] ++ wsX50)
def wsX5_thrown : List Cond := .code yX5_thrown cX5_thrown 1 (some .int) :: ([.fieldLink RX5 29 "CoverWaysModel" "thrown" "I"] ++ wsX50)
def wsX5_in : List Cond := .code yX5_in cX5_in 3 (some .boolean) :: ([])
def wsX5_isPiece : List Cond := .code yX5_isPiece cX5_isPiece 1 (some .boolean) :: ([.methodLink RX5 33 yX5_in, .static yX5_in, .initialized RX5, .code yX5_in cX5_in 3 (some .boolean)])
def wsX5_holds : List Cond := .code yX5_holds cX5_holds 2 (some .boolean) :: ([.fieldLink RX5 29 "CoverWaysModel" "thrown" "I"] ++ wsX50)
def wsX5_save : List Cond := .code yX5_save cX5_save 2 none :: ([.fieldLink RX5 37 "CoverWaysModel" "savedMany" "I", .fieldLink RX5 23 "CoverWaysModel" "saved" "[I", .fieldLink RX5 7 "CoverWaysModel" "s" "[I"] ++ wsX50)
def wsX5_putAside : List Cond := .code yX5_putAside cX5_putAside 2 none :: ([.fieldLink RX5 13 "CoverWaysModel" "aside" "[I", .fieldLink RX5 7 "CoverWaysModel" "s" "[I"] ++ wsX50)
def wsX5_putBack : List Cond := .code yX5_putBack cX5_putBack 2 none :: ([.fieldLink RX5 7 "CoverWaysModel" "s" "[I", .fieldLink RX5 13 "CoverWaysModel" "aside" "[I"] ++ wsX50)
def wsX5_many : List Cond := .code yX5_many cX5_many 3 (some .int) :: ([])
def wsX5_greatest : List Cond := .code yX5_greatest cX5_greatest 3 (some .int) :: ([])
def wsX5_next : List Cond := .code yX5_next cX5_next 3 (some .int) :: ([.methodLink RX5 40 yX5_greatest, .static yX5_greatest, .initialized RX5, .code yX5_greatest cX5_greatest 3 (some .int)])
def wsX5_isWay : List Cond := .code yX5_isWay cX5_isWay 5 (some .boolean) :: ([.fieldLink RX5 7 "CoverWaysModel" "s" "[I"] ++ wsX50)
def wsX5_isOpen : List Cond := .code yX5_isOpen cX5_isOpen 4 (some .boolean) :: ([.fieldLink RX5 7 "CoverWaysModel" "s" "[I", .methodLink RX5 44 yX5_isWay, .instanceMethod yX5_isWay, .selects RX5 yX5_isWay yX5_isWay, .initialized RX5, .code yX5_isWay cX5_isWay 5 (some .boolean)] ++ wsX50)
def wsX5_weight : List Cond := .code yX5_weight cX5_weight 4 (some .int) :: ([.fieldLink RX5 7 "CoverWaysModel" "s" "[I"] ++ wsX50)
def wsX5_heaviestWay : List Cond := .code yX5_heaviestWay cX5_heaviestWay 3 (some .int) :: ([.methodLink RX5 48 yX5_isOpen, .instanceMethod yX5_isOpen, .selects RX5 yX5_isOpen yX5_isOpen, .initialized RX5, .code yX5_isOpen cX5_isOpen 4 (some .boolean), .fieldLink RX5 7 "CoverWaysModel" "s" "[I", .methodLink RX5 44 yX5_isWay, .instanceMethod yX5_isWay, .selects RX5 yX5_isWay yX5_isWay, .code yX5_isWay cX5_isWay 5 (some .boolean), .methodLink RX5 51 yX5_weight, .instanceMethod yX5_weight, .selects RX5 yX5_weight yX5_weight, .code yX5_weight cX5_weight 4 (some .int), .methodLink RX5 54 yX5_next, .static yX5_next, .code yX5_next cX5_next 3 (some .int), .methodLink RX5 40 yX5_greatest, .static yX5_greatest, .code yX5_greatest cX5_greatest 3 (some .int)] ++ wsX50)
def wsX5_ways : List Cond := .code yX5_ways cX5_ways 5 (some .int) :: ([.methodLink RX5 48 yX5_isOpen, .instanceMethod yX5_isOpen, .selects RX5 yX5_isOpen yX5_isOpen, .initialized RX5, .code yX5_isOpen cX5_isOpen 4 (some .boolean), .fieldLink RX5 7 "CoverWaysModel" "s" "[I", .methodLink RX5 44 yX5_isWay, .instanceMethod yX5_isWay, .selects RX5 yX5_isWay yX5_isWay, .code yX5_isWay cX5_isWay 5 (some .boolean)] ++ wsX50)
def wsX5_behind : List Cond := .code yX5_behind cX5_behind 4 (some .int) :: ([.fieldLink RX5 7 "CoverWaysModel" "s" "[I"] ++ wsX50)
def wsX5_rows : List Cond := .code yX5_rows cX5_rows 5 (some .int) :: ([.methodLink RX5 57 yX5_behind, .instanceMethod yX5_behind, .selects RX5 yX5_behind yX5_behind, .initialized RX5, .code yX5_behind cX5_behind 4 (some .int), .fieldLink RX5 7 "CoverWaysModel" "s" "[I", .methodLink RX5 60 yX5_many, .static yX5_many, .code yX5_many cX5_many 3 (some .int)] ++ wsX50)
def wsX5_anew : List Cond := .code yX5_anew cX5_anew 2 none :: ([.fieldLink RX5 7 "CoverWaysModel" "s" "[I"] ++ wsX50)
def wsX5_lays : List Cond := .code yX5_lays cX5_lays 4 (some .int) :: ([.fieldLink RX5 7 "CoverWaysModel" "s" "[I", .methodLink RX5 63 yX5_save, .instanceMethod yX5_save, .selects RX5 yX5_save yX5_save, .initialized RX5, .code yX5_save cX5_save 2 none, .fieldLink RX5 37 "CoverWaysModel" "savedMany" "I", .fieldLink RX5 23 "CoverWaysModel" "saved" "[I", .methodLink RX5 66 yX5_anew, .instanceMethod yX5_anew, .selects RX5 yX5_anew yX5_anew, .code yX5_anew cX5_anew 2 none] ++ wsX50)
def wsX5_cover_r1 : List Cond := [Cond.methodLink RX5 69 yX5_isPiece, Cond.static yX5_isPiece, Cond.initialized RX5, Cond.code yX5_isPiece cX5_isPiece 1 (some .boolean), Cond.methodLink RX5 33 yX5_in, Cond.static yX5_in, Cond.code yX5_in cX5_in 3 (some .boolean), Cond.methodLink RX5 72 yX5_holds, Cond.instanceMethod yX5_holds, Cond.selects RX5 yX5_holds yX5_holds, Cond.code yX5_holds cX5_holds 2 (some .boolean), Cond.fieldLink RX5 29 "CoverWaysModel" "thrown" "I", Cond.methodLink RX5 75 yX5_lays, Cond.instanceMethod yX5_lays, Cond.selects RX5 yX5_lays yX5_lays, Cond.code yX5_lays cX5_lays 4 (some .int), Cond.fieldLink RX5 7 "CoverWaysModel" "s" "[I", Cond.methodLink RX5 63 yX5_save, Cond.instanceMethod yX5_save, Cond.selects RX5 yX5_save yX5_save, Cond.code yX5_save cX5_save 2 none, Cond.fieldLink RX5 37 "CoverWaysModel" "savedMany" "I", Cond.fieldLink RX5 23 "CoverWaysModel" "saved" "[I", Cond.methodLink RX5 66 yX5_anew]
def wsX5_cover_r2 : List Cond := [Cond.instanceMethod yX5_anew, Cond.selects RX5 yX5_anew yX5_anew, Cond.code yX5_anew cX5_anew 2 none]
def wsX5_cover : List Cond := .code yX5_cover cX5_cover 3 (some .int) :: ((wsX5_cover_r1 ++ wsX5_cover_r2) ++ wsX50)
def wsX5_join_r1 : List Cond := [Cond.fieldLink RX5 7 "CoverWaysModel" "s" "[I", Cond.methodLink RX5 69 yX5_isPiece, Cond.static yX5_isPiece, Cond.initialized RX5, Cond.code yX5_isPiece cX5_isPiece 1 (some .boolean), Cond.methodLink RX5 33 yX5_in, Cond.static yX5_in, Cond.code yX5_in cX5_in 3 (some .boolean), Cond.methodLink RX5 72 yX5_holds, Cond.instanceMethod yX5_holds, Cond.selects RX5 yX5_holds yX5_holds, Cond.code yX5_holds cX5_holds 2 (some .boolean), Cond.fieldLink RX5 29 "CoverWaysModel" "thrown" "I", Cond.methodLink RX5 75 yX5_lays, Cond.instanceMethod yX5_lays, Cond.selects RX5 yX5_lays yX5_lays, Cond.code yX5_lays cX5_lays 4 (some .int), Cond.methodLink RX5 63 yX5_save, Cond.instanceMethod yX5_save, Cond.selects RX5 yX5_save yX5_save, Cond.code yX5_save cX5_save 2 none, Cond.fieldLink RX5 37 "CoverWaysModel" "savedMany" "I", Cond.fieldLink RX5 23 "CoverWaysModel" "saved" "[I", Cond.methodLink RX5 66 yX5_anew]
def wsX5_join_r2 : List Cond := [Cond.instanceMethod yX5_anew, Cond.selects RX5 yX5_anew yX5_anew, Cond.code yX5_anew cX5_anew 2 none]
def wsX5_join : List Cond := .code yX5_join cX5_join 4 (some .int) :: ((wsX5_join_r1 ++ wsX5_join_r2) ++ wsX50)
def wsX5_mark_r1 : List Cond := [Cond.methodLink RX5 69 yX5_isPiece, Cond.static yX5_isPiece, Cond.initialized RX5, Cond.code yX5_isPiece cX5_isPiece 1 (some .boolean), Cond.methodLink RX5 33 yX5_in, Cond.static yX5_in, Cond.code yX5_in cX5_in 3 (some .boolean), Cond.methodLink RX5 72 yX5_holds, Cond.instanceMethod yX5_holds, Cond.selects RX5 yX5_holds yX5_holds, Cond.code yX5_holds cX5_holds 2 (some .boolean), Cond.fieldLink RX5 29 "CoverWaysModel" "thrown" "I", Cond.methodLink RX5 75 yX5_lays, Cond.instanceMethod yX5_lays, Cond.selects RX5 yX5_lays yX5_lays, Cond.code yX5_lays cX5_lays 4 (some .int), Cond.fieldLink RX5 7 "CoverWaysModel" "s" "[I", Cond.methodLink RX5 63 yX5_save, Cond.instanceMethod yX5_save, Cond.selects RX5 yX5_save yX5_save, Cond.code yX5_save cX5_save 2 none, Cond.fieldLink RX5 37 "CoverWaysModel" "savedMany" "I", Cond.fieldLink RX5 23 "CoverWaysModel" "saved" "[I", Cond.methodLink RX5 66 yX5_anew]
def wsX5_mark_r2 : List Cond := [Cond.instanceMethod yX5_anew, Cond.selects RX5 yX5_anew yX5_anew, Cond.code yX5_anew cX5_anew 2 none]
def wsX5_mark : List Cond := .code yX5_mark cX5_mark 3 (some .int) :: ((wsX5_mark_r1 ++ wsX5_mark_r2) ++ wsX50)
def wsX5_bar_r1 : List Cond := [Cond.fieldLink RX5 7 "CoverWaysModel" "s" "[I", Cond.methodLink RX5 69 yX5_isPiece, Cond.static yX5_isPiece, Cond.initialized RX5, Cond.code yX5_isPiece cX5_isPiece 1 (some .boolean), Cond.methodLink RX5 33 yX5_in, Cond.static yX5_in, Cond.code yX5_in cX5_in 3 (some .boolean), Cond.methodLink RX5 72 yX5_holds, Cond.instanceMethod yX5_holds, Cond.selects RX5 yX5_holds yX5_holds, Cond.code yX5_holds cX5_holds 2 (some .boolean), Cond.fieldLink RX5 29 "CoverWaysModel" "thrown" "I", Cond.methodLink RX5 75 yX5_lays, Cond.instanceMethod yX5_lays, Cond.selects RX5 yX5_lays yX5_lays, Cond.code yX5_lays cX5_lays 4 (some .int), Cond.methodLink RX5 63 yX5_save, Cond.instanceMethod yX5_save, Cond.selects RX5 yX5_save yX5_save, Cond.code yX5_save cX5_save 2 none, Cond.fieldLink RX5 37 "CoverWaysModel" "savedMany" "I", Cond.fieldLink RX5 23 "CoverWaysModel" "saved" "[I", Cond.methodLink RX5 66 yX5_anew]
def wsX5_bar_r2 : List Cond := [Cond.instanceMethod yX5_anew, Cond.selects RX5 yX5_anew yX5_anew, Cond.code yX5_anew cX5_anew 2 none]
def wsX5_bar : List Cond := .code yX5_bar cX5_bar 4 (some .int) :: ((wsX5_bar_r1 ++ wsX5_bar_r2) ++ wsX50)
def wsX5_steps : List Cond := .code yX5_steps cX5_steps 4 (some .int) :: ([.fieldLink RX5 7 "CoverWaysModel" "s" "[I", .methodLink RX5 79 yX5_heaviestWay, .instanceMethod yX5_heaviestWay, .selects RX5 yX5_heaviestWay yX5_heaviestWay, .initialized RX5, .code yX5_heaviestWay cX5_heaviestWay 3 (some .int), .methodLink RX5 48 yX5_isOpen, .instanceMethod yX5_isOpen, .selects RX5 yX5_isOpen yX5_isOpen, .code yX5_isOpen cX5_isOpen 4 (some .boolean), .methodLink RX5 44 yX5_isWay, .instanceMethod yX5_isWay, .selects RX5 yX5_isWay yX5_isWay, .code yX5_isWay cX5_isWay 5 (some .boolean), .methodLink RX5 51 yX5_weight, .instanceMethod yX5_weight, .selects RX5 yX5_weight yX5_weight, .code yX5_weight cX5_weight 4 (some .int), .methodLink RX5 54 yX5_next, .static yX5_next, .code yX5_next cX5_next 3 (some .int), .methodLink RX5 40 yX5_greatest, .static yX5_greatest, .code yX5_greatest cX5_greatest 3 (some .int)] ++ wsX50)
def wsX5_splits_r1 : List Cond := [Cond.methodLink RX5 83 yX5_steps, Cond.instanceMethod yX5_steps, Cond.selects RX5 yX5_steps yX5_steps, Cond.initialized RX5, Cond.code yX5_steps cX5_steps 4 (some .int), Cond.fieldLink RX5 7 "CoverWaysModel" "s" "[I", Cond.methodLink RX5 79 yX5_heaviestWay, Cond.instanceMethod yX5_heaviestWay, Cond.selects RX5 yX5_heaviestWay yX5_heaviestWay, Cond.code yX5_heaviestWay cX5_heaviestWay 3 (some .int), Cond.methodLink RX5 48 yX5_isOpen, Cond.instanceMethod yX5_isOpen, Cond.selects RX5 yX5_isOpen yX5_isOpen, Cond.code yX5_isOpen cX5_isOpen 4 (some .boolean), Cond.methodLink RX5 44 yX5_isWay, Cond.instanceMethod yX5_isWay, Cond.selects RX5 yX5_isWay yX5_isWay, Cond.code yX5_isWay cX5_isWay 5 (some .boolean), Cond.methodLink RX5 51 yX5_weight, Cond.instanceMethod yX5_weight, Cond.selects RX5 yX5_weight yX5_weight, Cond.code yX5_weight cX5_weight 4 (some .int), Cond.methodLink RX5 54 yX5_next, Cond.static yX5_next]
def wsX5_splits_r2 : List Cond := [Cond.code yX5_next cX5_next 3 (some .int), Cond.methodLink RX5 40 yX5_greatest, Cond.static yX5_greatest, Cond.code yX5_greatest cX5_greatest 3 (some .int)]
def wsX5_splits : List Cond := .code yX5_splits cX5_splits 2 (some .int) :: ((wsX5_splits_r1 ++ wsX5_splits_r2) ++ wsX50)
def wsX5_step_r1 : List Cond := [Cond.fieldLink RX5 29 "CoverWaysModel" "thrown" "I", Cond.methodLink RX5 63 yX5_save, Cond.instanceMethod yX5_save, Cond.selects RX5 yX5_save yX5_save, Cond.initialized RX5, Cond.code yX5_save cX5_save 2 none, Cond.fieldLink RX5 37 "CoverWaysModel" "savedMany" "I", Cond.fieldLink RX5 23 "CoverWaysModel" "saved" "[I", Cond.fieldLink RX5 7 "CoverWaysModel" "s" "[I", Cond.methodLink RX5 83 yX5_steps, Cond.instanceMethod yX5_steps, Cond.selects RX5 yX5_steps yX5_steps, Cond.code yX5_steps cX5_steps 4 (some .int), Cond.methodLink RX5 79 yX5_heaviestWay, Cond.instanceMethod yX5_heaviestWay, Cond.selects RX5 yX5_heaviestWay yX5_heaviestWay, Cond.code yX5_heaviestWay cX5_heaviestWay 3 (some .int), Cond.methodLink RX5 48 yX5_isOpen, Cond.instanceMethod yX5_isOpen, Cond.selects RX5 yX5_isOpen yX5_isOpen, Cond.code yX5_isOpen cX5_isOpen 4 (some .boolean), Cond.methodLink RX5 44 yX5_isWay, Cond.instanceMethod yX5_isWay, Cond.selects RX5 yX5_isWay yX5_isWay]
def wsX5_step_r2 : List Cond := [Cond.code yX5_isWay cX5_isWay 5 (some .boolean), Cond.methodLink RX5 51 yX5_weight, Cond.instanceMethod yX5_weight, Cond.selects RX5 yX5_weight yX5_weight, Cond.code yX5_weight cX5_weight 4 (some .int), Cond.methodLink RX5 54 yX5_next, Cond.static yX5_next, Cond.code yX5_next cX5_next 3 (some .int), Cond.methodLink RX5 40 yX5_greatest, Cond.static yX5_greatest, Cond.code yX5_greatest cX5_greatest 3 (some .int)]
def wsX5_step : List Cond := .code yX5_step cX5_step 1 (some .int) :: ((wsX5_step_r1 ++ wsX5_step_r2) ++ wsX50)
def wsX5_split_r1 : List Cond := [Cond.fieldLink RX5 29 "CoverWaysModel" "thrown" "I", Cond.methodLink RX5 63 yX5_save, Cond.instanceMethod yX5_save, Cond.selects RX5 yX5_save yX5_save, Cond.initialized RX5, Cond.code yX5_save cX5_save 2 none, Cond.fieldLink RX5 37 "CoverWaysModel" "savedMany" "I", Cond.fieldLink RX5 23 "CoverWaysModel" "saved" "[I", Cond.fieldLink RX5 7 "CoverWaysModel" "s" "[I", Cond.methodLink RX5 86 yX5_splits, Cond.instanceMethod yX5_splits, Cond.selects RX5 yX5_splits yX5_splits, Cond.code yX5_splits cX5_splits 2 (some .int), Cond.methodLink RX5 83 yX5_steps, Cond.instanceMethod yX5_steps, Cond.selects RX5 yX5_steps yX5_steps, Cond.code yX5_steps cX5_steps 4 (some .int), Cond.methodLink RX5 79 yX5_heaviestWay, Cond.instanceMethod yX5_heaviestWay, Cond.selects RX5 yX5_heaviestWay yX5_heaviestWay, Cond.code yX5_heaviestWay cX5_heaviestWay 3 (some .int), Cond.methodLink RX5 48 yX5_isOpen, Cond.instanceMethod yX5_isOpen, Cond.selects RX5 yX5_isOpen yX5_isOpen]
def wsX5_split_r2 : List Cond := [Cond.code yX5_isOpen cX5_isOpen 4 (some .boolean), Cond.methodLink RX5 44 yX5_isWay, Cond.instanceMethod yX5_isWay, Cond.selects RX5 yX5_isWay yX5_isWay, Cond.code yX5_isWay cX5_isWay 5 (some .boolean), Cond.methodLink RX5 51 yX5_weight, Cond.instanceMethod yX5_weight, Cond.selects RX5 yX5_weight yX5_weight, Cond.code yX5_weight cX5_weight 4 (some .int), Cond.methodLink RX5 54 yX5_next, Cond.static yX5_next, Cond.code yX5_next cX5_next 3 (some .int), Cond.methodLink RX5 40 yX5_greatest, Cond.static yX5_greatest, Cond.code yX5_greatest cX5_greatest 3 (some .int)]
def wsX5_split : List Cond := .code yX5_split cX5_split 1 (some .int) :: ((wsX5_split_r1 ++ wsX5_split_r2) ++ wsX50)
def wsX5_begin : List Cond := .code yX5_begin cX5_begin 2 (some .int) :: ([.fieldLink RX5 29 "CoverWaysModel" "thrown" "I", .fieldLink RX5 7 "CoverWaysModel" "s" "[I", .methodLink RX5 63 yX5_save, .instanceMethod yX5_save, .selects RX5 yX5_save yX5_save, .initialized RX5, .code yX5_save cX5_save 2 none, .fieldLink RX5 37 "CoverWaysModel" "savedMany" "I", .fieldLink RX5 23 "CoverWaysModel" "saved" "[I", .methodLink RX5 66 yX5_anew, .instanceMethod yX5_anew, .selects RX5 yX5_anew yX5_anew, .code yX5_anew cX5_anew 2 none] ++ wsX50)
def wsX5_append : List Cond := .code yX5_append cX5_append 2 (some .int) :: ([.fieldLink RX5 89 "CoverWaysModel" "length" "I", .fieldLink RX5 26 "CoverWaysModel" "text" "[I", .methodLink RX5 33 yX5_in, .static yX5_in, .initialized RX5, .code yX5_in cX5_in 3 (some .boolean), .methodLink RX5 72 yX5_holds, .instanceMethod yX5_holds, .selects RX5 yX5_holds yX5_holds, .code yX5_holds cX5_holds 2 (some .boolean), .fieldLink RX5 29 "CoverWaysModel" "thrown" "I"] ++ wsX50)
def wsX5_clearBuffer : List Cond := .code yX5_clearBuffer cX5_clearBuffer 2 (some .int) :: ([.fieldLink RX5 29 "CoverWaysModel" "thrown" "I", .fieldLink RX5 89 "CoverWaysModel" "length" "I"] ++ wsX50)
def wsX5_charAt : List Cond := .code yX5_charAt cX5_charAt 2 (some .int) :: ([.fieldLink RX5 89 "CoverWaysModel" "length" "I", .fieldLink RX5 26 "CoverWaysModel" "text" "[I"] ++ wsX50)
def wsX5_digitAt : List Cond := .code yX5_digitAt cX5_digitAt 2 (some .int) :: ([.methodLink RX5 92 yX5_charAt, .instanceMethod yX5_charAt, .selects RX5 yX5_charAt yX5_charAt, .initialized RX5, .code yX5_charAt cX5_charAt 2 (some .int), .fieldLink RX5 89 "CoverWaysModel" "length" "I", .fieldLink RX5 26 "CoverWaysModel" "text" "[I"] ++ wsX50)
def wsX5_behindNumber : List Cond := .code yX5_behindNumber cX5_behindNumber 3 (some .int) :: ([.methodLink RX5 95 yX5_digitAt, .instanceMethod yX5_digitAt, .selects RX5 yX5_digitAt yX5_digitAt, .initialized RX5, .code yX5_digitAt cX5_digitAt 2 (some .int), .methodLink RX5 92 yX5_charAt, .instanceMethod yX5_charAt, .selects RX5 yX5_charAt yX5_charAt, .code yX5_charAt cX5_charAt 2 (some .int), .fieldLink RX5 89 "CoverWaysModel" "length" "I", .fieldLink RX5 26 "CoverWaysModel" "text" "[I", .methodLink RX5 33 yX5_in, .static yX5_in, .code yX5_in cX5_in 3 (some .boolean)] ++ wsX50)
def wsX5_behindPart : List Cond := .code yX5_behindPart cX5_behindPart 4 (some .int) :: ([.methodLink RX5 92 yX5_charAt, .instanceMethod yX5_charAt, .selects RX5 yX5_charAt yX5_charAt, .initialized RX5, .code yX5_charAt cX5_charAt 2 (some .int), .fieldLink RX5 89 "CoverWaysModel" "length" "I", .fieldLink RX5 26 "CoverWaysModel" "text" "[I", .methodLink RX5 95 yX5_digitAt, .instanceMethod yX5_digitAt, .selects RX5 yX5_digitAt yX5_digitAt, .code yX5_digitAt cX5_digitAt 2 (some .int), .methodLink RX5 69 yX5_isPiece, .static yX5_isPiece, .code yX5_isPiece cX5_isPiece 1 (some .boolean), .methodLink RX5 33 yX5_in, .static yX5_in, .code yX5_in cX5_in 3 (some .boolean), .methodLink RX5 98 yX5_behindNumber, .instanceMethod yX5_behindNumber, .selects RX5 yX5_behindNumber yX5_behindNumber, .code yX5_behindNumber cX5_behindNumber 3 (some .int)] ++ wsX50)
def wsX5_wrong_r1 : List Cond := [Cond.fieldLink RX5 89 "CoverWaysModel" "length" "I", Cond.fieldLink RX5 26 "CoverWaysModel" "text" "[I", Cond.methodLink RX5 101 yX5_behindPart, Cond.instanceMethod yX5_behindPart, Cond.selects RX5 yX5_behindPart yX5_behindPart, Cond.initialized RX5, Cond.code yX5_behindPart cX5_behindPart 4 (some .int), Cond.methodLink RX5 92 yX5_charAt, Cond.instanceMethod yX5_charAt, Cond.selects RX5 yX5_charAt yX5_charAt, Cond.code yX5_charAt cX5_charAt 2 (some .int), Cond.methodLink RX5 95 yX5_digitAt, Cond.instanceMethod yX5_digitAt, Cond.selects RX5 yX5_digitAt yX5_digitAt, Cond.code yX5_digitAt cX5_digitAt 2 (some .int), Cond.methodLink RX5 69 yX5_isPiece, Cond.static yX5_isPiece, Cond.code yX5_isPiece cX5_isPiece 1 (some .boolean), Cond.methodLink RX5 33 yX5_in, Cond.static yX5_in, Cond.code yX5_in cX5_in 3 (some .boolean), Cond.methodLink RX5 98 yX5_behindNumber, Cond.instanceMethod yX5_behindNumber, Cond.selects RX5 yX5_behindNumber yX5_behindNumber]
def wsX5_wrong_r2 : List Cond := [Cond.code yX5_behindNumber cX5_behindNumber 3 (some .int)]
def wsX5_wrong : List Cond := .code yX5_wrong cX5_wrong 3 (some .int) :: ((wsX5_wrong_r1 ++ wsX5_wrong_r2) ++ wsX50)
def wsX5_firstError_r1 : List Cond := [Cond.fieldLink RX5 29 "CoverWaysModel" "thrown" "I", Cond.fieldLink RX5 89 "CoverWaysModel" "length" "I", Cond.methodLink RX5 104 yX5_wrong, Cond.instanceMethod yX5_wrong, Cond.selects RX5 yX5_wrong yX5_wrong, Cond.initialized RX5, Cond.code yX5_wrong cX5_wrong 3 (some .int), Cond.fieldLink RX5 26 "CoverWaysModel" "text" "[I", Cond.methodLink RX5 101 yX5_behindPart, Cond.instanceMethod yX5_behindPart, Cond.selects RX5 yX5_behindPart yX5_behindPart, Cond.code yX5_behindPart cX5_behindPart 4 (some .int), Cond.methodLink RX5 92 yX5_charAt, Cond.instanceMethod yX5_charAt, Cond.selects RX5 yX5_charAt yX5_charAt, Cond.code yX5_charAt cX5_charAt 2 (some .int), Cond.methodLink RX5 95 yX5_digitAt, Cond.instanceMethod yX5_digitAt, Cond.selects RX5 yX5_digitAt yX5_digitAt, Cond.code yX5_digitAt cX5_digitAt 2 (some .int), Cond.methodLink RX5 69 yX5_isPiece, Cond.static yX5_isPiece, Cond.code yX5_isPiece cX5_isPiece 1 (some .boolean), Cond.methodLink RX5 33 yX5_in]
def wsX5_firstError_r2 : List Cond := [Cond.static yX5_in, Cond.code yX5_in cX5_in 3 (some .boolean), Cond.methodLink RX5 98 yX5_behindNumber, Cond.instanceMethod yX5_behindNumber, Cond.selects RX5 yX5_behindNumber yX5_behindNumber, Cond.code yX5_behindNumber cX5_behindNumber 3 (some .int)]
def wsX5_firstError : List Cond := .code yX5_firstError cX5_firstError 1 (some .int) :: ((wsX5_firstError_r1 ++ wsX5_firstError_r2) ++ wsX50)
def wsX5_takes : List Cond := .code yX5_takes cX5_takes 6 none :: ([.fieldLink RX5 26 "CoverWaysModel" "text" "[I", .fieldLink RX5 7 "CoverWaysModel" "s" "[I", .methodLink RX5 95 yX5_digitAt, .instanceMethod yX5_digitAt, .selects RX5 yX5_digitAt yX5_digitAt, .initialized RX5, .code yX5_digitAt cX5_digitAt 2 (some .int), .methodLink RX5 92 yX5_charAt, .instanceMethod yX5_charAt, .selects RX5 yX5_charAt yX5_charAt, .code yX5_charAt cX5_charAt 2 (some .int), .fieldLink RX5 89 "CoverWaysModel" "length" "I"] ++ wsX50)
def wsX5_joins : List Cond := .code yX5_joins cX5_joins 3 (some .int) :: ([.fieldLink RX5 7 "CoverWaysModel" "s" "[I", .methodLink RX5 60 yX5_many, .static yX5_many, .initialized RX5, .code yX5_many cX5_many 3 (some .int)] ++ wsX50)
def wsX5_load_r1 : List Cond := [Cond.fieldLink RX5 7 "CoverWaysModel" "s" "[I", Cond.fieldLink RX5 89 "CoverWaysModel" "length" "I", Cond.methodLink RX5 104 yX5_wrong, Cond.instanceMethod yX5_wrong, Cond.selects RX5 yX5_wrong yX5_wrong, Cond.initialized RX5, Cond.code yX5_wrong cX5_wrong 3 (some .int), Cond.fieldLink RX5 26 "CoverWaysModel" "text" "[I", Cond.methodLink RX5 101 yX5_behindPart, Cond.instanceMethod yX5_behindPart, Cond.selects RX5 yX5_behindPart yX5_behindPart, Cond.code yX5_behindPart cX5_behindPart 4 (some .int), Cond.methodLink RX5 92 yX5_charAt, Cond.instanceMethod yX5_charAt, Cond.selects RX5 yX5_charAt yX5_charAt, Cond.code yX5_charAt cX5_charAt 2 (some .int), Cond.methodLink RX5 95 yX5_digitAt, Cond.instanceMethod yX5_digitAt, Cond.selects RX5 yX5_digitAt yX5_digitAt, Cond.code yX5_digitAt cX5_digitAt 2 (some .int), Cond.methodLink RX5 69 yX5_isPiece, Cond.static yX5_isPiece, Cond.code yX5_isPiece cX5_isPiece 1 (some .boolean), Cond.methodLink RX5 33 yX5_in]
def wsX5_load_r2 : List Cond := [Cond.static yX5_in, Cond.code yX5_in cX5_in 3 (some .boolean), Cond.methodLink RX5 98 yX5_behindNumber, Cond.instanceMethod yX5_behindNumber, Cond.selects RX5 yX5_behindNumber yX5_behindNumber, Cond.code yX5_behindNumber cX5_behindNumber 3 (some .int), Cond.methodLink RX5 72 yX5_holds, Cond.instanceMethod yX5_holds, Cond.selects RX5 yX5_holds yX5_holds, Cond.code yX5_holds cX5_holds 2 (some .boolean), Cond.fieldLink RX5 29 "CoverWaysModel" "thrown" "I", Cond.methodLink RX5 63 yX5_save, Cond.instanceMethod yX5_save, Cond.selects RX5 yX5_save yX5_save, Cond.code yX5_save cX5_save 2 none, Cond.fieldLink RX5 37 "CoverWaysModel" "savedMany" "I", Cond.fieldLink RX5 23 "CoverWaysModel" "saved" "[I", Cond.methodLink RX5 107 yX5_takes, Cond.instanceMethod yX5_takes, Cond.selects RX5 yX5_takes yX5_takes, Cond.code yX5_takes cX5_takes 6 none, Cond.methodLink RX5 66 yX5_anew, Cond.instanceMethod yX5_anew, Cond.selects RX5 yX5_anew yX5_anew]
def wsX5_load_r3 : List Cond := [Cond.code yX5_anew cX5_anew 2 none, Cond.methodLink RX5 111 yX5_joins, Cond.instanceMethod yX5_joins, Cond.selects RX5 yX5_joins yX5_joins, Cond.code yX5_joins cX5_joins 3 (some .int), Cond.methodLink RX5 60 yX5_many, Cond.static yX5_many, Cond.code yX5_many cX5_many 3 (some .int)]
def wsX5_load : List Cond := .code yX5_load cX5_load 3 (some .int) :: ((wsX5_load_r1 ++ (wsX5_load_r2 ++ wsX5_load_r3)) ++ wsX50)
def wsX5_keep : List Cond := .code yX5_keep cX5_keep 3 (some .int) :: ([.fieldLink RX5 16 "CoverWaysModel" "slots" "[I", .fieldLink RX5 7 "CoverWaysModel" "s" "[I", .fieldLink RX5 19 "CoverWaysModel" "isKept" "[Z", .methodLink RX5 33 yX5_in, .static yX5_in, .initialized RX5, .code yX5_in cX5_in 3 (some .boolean), .methodLink RX5 72 yX5_holds, .instanceMethod yX5_holds, .selects RX5 yX5_holds yX5_holds, .code yX5_holds cX5_holds 2 (some .boolean), .fieldLink RX5 29 "CoverWaysModel" "thrown" "I", .methodLink RX5 111 yX5_joins, .instanceMethod yX5_joins, .selects RX5 yX5_joins yX5_joins, .code yX5_joins cX5_joins 3 (some .int), .methodLink RX5 60 yX5_many, .static yX5_many, .code yX5_many cX5_many 3 (some .int)] ++ wsX50)
def wsX5_goBack_r1 : List Cond := [Cond.fieldLink RX5 19 "CoverWaysModel" "isKept" "[Z", Cond.fieldLink RX5 7 "CoverWaysModel" "s" "[I", Cond.fieldLink RX5 16 "CoverWaysModel" "slots" "[I", Cond.methodLink RX5 33 yX5_in, Cond.static yX5_in, Cond.initialized RX5, Cond.code yX5_in cX5_in 3 (some .boolean), Cond.methodLink RX5 72 yX5_holds, Cond.instanceMethod yX5_holds, Cond.selects RX5 yX5_holds yX5_holds, Cond.code yX5_holds cX5_holds 2 (some .boolean), Cond.fieldLink RX5 29 "CoverWaysModel" "thrown" "I", Cond.methodLink RX5 63 yX5_save, Cond.instanceMethod yX5_save, Cond.selects RX5 yX5_save yX5_save, Cond.code yX5_save cX5_save 2 none, Cond.fieldLink RX5 37 "CoverWaysModel" "savedMany" "I", Cond.fieldLink RX5 23 "CoverWaysModel" "saved" "[I", Cond.methodLink RX5 111 yX5_joins, Cond.instanceMethod yX5_joins, Cond.selects RX5 yX5_joins yX5_joins, Cond.code yX5_joins cX5_joins 3 (some .int), Cond.methodLink RX5 60 yX5_many, Cond.static yX5_many]
def wsX5_goBack_r2 : List Cond := [Cond.code yX5_many cX5_many 3 (some .int)]
def wsX5_goBack : List Cond := .code yX5_goBack cX5_goBack 4 (some .int) :: ((wsX5_goBack_r1 ++ wsX5_goBack_r2) ++ wsX50)
def wsX5_undo : List Cond := .code yX5_undo cX5_undo 2 (some .int) :: ([.fieldLink RX5 37 "CoverWaysModel" "savedMany" "I", .fieldLink RX5 7 "CoverWaysModel" "s" "[I", .fieldLink RX5 23 "CoverWaysModel" "saved" "[I", .methodLink RX5 72 yX5_holds, .instanceMethod yX5_holds, .selects RX5 yX5_holds yX5_holds, .initialized RX5, .code yX5_holds cX5_holds 2 (some .boolean), .fieldLink RX5 29 "CoverWaysModel" "thrown" "I"] ++ wsX50)
def wsX5_joinsTo : List Cond := .code yX5_joinsTo cX5_joinsTo 4 (some .int) :: ([.fieldLink RX5 7 "CoverWaysModel" "s" "[I"] ++ wsX50)
def wsX5_property_r1 : List Cond := [Cond.fieldLink RX5 7 "CoverWaysModel" "s" "[I", Cond.methodLink RX5 114 yX5_joinsTo, Cond.instanceMethod yX5_joinsTo, Cond.selects RX5 yX5_joinsTo yX5_joinsTo, Cond.initialized RX5, Cond.code yX5_joinsTo cX5_joinsTo 4 (some .int), Cond.methodLink RX5 60 yX5_many, Cond.static yX5_many, Cond.code yX5_many cX5_many 3 (some .int), Cond.methodLink RX5 57 yX5_behind, Cond.instanceMethod yX5_behind, Cond.selects RX5 yX5_behind yX5_behind, Cond.code yX5_behind cX5_behind 4 (some .int), Cond.methodLink RX5 117 yX5_ways, Cond.instanceMethod yX5_ways, Cond.selects RX5 yX5_ways yX5_ways, Cond.code yX5_ways cX5_ways 5 (some .int), Cond.methodLink RX5 48 yX5_isOpen, Cond.instanceMethod yX5_isOpen, Cond.selects RX5 yX5_isOpen yX5_isOpen, Cond.code yX5_isOpen cX5_isOpen 4 (some .boolean), Cond.methodLink RX5 44 yX5_isWay, Cond.instanceMethod yX5_isWay, Cond.selects RX5 yX5_isWay yX5_isWay]
def wsX5_property_r2 : List Cond := [Cond.code yX5_isWay cX5_isWay 5 (some .boolean)]
def wsX5_property : List Cond := .code yX5_property cX5_property 3 (some .int) :: ((wsX5_property_r1 ++ wsX5_property_r2) ++ wsX50)
def wsX5_pieceOf_r1 : List Cond := [Cond.methodLink RX5 69 yX5_isPiece, Cond.static yX5_isPiece, Cond.initialized RX5, Cond.code yX5_isPiece cX5_isPiece 1 (some .boolean), Cond.methodLink RX5 33 yX5_in, Cond.static yX5_in, Cond.code yX5_in cX5_in 3 (some .boolean), Cond.methodLink RX5 72 yX5_holds, Cond.instanceMethod yX5_holds, Cond.selects RX5 yX5_holds yX5_holds, Cond.code yX5_holds cX5_holds 2 (some .boolean), Cond.fieldLink RX5 29 "CoverWaysModel" "thrown" "I", Cond.methodLink RX5 121 yX5_property, Cond.instanceMethod yX5_property, Cond.selects RX5 yX5_property yX5_property, Cond.code yX5_property cX5_property 3 (some .int), Cond.fieldLink RX5 7 "CoverWaysModel" "s" "[I", Cond.methodLink RX5 114 yX5_joinsTo, Cond.instanceMethod yX5_joinsTo, Cond.selects RX5 yX5_joinsTo yX5_joinsTo, Cond.code yX5_joinsTo cX5_joinsTo 4 (some .int), Cond.methodLink RX5 60 yX5_many, Cond.static yX5_many, Cond.code yX5_many cX5_many 3 (some .int)]
def wsX5_pieceOf_r2 : List Cond := [Cond.methodLink RX5 57 yX5_behind, Cond.instanceMethod yX5_behind, Cond.selects RX5 yX5_behind yX5_behind, Cond.code yX5_behind cX5_behind 4 (some .int), Cond.methodLink RX5 117 yX5_ways, Cond.instanceMethod yX5_ways, Cond.selects RX5 yX5_ways yX5_ways, Cond.code yX5_ways cX5_ways 5 (some .int), Cond.methodLink RX5 48 yX5_isOpen, Cond.instanceMethod yX5_isOpen, Cond.selects RX5 yX5_isOpen yX5_isOpen, Cond.code yX5_isOpen cX5_isOpen 4 (some .boolean), Cond.methodLink RX5 44 yX5_isWay, Cond.instanceMethod yX5_isWay, Cond.selects RX5 yX5_isWay yX5_isWay, Cond.code yX5_isWay cX5_isWay 5 (some .boolean)]
def wsX5_pieceOf : List Cond := .code yX5_pieceOf cX5_pieceOf 3 (some .int) :: ((wsX5_pieceOf_r1 ++ wsX5_pieceOf_r2) ++ wsX50)
def wsX5_isJoined : List Cond := .code yX5_isJoined cX5_isJoined 3 (some .int) :: ([.fieldLink RX5 7 "CoverWaysModel" "s" "[I", .methodLink RX5 69 yX5_isPiece, .static yX5_isPiece, .initialized RX5, .code yX5_isPiece cX5_isPiece 1 (some .boolean), .methodLink RX5 33 yX5_in, .static yX5_in, .code yX5_in cX5_in 3 (some .boolean), .methodLink RX5 72 yX5_holds, .instanceMethod yX5_holds, .selects RX5 yX5_holds yX5_holds, .code yX5_holds cX5_holds 2 (some .boolean), .fieldLink RX5 29 "CoverWaysModel" "thrown" "I"] ++ wsX50)
def wsX5_note : List Cond := .code yX5_note cX5_note 3 (some .int) :: ([.fieldLink RX5 7 "CoverWaysModel" "s" "[I", .methodLink RX5 60 yX5_many, .static yX5_many, .initialized RX5, .code yX5_many cX5_many 3 (some .int)] ++ wsX50)
def wsX5_noted : List Cond := .code yX5_noted cX5_noted 3 (some .int) :: ([.methodLink RX5 33 yX5_in, .static yX5_in, .initialized RX5, .code yX5_in cX5_in 3 (some .boolean), .methodLink RX5 72 yX5_holds, .instanceMethod yX5_holds, .selects RX5 yX5_holds yX5_holds, .code yX5_holds cX5_holds 2 (some .boolean), .fieldLink RX5 29 "CoverWaysModel" "thrown" "I", .methodLink RX5 124 yX5_note, .instanceMethod yX5_note, .selects RX5 yX5_note yX5_note, .code yX5_note cX5_note 3 (some .int), .fieldLink RX5 7 "CoverWaysModel" "s" "[I", .methodLink RX5 60 yX5_many, .static yX5_many, .code yX5_many cX5_many 3 (some .int)] ++ wsX50)
def wsX5_sum : List Cond := .code yX5_sum cX5_sum 4 (some .int) :: ([.fieldLink RX5 7 "CoverWaysModel" "s" "[I"] ++ wsX50)
def wsX5_counted_r1 : List Cond := [Cond.fieldLink RX5 7 "CoverWaysModel" "s" "[I", Cond.fieldLink RX5 37 "CoverWaysModel" "savedMany" "I", Cond.methodLink RX5 111 yX5_joins, Cond.instanceMethod yX5_joins, Cond.selects RX5 yX5_joins yX5_joins, Cond.initialized RX5, Cond.code yX5_joins cX5_joins 3 (some .int), Cond.methodLink RX5 60 yX5_many, Cond.static yX5_many, Cond.code yX5_many cX5_many 3 (some .int), Cond.methodLink RX5 127 yX5_sum, Cond.instanceMethod yX5_sum, Cond.selects RX5 yX5_sum yX5_sum, Cond.code yX5_sum cX5_sum 4 (some .int), Cond.methodLink RX5 117 yX5_ways, Cond.instanceMethod yX5_ways, Cond.selects RX5 yX5_ways yX5_ways, Cond.code yX5_ways cX5_ways 5 (some .int), Cond.methodLink RX5 48 yX5_isOpen, Cond.instanceMethod yX5_isOpen, Cond.selects RX5 yX5_isOpen yX5_isOpen, Cond.code yX5_isOpen cX5_isOpen 4 (some .boolean), Cond.methodLink RX5 44 yX5_isWay, Cond.instanceMethod yX5_isWay]
def wsX5_counted_r2 : List Cond := [Cond.selects RX5 yX5_isWay yX5_isWay, Cond.code yX5_isWay cX5_isWay 5 (some .boolean), Cond.methodLink RX5 130 yX5_rows, Cond.instanceMethod yX5_rows, Cond.selects RX5 yX5_rows yX5_rows, Cond.code yX5_rows cX5_rows 5 (some .int), Cond.methodLink RX5 57 yX5_behind, Cond.instanceMethod yX5_behind, Cond.selects RX5 yX5_behind yX5_behind, Cond.code yX5_behind cX5_behind 4 (some .int)]
def wsX5_counted : List Cond := .code yX5_counted cX5_counted 2 (some .int) :: ((wsX5_counted_r1 ++ wsX5_counted_r2) ++ wsX50)
def wsX5_count_r1 : List Cond := [Cond.methodLink RX5 33 yX5_in, Cond.static yX5_in, Cond.initialized RX5, Cond.code yX5_in cX5_in 3 (some .boolean), Cond.methodLink RX5 72 yX5_holds, Cond.instanceMethod yX5_holds, Cond.selects RX5 yX5_holds yX5_holds, Cond.code yX5_holds cX5_holds 2 (some .boolean), Cond.fieldLink RX5 29 "CoverWaysModel" "thrown" "I", Cond.methodLink RX5 133 yX5_counted, Cond.instanceMethod yX5_counted, Cond.selects RX5 yX5_counted yX5_counted, Cond.code yX5_counted cX5_counted 2 (some .int), Cond.fieldLink RX5 7 "CoverWaysModel" "s" "[I", Cond.fieldLink RX5 37 "CoverWaysModel" "savedMany" "I", Cond.methodLink RX5 111 yX5_joins, Cond.instanceMethod yX5_joins, Cond.selects RX5 yX5_joins yX5_joins, Cond.code yX5_joins cX5_joins 3 (some .int), Cond.methodLink RX5 60 yX5_many, Cond.static yX5_many, Cond.code yX5_many cX5_many 3 (some .int), Cond.methodLink RX5 127 yX5_sum, Cond.instanceMethod yX5_sum]
def wsX5_count_r2 : List Cond := [Cond.selects RX5 yX5_sum yX5_sum, Cond.code yX5_sum cX5_sum 4 (some .int), Cond.methodLink RX5 117 yX5_ways, Cond.instanceMethod yX5_ways, Cond.selects RX5 yX5_ways yX5_ways, Cond.code yX5_ways cX5_ways 5 (some .int), Cond.methodLink RX5 48 yX5_isOpen, Cond.instanceMethod yX5_isOpen, Cond.selects RX5 yX5_isOpen yX5_isOpen, Cond.code yX5_isOpen cX5_isOpen 4 (some .boolean), Cond.methodLink RX5 44 yX5_isWay, Cond.instanceMethod yX5_isWay, Cond.selects RX5 yX5_isWay yX5_isWay, Cond.code yX5_isWay cX5_isWay 5 (some .boolean), Cond.methodLink RX5 130 yX5_rows, Cond.instanceMethod yX5_rows, Cond.selects RX5 yX5_rows yX5_rows, Cond.code yX5_rows cX5_rows 5 (some .int), Cond.methodLink RX5 57 yX5_behind, Cond.instanceMethod yX5_behind, Cond.selects RX5 yX5_behind yX5_behind, Cond.code yX5_behind cX5_behind 4 (some .int)]
def wsX5_count : List Cond := .code yX5_count cX5_count 2 (some .int) :: ((wsX5_count_r1 ++ wsX5_count_r2) ++ wsX50)
def wsX5_heavy : List Cond := .code yX5_heavy cX5_heavy 3 (some .int) :: ([.methodLink RX5 79 yX5_heaviestWay, .instanceMethod yX5_heaviestWay, .selects RX5 yX5_heaviestWay yX5_heaviestWay, .initialized RX5, .code yX5_heaviestWay cX5_heaviestWay 3 (some .int), .methodLink RX5 48 yX5_isOpen, .instanceMethod yX5_isOpen, .selects RX5 yX5_isOpen yX5_isOpen, .code yX5_isOpen cX5_isOpen 4 (some .boolean), .fieldLink RX5 7 "CoverWaysModel" "s" "[I", .methodLink RX5 44 yX5_isWay, .instanceMethod yX5_isWay, .selects RX5 yX5_isWay yX5_isWay, .code yX5_isWay cX5_isWay 5 (some .boolean), .methodLink RX5 51 yX5_weight, .instanceMethod yX5_weight, .selects RX5 yX5_weight yX5_weight, .code yX5_weight cX5_weight 4 (some .int), .methodLink RX5 54 yX5_next, .static yX5_next, .code yX5_next cX5_next 3 (some .int), .methodLink RX5 40 yX5_greatest, .static yX5_greatest, .code yX5_greatest cX5_greatest 3 (some .int)] ++ wsX50)
def wsX5_heaviest_r1 : List Cond := [Cond.methodLink RX5 33 yX5_in, Cond.static yX5_in, Cond.initialized RX5, Cond.code yX5_in cX5_in 3 (some .boolean), Cond.methodLink RX5 72 yX5_holds, Cond.instanceMethod yX5_holds, Cond.selects RX5 yX5_holds yX5_holds, Cond.code yX5_holds cX5_holds 2 (some .boolean), Cond.fieldLink RX5 29 "CoverWaysModel" "thrown" "I", Cond.methodLink RX5 136 yX5_heavy, Cond.instanceMethod yX5_heavy, Cond.selects RX5 yX5_heavy yX5_heavy, Cond.code yX5_heavy cX5_heavy 3 (some .int), Cond.methodLink RX5 79 yX5_heaviestWay, Cond.instanceMethod yX5_heaviestWay, Cond.selects RX5 yX5_heaviestWay yX5_heaviestWay, Cond.code yX5_heaviestWay cX5_heaviestWay 3 (some .int), Cond.methodLink RX5 48 yX5_isOpen, Cond.instanceMethod yX5_isOpen, Cond.selects RX5 yX5_isOpen yX5_isOpen, Cond.code yX5_isOpen cX5_isOpen 4 (some .boolean), Cond.fieldLink RX5 7 "CoverWaysModel" "s" "[I", Cond.methodLink RX5 44 yX5_isWay, Cond.instanceMethod yX5_isWay]
def wsX5_heaviest_r2 : List Cond := [Cond.selects RX5 yX5_isWay yX5_isWay, Cond.code yX5_isWay cX5_isWay 5 (some .boolean), Cond.methodLink RX5 51 yX5_weight, Cond.instanceMethod yX5_weight, Cond.selects RX5 yX5_weight yX5_weight, Cond.code yX5_weight cX5_weight 4 (some .int), Cond.methodLink RX5 54 yX5_next, Cond.static yX5_next, Cond.code yX5_next cX5_next 3 (some .int), Cond.methodLink RX5 40 yX5_greatest, Cond.static yX5_greatest, Cond.code yX5_greatest cX5_greatest 3 (some .int)]
def wsX5_heaviest : List Cond := .code yX5_heaviest cX5_heaviest 2 (some .int) :: ((wsX5_heaviest_r1 ++ wsX5_heaviest_r2) ++ wsX50)
def wsX5_openAt : List Cond := .code yX5_openAt cX5_openAt 4 (some .int) :: ([.methodLink RX5 48 yX5_isOpen, .instanceMethod yX5_isOpen, .selects RX5 yX5_isOpen yX5_isOpen, .initialized RX5, .code yX5_isOpen cX5_isOpen 4 (some .boolean), .fieldLink RX5 7 "CoverWaysModel" "s" "[I", .methodLink RX5 44 yX5_isWay, .instanceMethod yX5_isWay, .selects RX5 yX5_isWay yX5_isWay, .code yX5_isWay cX5_isWay 5 (some .boolean), .methodLink RX5 54 yX5_next, .static yX5_next, .code yX5_next cX5_next 3 (some .int), .methodLink RX5 40 yX5_greatest, .static yX5_greatest, .code yX5_greatest cX5_greatest 3 (some .int)] ++ wsX50)
def wsX5_openWay_r1 : List Cond := [Cond.methodLink RX5 72 yX5_holds, Cond.instanceMethod yX5_holds, Cond.selects RX5 yX5_holds yX5_holds, Cond.initialized RX5, Cond.code yX5_holds cX5_holds 2 (some .boolean), Cond.fieldLink RX5 29 "CoverWaysModel" "thrown" "I", Cond.methodLink RX5 139 yX5_openAt, Cond.instanceMethod yX5_openAt, Cond.selects RX5 yX5_openAt yX5_openAt, Cond.code yX5_openAt cX5_openAt 4 (some .int), Cond.methodLink RX5 48 yX5_isOpen, Cond.instanceMethod yX5_isOpen, Cond.selects RX5 yX5_isOpen yX5_isOpen, Cond.code yX5_isOpen cX5_isOpen 4 (some .boolean), Cond.fieldLink RX5 7 "CoverWaysModel" "s" "[I", Cond.methodLink RX5 44 yX5_isWay, Cond.instanceMethod yX5_isWay, Cond.selects RX5 yX5_isWay yX5_isWay, Cond.code yX5_isWay cX5_isWay 5 (some .boolean), Cond.methodLink RX5 54 yX5_next, Cond.static yX5_next, Cond.code yX5_next cX5_next 3 (some .int), Cond.methodLink RX5 40 yX5_greatest, Cond.static yX5_greatest]
def wsX5_openWay_r2 : List Cond := [Cond.code yX5_greatest cX5_greatest 3 (some .int)]
def wsX5_openWay : List Cond := .code yX5_openWay cX5_openWay 2 (some .int) :: ((wsX5_openWay_r1 ++ wsX5_openWay_r2) ++ wsX50)
def wsX5_unexplained_r1 : List Cond := [Cond.methodLink RX5 142 yX5_putAside, Cond.instanceMethod yX5_putAside, Cond.selects RX5 yX5_putAside yX5_putAside, Cond.initialized RX5, Cond.code yX5_putAside cX5_putAside 2 none, Cond.fieldLink RX5 13 "CoverWaysModel" "aside" "[I", Cond.fieldLink RX5 7 "CoverWaysModel" "s" "[I", Cond.methodLink RX5 86 yX5_splits, Cond.instanceMethod yX5_splits, Cond.selects RX5 yX5_splits yX5_splits, Cond.code yX5_splits cX5_splits 2 (some .int), Cond.methodLink RX5 83 yX5_steps, Cond.instanceMethod yX5_steps, Cond.selects RX5 yX5_steps yX5_steps, Cond.code yX5_steps cX5_steps 4 (some .int), Cond.methodLink RX5 79 yX5_heaviestWay, Cond.instanceMethod yX5_heaviestWay, Cond.selects RX5 yX5_heaviestWay yX5_heaviestWay, Cond.code yX5_heaviestWay cX5_heaviestWay 3 (some .int), Cond.methodLink RX5 48 yX5_isOpen, Cond.instanceMethod yX5_isOpen, Cond.selects RX5 yX5_isOpen yX5_isOpen, Cond.code yX5_isOpen cX5_isOpen 4 (some .boolean), Cond.methodLink RX5 44 yX5_isWay]
def wsX5_unexplained_r2 : List Cond := [Cond.instanceMethod yX5_isWay, Cond.selects RX5 yX5_isWay yX5_isWay, Cond.code yX5_isWay cX5_isWay 5 (some .boolean), Cond.methodLink RX5 51 yX5_weight, Cond.instanceMethod yX5_weight, Cond.selects RX5 yX5_weight yX5_weight, Cond.code yX5_weight cX5_weight 4 (some .int), Cond.methodLink RX5 54 yX5_next, Cond.static yX5_next, Cond.code yX5_next cX5_next 3 (some .int), Cond.methodLink RX5 40 yX5_greatest, Cond.static yX5_greatest, Cond.code yX5_greatest cX5_greatest 3 (some .int), Cond.methodLink RX5 127 yX5_sum, Cond.instanceMethod yX5_sum, Cond.selects RX5 yX5_sum yX5_sum, Cond.code yX5_sum cX5_sum 4 (some .int), Cond.methodLink RX5 145 yX5_putBack, Cond.instanceMethod yX5_putBack, Cond.selects RX5 yX5_putBack yX5_putBack, Cond.code yX5_putBack cX5_putBack 2 none]
def wsX5_unexplained : List Cond := .code yX5_unexplained cX5_unexplained 3 (some .int) :: ((wsX5_unexplained_r1 ++ wsX5_unexplained_r2) ++ wsX50)
def wsX5_ifSplit_r1 : List Cond := [Cond.fieldLink RX5 29 "CoverWaysModel" "thrown" "I", Cond.methodLink RX5 148 yX5_unexplained, Cond.instanceMethod yX5_unexplained, Cond.selects RX5 yX5_unexplained yX5_unexplained, Cond.initialized RX5, Cond.code yX5_unexplained cX5_unexplained 3 (some .int), Cond.methodLink RX5 142 yX5_putAside, Cond.instanceMethod yX5_putAside, Cond.selects RX5 yX5_putAside yX5_putAside, Cond.code yX5_putAside cX5_putAside 2 none, Cond.fieldLink RX5 13 "CoverWaysModel" "aside" "[I", Cond.fieldLink RX5 7 "CoverWaysModel" "s" "[I", Cond.methodLink RX5 86 yX5_splits, Cond.instanceMethod yX5_splits, Cond.selects RX5 yX5_splits yX5_splits, Cond.code yX5_splits cX5_splits 2 (some .int), Cond.methodLink RX5 83 yX5_steps, Cond.instanceMethod yX5_steps, Cond.selects RX5 yX5_steps yX5_steps, Cond.code yX5_steps cX5_steps 4 (some .int), Cond.methodLink RX5 79 yX5_heaviestWay, Cond.instanceMethod yX5_heaviestWay, Cond.selects RX5 yX5_heaviestWay yX5_heaviestWay, Cond.code yX5_heaviestWay cX5_heaviestWay 3 (some .int)]
def wsX5_ifSplit_r2 : List Cond := [Cond.methodLink RX5 48 yX5_isOpen, Cond.instanceMethod yX5_isOpen, Cond.selects RX5 yX5_isOpen yX5_isOpen, Cond.code yX5_isOpen cX5_isOpen 4 (some .boolean), Cond.methodLink RX5 44 yX5_isWay, Cond.instanceMethod yX5_isWay, Cond.selects RX5 yX5_isWay yX5_isWay, Cond.code yX5_isWay cX5_isWay 5 (some .boolean), Cond.methodLink RX5 51 yX5_weight, Cond.instanceMethod yX5_weight, Cond.selects RX5 yX5_weight yX5_weight, Cond.code yX5_weight cX5_weight 4 (some .int), Cond.methodLink RX5 54 yX5_next, Cond.static yX5_next, Cond.code yX5_next cX5_next 3 (some .int), Cond.methodLink RX5 40 yX5_greatest, Cond.static yX5_greatest, Cond.code yX5_greatest cX5_greatest 3 (some .int), Cond.methodLink RX5 127 yX5_sum, Cond.instanceMethod yX5_sum, Cond.selects RX5 yX5_sum yX5_sum, Cond.code yX5_sum cX5_sum 4 (some .int), Cond.methodLink RX5 145 yX5_putBack, Cond.instanceMethod yX5_putBack]
def wsX5_ifSplit_r3 : List Cond := [Cond.selects RX5 yX5_putBack yX5_putBack, Cond.code yX5_putBack cX5_putBack 2 none]
def wsX5_ifSplit : List Cond := .code yX5_ifSplit cX5_ifSplit 1 (some .int) :: ((wsX5_ifSplit_r1 ++ (wsX5_ifSplit_r2 ++ wsX5_ifSplit_r3)) ++ wsX50)
def wsX5_mainOne : List Cond := .code yX5_mainOne cX5_mainOne 5 (some .int) :: ([.methodLink RX5 117 yX5_ways, .instanceMethod yX5_ways, .selects RX5 yX5_ways yX5_ways, .initialized RX5, .code yX5_ways cX5_ways 5 (some .int), .methodLink RX5 48 yX5_isOpen, .instanceMethod yX5_isOpen, .selects RX5 yX5_isOpen yX5_isOpen, .code yX5_isOpen cX5_isOpen 4 (some .boolean), .fieldLink RX5 7 "CoverWaysModel" "s" "[I", .methodLink RX5 44 yX5_isWay, .instanceMethod yX5_isWay, .selects RX5 yX5_isWay yX5_isWay, .code yX5_isWay cX5_isWay 5 (some .boolean)] ++ wsX50)
def wsX5_mainPiece : List Cond := .code yX5_mainPiece cX5_mainPiece 1 (some .int) :: ([.fieldLink RX5 29 "CoverWaysModel" "thrown" "I", .methodLink RX5 151 yX5_mainOne, .instanceMethod yX5_mainOne, .selects RX5 yX5_mainOne yX5_mainOne, .initialized RX5, .code yX5_mainOne cX5_mainOne 5 (some .int), .methodLink RX5 117 yX5_ways, .instanceMethod yX5_ways, .selects RX5 yX5_ways yX5_ways, .code yX5_ways cX5_ways 5 (some .int), .methodLink RX5 48 yX5_isOpen, .instanceMethod yX5_isOpen, .selects RX5 yX5_isOpen yX5_isOpen, .code yX5_isOpen cX5_isOpen 4 (some .boolean), .fieldLink RX5 7 "CoverWaysModel" "s" "[I", .methodLink RX5 44 yX5_isWay, .instanceMethod yX5_isWay, .selects RX5 yX5_isWay yX5_isWay, .code yX5_isWay cX5_isWay 5 (some .boolean)] ++ wsX50)
def wsX5_share : List Cond := .code yX5_share cX5_share 1 (some .double) :: ([.methodLink RX5 127 yX5_sum, .instanceMethod yX5_sum, .selects RX5 yX5_sum yX5_sum, .initialized RX5, .code yX5_sum cX5_sum 4 (some .int), .fieldLink RX5 7 "CoverWaysModel" "s" "[I"] ++ wsX50)
def wsX5_explained : List Cond := .code yX5_explained cX5_explained 1 (some .double) :: ([.fieldLink RX5 29 "CoverWaysModel" "thrown" "I", .methodLink RX5 154 yX5_share, .instanceMethod yX5_share, .selects RX5 yX5_share yX5_share, .initialized RX5, .code yX5_share cX5_share 1 (some .double), .methodLink RX5 127 yX5_sum, .instanceMethod yX5_sum, .selects RX5 yX5_sum yX5_sum, .code yX5_sum cX5_sum 4 (some .int), .fieldLink RX5 7 "CoverWaysModel" "s" "[I"] ++ wsX50)
def wsX5_bitsOf : List Cond := .code yX5_bitsOf cX5_bitsOf 6 (some .long) :: ([.constantLong RX5 158 (1023), .constantDouble RX5 160 (4611686018427387904), .constantLong RX5 162 (4503599627370496), .constantDouble RX5 164 (4841369599423283200)])
def wsX5_digestOne : List Cond := .code yX5_digestOne cX5_digestOne 3 none :: ([.constantLong RX5 166 (31), .fieldLink RX5 168 "CoverWaysModel" "digested" "J"] ++ wsX50)
def wsX5_digestPiece_r1 : List Cond := [Cond.fieldLink RX5 7 "CoverWaysModel" "s" "[I", Cond.methodLink RX5 121 yX5_property, Cond.instanceMethod yX5_property, Cond.selects RX5 yX5_property yX5_property, Cond.initialized RX5, Cond.code yX5_property cX5_property 3 (some .int), Cond.methodLink RX5 114 yX5_joinsTo, Cond.instanceMethod yX5_joinsTo, Cond.selects RX5 yX5_joinsTo yX5_joinsTo, Cond.code yX5_joinsTo cX5_joinsTo 4 (some .int), Cond.methodLink RX5 60 yX5_many, Cond.static yX5_many, Cond.code yX5_many cX5_many 3 (some .int), Cond.methodLink RX5 57 yX5_behind, Cond.instanceMethod yX5_behind, Cond.selects RX5 yX5_behind yX5_behind, Cond.code yX5_behind cX5_behind 4 (some .int), Cond.methodLink RX5 117 yX5_ways, Cond.instanceMethod yX5_ways, Cond.selects RX5 yX5_ways yX5_ways, Cond.code yX5_ways cX5_ways 5 (some .int), Cond.methodLink RX5 48 yX5_isOpen, Cond.instanceMethod yX5_isOpen, Cond.selects RX5 yX5_isOpen yX5_isOpen]
def wsX5_digestPiece_r2 : List Cond := [Cond.code yX5_isOpen cX5_isOpen 4 (some .boolean), Cond.methodLink RX5 44 yX5_isWay, Cond.instanceMethod yX5_isWay, Cond.selects RX5 yX5_isWay yX5_isWay, Cond.code yX5_isWay cX5_isWay 5 (some .boolean), Cond.methodLink RX5 172 yX5_digestOne, Cond.instanceMethod yX5_digestOne, Cond.selects RX5 yX5_digestOne yX5_digestOne, Cond.code yX5_digestOne cX5_digestOne 3 none, Cond.constantLong RX5 166 (31), Cond.fieldLink RX5 168 "CoverWaysModel" "digested" "J"]
def wsX5_digestPiece : List Cond := .code yX5_digestPiece cX5_digestPiece 3 none :: ((wsX5_digestPiece_r1 ++ wsX5_digestPiece_r2) ++ wsX50)
def wsX5_digest_r1 : List Cond := [Cond.fieldLink RX5 29 "CoverWaysModel" "thrown" "I", Cond.constantLong RX5 176 (3617), Cond.fieldLink RX5 168 "CoverWaysModel" "digested" "J", Cond.fieldLink RX5 7 "CoverWaysModel" "s" "[I", Cond.fieldLink RX5 19 "CoverWaysModel" "isKept" "[Z", Cond.fieldLink RX5 89 "CoverWaysModel" "length" "I", Cond.fieldLink RX5 26 "CoverWaysModel" "text" "[I", Cond.methodLink RX5 133 yX5_counted, Cond.instanceMethod yX5_counted, Cond.selects RX5 yX5_counted yX5_counted, Cond.initialized RX5, Cond.code yX5_counted cX5_counted 2 (some .int), Cond.fieldLink RX5 37 "CoverWaysModel" "savedMany" "I", Cond.methodLink RX5 111 yX5_joins, Cond.instanceMethod yX5_joins, Cond.selects RX5 yX5_joins yX5_joins, Cond.code yX5_joins cX5_joins 3 (some .int), Cond.methodLink RX5 60 yX5_many, Cond.static yX5_many, Cond.code yX5_many cX5_many 3 (some .int), Cond.methodLink RX5 127 yX5_sum, Cond.instanceMethod yX5_sum, Cond.selects RX5 yX5_sum yX5_sum, Cond.code yX5_sum cX5_sum 4 (some .int)]
def wsX5_digest_r2 : List Cond := [Cond.methodLink RX5 117 yX5_ways, Cond.instanceMethod yX5_ways, Cond.selects RX5 yX5_ways yX5_ways, Cond.code yX5_ways cX5_ways 5 (some .int), Cond.methodLink RX5 48 yX5_isOpen, Cond.instanceMethod yX5_isOpen, Cond.selects RX5 yX5_isOpen yX5_isOpen, Cond.code yX5_isOpen cX5_isOpen 4 (some .boolean), Cond.methodLink RX5 44 yX5_isWay, Cond.instanceMethod yX5_isWay, Cond.selects RX5 yX5_isWay yX5_isWay, Cond.code yX5_isWay cX5_isWay 5 (some .boolean), Cond.methodLink RX5 130 yX5_rows, Cond.instanceMethod yX5_rows, Cond.selects RX5 yX5_rows yX5_rows, Cond.code yX5_rows cX5_rows 5 (some .int), Cond.methodLink RX5 57 yX5_behind, Cond.instanceMethod yX5_behind, Cond.selects RX5 yX5_behind yX5_behind, Cond.code yX5_behind cX5_behind 4 (some .int), Cond.methodLink RX5 172 yX5_digestOne, Cond.instanceMethod yX5_digestOne, Cond.selects RX5 yX5_digestOne yX5_digestOne, Cond.code yX5_digestOne cX5_digestOne 3 none]
def wsX5_digest_r3 : List Cond := [Cond.constantLong RX5 166 (31), Cond.methodLink RX5 178 yX5_digestPiece, Cond.instanceMethod yX5_digestPiece, Cond.selects RX5 yX5_digestPiece yX5_digestPiece, Cond.code yX5_digestPiece cX5_digestPiece 3 none, Cond.methodLink RX5 121 yX5_property, Cond.instanceMethod yX5_property, Cond.selects RX5 yX5_property yX5_property, Cond.code yX5_property cX5_property 3 (some .int), Cond.methodLink RX5 114 yX5_joinsTo, Cond.instanceMethod yX5_joinsTo, Cond.selects RX5 yX5_joinsTo yX5_joinsTo, Cond.code yX5_joinsTo cX5_joinsTo 4 (some .int), Cond.methodLink RX5 124 yX5_note, Cond.instanceMethod yX5_note, Cond.selects RX5 yX5_note yX5_note, Cond.code yX5_note cX5_note 3 (some .int), Cond.methodLink RX5 136 yX5_heavy, Cond.instanceMethod yX5_heavy, Cond.selects RX5 yX5_heavy yX5_heavy, Cond.code yX5_heavy cX5_heavy 3 (some .int), Cond.methodLink RX5 79 yX5_heaviestWay, Cond.instanceMethod yX5_heaviestWay, Cond.selects RX5 yX5_heaviestWay yX5_heaviestWay]
def wsX5_digest_r4 : List Cond := [Cond.code yX5_heaviestWay cX5_heaviestWay 3 (some .int), Cond.methodLink RX5 51 yX5_weight, Cond.instanceMethod yX5_weight, Cond.selects RX5 yX5_weight yX5_weight, Cond.code yX5_weight cX5_weight 4 (some .int), Cond.methodLink RX5 54 yX5_next, Cond.static yX5_next, Cond.code yX5_next cX5_next 3 (some .int), Cond.methodLink RX5 40 yX5_greatest, Cond.static yX5_greatest, Cond.code yX5_greatest cX5_greatest 3 (some .int), Cond.methodLink RX5 139 yX5_openAt, Cond.instanceMethod yX5_openAt, Cond.selects RX5 yX5_openAt yX5_openAt, Cond.code yX5_openAt cX5_openAt 4 (some .int), Cond.methodLink RX5 148 yX5_unexplained, Cond.instanceMethod yX5_unexplained, Cond.selects RX5 yX5_unexplained yX5_unexplained, Cond.code yX5_unexplained cX5_unexplained 3 (some .int), Cond.methodLink RX5 142 yX5_putAside, Cond.instanceMethod yX5_putAside, Cond.selects RX5 yX5_putAside yX5_putAside, Cond.code yX5_putAside cX5_putAside 2 none, Cond.fieldLink RX5 13 "CoverWaysModel" "aside" "[I"]
def wsX5_digest_r5 : List Cond := [Cond.methodLink RX5 86 yX5_splits, Cond.instanceMethod yX5_splits, Cond.selects RX5 yX5_splits yX5_splits, Cond.code yX5_splits cX5_splits 2 (some .int), Cond.methodLink RX5 83 yX5_steps, Cond.instanceMethod yX5_steps, Cond.selects RX5 yX5_steps yX5_steps, Cond.code yX5_steps cX5_steps 4 (some .int), Cond.methodLink RX5 145 yX5_putBack, Cond.instanceMethod yX5_putBack, Cond.selects RX5 yX5_putBack yX5_putBack, Cond.code yX5_putBack cX5_putBack 2 none, Cond.methodLink RX5 151 yX5_mainOne, Cond.instanceMethod yX5_mainOne, Cond.selects RX5 yX5_mainOne yX5_mainOne, Cond.code yX5_mainOne cX5_mainOne 5 (some .int), Cond.methodLink RX5 154 yX5_share, Cond.instanceMethod yX5_share, Cond.selects RX5 yX5_share yX5_share, Cond.code yX5_share cX5_share 1 (some .double), Cond.methodLink RX5 182 yX5_bitsOf, Cond.static yX5_bitsOf, Cond.code yX5_bitsOf cX5_bitsOf 6 (some .long), Cond.constantLong RX5 158 (1023)]
def wsX5_digest_r6 : List Cond := [Cond.constantDouble RX5 160 (4611686018427387904), Cond.constantLong RX5 162 (4503599627370496), Cond.constantDouble RX5 164 (4841369599423283200)]
def wsX5_digest : List Cond := .code yX5_digest cX5_digest 2 (some .long) :: ((wsX5_digest_r1 ++ (wsX5_digest_r2 ++ (wsX5_digest_r3 ++ (wsX5_digest_r4 ++ (wsX5_digest_r5 ++ wsX5_digest_r6))))) ++ wsX50)
def wsL_cover_r1 : List Cond := [Cond.classLink RL 13 "java/lang/IndexOutOfBoundsException", Cond.classLink RL 15 "java/lang/IllegalArgumentException", Cond.methodLink RL 7 yX4_cover, Cond.instanceMethod yX4_cover, Cond.selects RX4 yX4_cover yX4_cover, Cond.initialized RX4, Cond.code yX4_cover cX4_cover 4 (some .int), Cond.classLink RX4 59 "java/lang/IndexOutOfBoundsException", Cond.initialized "java/lang/IndexOutOfBoundsException", Cond.classLink RX4 66 "java/lang/IllegalArgumentException", Cond.initialized "java/lang/IllegalArgumentException", Cond.fieldLink RX4 12 "CoverWays" "now" "LCoverWays$State;", Cond.fieldLink RX4 74 "CoverWays$State" "covers" "[I", Cond.methodLink RX4 55 yX4_isPiece, Cond.static yX4_isPiece, Cond.code yX4_isPiece cX4_isPiece 1 (some .boolean), Cond.methodLink RX4 71 yX4_saveState, Cond.instanceMethod yX4_saveState, Cond.selects RX4 yX4_saveState yX4_saveState, Cond.code yX4_saveState cX4_saveState 1 none, Cond.fieldLink RX4 154 "CoverWays" "savedStates" "I", Cond.fieldLink RX4 19 "CoverWays" "saved" "[LCoverWays$State;", Cond.methodLink RX4 288 yX4_dropOldest, Cond.instanceMethod yX4_dropOldest]
def wsL_cover_r2 : List Cond := [Cond.selects RX4 yX4_dropOldest yX4_dropOldest, Cond.code yX4_dropOldest cX4_dropOldest 3 none, Cond.methodLink RX4 148 yX4_copyState, Cond.static yX4_copyState, Cond.code yX4_copyState cX4_copyState 2 none, Cond.methodLink RX4 137 yX1_copyGraph, Cond.instanceMethod yX1_copyGraph, Cond.selects RX1 yX1_copyGraph yX1_copyGraph, Cond.initialized RX1, Cond.code yX1_copyGraph cX1_copyGraph 3 none, Cond.fieldLink RX1 9 "CoverWays$State" "covers" "[I", Cond.fieldLink RX1 15 "CoverWays$State" "marks" "[I", Cond.fieldLink RX1 18 "CoverWays$State" "joins" "[I", Cond.fieldLink RX1 21 "CoverWays$State" "bars" "[I", Cond.methodLink RX4 291 yX1_copySplitting, Cond.instanceMethod yX1_copySplitting, Cond.selects RX1 yX1_copySplitting yX1_copySplitting, Cond.code yX1_copySplitting cX1_copySplitting 3 none, Cond.fieldLink RX1 24 "CoverWays$State" "rests" "[I", Cond.fieldLink RX1 27 "CoverWays$State" "notedWeights" "[I", Cond.fieldLink RX1 30 "CoverWays$State" "notedMasks" "[I", Cond.fieldLink RX1 33 "CoverWays$State" "notedWays" "I", Cond.fieldLink RX1 37 "CoverWays$State" "steps" "I", Cond.fieldLink RX1 40 "CoverWays$State" "refusals" "I"]
def wsL_cover_r3 : List Cond := [Cond.methodLink RX4 77 yX1_beginAnew, Cond.instanceMethod yX1_beginAnew, Cond.selects RX1 yX1_beginAnew yX1_beginAnew, Cond.code yX1_beginAnew cX1_beginAnew 2 none]
def wsL_cover : List Cond := .codeWith yL_cover cL_cover 5 (some .int) [(0, 10, 13, 13), (0, 10, 17, 15)] :: ((wsL_cover_r1 ++ (wsL_cover_r2 ++ wsL_cover_r3)) ++ wsX40 ++ wsX10 ++ (vx_atS RX4 63 "java/lang/IndexOutOfBoundsException" ["java/lang/RuntimeException", "java/lang/Exception"]).filter goodWord ++ (vx_atS RX4 70 "java/lang/IllegalArgumentException" ["java/lang/RuntimeException", "java/lang/Exception"]).filter goodWord)
def wsL_join_r1 : List Cond := [Cond.classLink RL 13 "java/lang/IndexOutOfBoundsException", Cond.classLink RL 15 "java/lang/IllegalArgumentException", Cond.methodLink RL 17 yX4_join, Cond.instanceMethod yX4_join, Cond.selects RX4 yX4_join yX4_join, Cond.initialized RX4, Cond.code yX4_join cX4_join 3 (some .int), Cond.classLink RX4 59 "java/lang/IndexOutOfBoundsException", Cond.initialized "java/lang/IndexOutOfBoundsException", Cond.classLink RX4 66 "java/lang/IllegalArgumentException", Cond.initialized "java/lang/IllegalArgumentException", Cond.fieldLink RX4 12 "CoverWays" "now" "LCoverWays$State;", Cond.fieldLink RX4 82 "CoverWays$State" "joins" "[I", Cond.methodLink RX4 55 yX4_isPiece, Cond.static yX4_isPiece, Cond.code yX4_isPiece cX4_isPiece 1 (some .boolean), Cond.methodLink RX4 71 yX4_saveState, Cond.instanceMethod yX4_saveState, Cond.selects RX4 yX4_saveState yX4_saveState, Cond.code yX4_saveState cX4_saveState 1 none, Cond.fieldLink RX4 154 "CoverWays" "savedStates" "I", Cond.fieldLink RX4 19 "CoverWays" "saved" "[LCoverWays$State;", Cond.methodLink RX4 288 yX4_dropOldest, Cond.instanceMethod yX4_dropOldest]
def wsL_join_r2 : List Cond := [Cond.selects RX4 yX4_dropOldest yX4_dropOldest, Cond.code yX4_dropOldest cX4_dropOldest 3 none, Cond.methodLink RX4 148 yX4_copyState, Cond.static yX4_copyState, Cond.code yX4_copyState cX4_copyState 2 none, Cond.methodLink RX4 137 yX1_copyGraph, Cond.instanceMethod yX1_copyGraph, Cond.selects RX1 yX1_copyGraph yX1_copyGraph, Cond.initialized RX1, Cond.code yX1_copyGraph cX1_copyGraph 3 none, Cond.fieldLink RX1 9 "CoverWays$State" "covers" "[I", Cond.fieldLink RX1 15 "CoverWays$State" "marks" "[I", Cond.fieldLink RX1 18 "CoverWays$State" "joins" "[I", Cond.fieldLink RX1 21 "CoverWays$State" "bars" "[I", Cond.methodLink RX4 291 yX1_copySplitting, Cond.instanceMethod yX1_copySplitting, Cond.selects RX1 yX1_copySplitting yX1_copySplitting, Cond.code yX1_copySplitting cX1_copySplitting 3 none, Cond.fieldLink RX1 24 "CoverWays$State" "rests" "[I", Cond.fieldLink RX1 27 "CoverWays$State" "notedWeights" "[I", Cond.fieldLink RX1 30 "CoverWays$State" "notedMasks" "[I", Cond.fieldLink RX1 33 "CoverWays$State" "notedWays" "I", Cond.fieldLink RX1 37 "CoverWays$State" "steps" "I", Cond.fieldLink RX1 40 "CoverWays$State" "refusals" "I"]
def wsL_join_r3 : List Cond := [Cond.methodLink RX4 77 yX1_beginAnew, Cond.instanceMethod yX1_beginAnew, Cond.selects RX1 yX1_beginAnew yX1_beginAnew, Cond.code yX1_beginAnew cX1_beginAnew 2 none, Cond.methodLink RX4 85 yX4_bit, Cond.static yX4_bit, Cond.code yX4_bit cX4_bit 2 (some .int)]
def wsL_join : List Cond := .codeWith yL_join cL_join 5 (some .int) [(0, 10, 13, 13), (0, 10, 17, 15)] :: ((wsL_join_r1 ++ (wsL_join_r2 ++ wsL_join_r3)) ++ wsX40 ++ wsX10 ++ (vx_atS RX4 63 "java/lang/IndexOutOfBoundsException" ["java/lang/RuntimeException", "java/lang/Exception"]).filter goodWord ++ (vx_atS RX4 70 "java/lang/IllegalArgumentException" ["java/lang/RuntimeException", "java/lang/Exception"]).filter goodWord)
def wsL_mark_r1 : List Cond := [Cond.classLink RL 13 "java/lang/IndexOutOfBoundsException", Cond.classLink RL 15 "java/lang/IllegalArgumentException", Cond.methodLink RL 20 yX4_mark, Cond.instanceMethod yX4_mark, Cond.selects RX4 yX4_mark yX4_mark, Cond.initialized RX4, Cond.code yX4_mark cX4_mark 4 (some .int), Cond.classLink RX4 59 "java/lang/IndexOutOfBoundsException", Cond.initialized "java/lang/IndexOutOfBoundsException", Cond.classLink RX4 66 "java/lang/IllegalArgumentException", Cond.initialized "java/lang/IllegalArgumentException", Cond.fieldLink RX4 12 "CoverWays" "now" "LCoverWays$State;", Cond.fieldLink RX4 51 "CoverWays$State" "marks" "[I", Cond.methodLink RX4 55 yX4_isPiece, Cond.static yX4_isPiece, Cond.code yX4_isPiece cX4_isPiece 1 (some .boolean), Cond.methodLink RX4 71 yX4_saveState, Cond.instanceMethod yX4_saveState, Cond.selects RX4 yX4_saveState yX4_saveState, Cond.code yX4_saveState cX4_saveState 1 none, Cond.fieldLink RX4 154 "CoverWays" "savedStates" "I", Cond.fieldLink RX4 19 "CoverWays" "saved" "[LCoverWays$State;", Cond.methodLink RX4 288 yX4_dropOldest, Cond.instanceMethod yX4_dropOldest]
def wsL_mark_r2 : List Cond := [Cond.selects RX4 yX4_dropOldest yX4_dropOldest, Cond.code yX4_dropOldest cX4_dropOldest 3 none, Cond.methodLink RX4 148 yX4_copyState, Cond.static yX4_copyState, Cond.code yX4_copyState cX4_copyState 2 none, Cond.methodLink RX4 137 yX1_copyGraph, Cond.instanceMethod yX1_copyGraph, Cond.selects RX1 yX1_copyGraph yX1_copyGraph, Cond.initialized RX1, Cond.code yX1_copyGraph cX1_copyGraph 3 none, Cond.fieldLink RX1 9 "CoverWays$State" "covers" "[I", Cond.fieldLink RX1 15 "CoverWays$State" "marks" "[I", Cond.fieldLink RX1 18 "CoverWays$State" "joins" "[I", Cond.fieldLink RX1 21 "CoverWays$State" "bars" "[I", Cond.methodLink RX4 291 yX1_copySplitting, Cond.instanceMethod yX1_copySplitting, Cond.selects RX1 yX1_copySplitting yX1_copySplitting, Cond.code yX1_copySplitting cX1_copySplitting 3 none, Cond.fieldLink RX1 24 "CoverWays$State" "rests" "[I", Cond.fieldLink RX1 27 "CoverWays$State" "notedWeights" "[I", Cond.fieldLink RX1 30 "CoverWays$State" "notedMasks" "[I", Cond.fieldLink RX1 33 "CoverWays$State" "notedWays" "I", Cond.fieldLink RX1 37 "CoverWays$State" "steps" "I", Cond.fieldLink RX1 40 "CoverWays$State" "refusals" "I"]
def wsL_mark_r3 : List Cond := [Cond.methodLink RX4 77 yX1_beginAnew, Cond.instanceMethod yX1_beginAnew, Cond.selects RX1 yX1_beginAnew yX1_beginAnew, Cond.code yX1_beginAnew cX1_beginAnew 2 none]
def wsL_mark : List Cond := .codeWith yL_mark cL_mark 5 (some .int) [(0, 10, 13, 13), (0, 10, 17, 15)] :: ((wsL_mark_r1 ++ (wsL_mark_r2 ++ wsL_mark_r3)) ++ wsX40 ++ wsX10 ++ (vx_atS RX4 63 "java/lang/IndexOutOfBoundsException" ["java/lang/RuntimeException", "java/lang/Exception"]).filter goodWord ++ (vx_atS RX4 70 "java/lang/IllegalArgumentException" ["java/lang/RuntimeException", "java/lang/Exception"]).filter goodWord)
def wsL_bar_r1 : List Cond := [Cond.classLink RL 13 "java/lang/IndexOutOfBoundsException", Cond.classLink RL 15 "java/lang/IllegalArgumentException", Cond.methodLink RL 23 yX4_bar, Cond.instanceMethod yX4_bar, Cond.selects RX4 yX4_bar yX4_bar, Cond.initialized RX4, Cond.code yX4_bar cX4_bar 3 (some .int), Cond.classLink RX4 59 "java/lang/IndexOutOfBoundsException", Cond.initialized "java/lang/IndexOutOfBoundsException", Cond.classLink RX4 66 "java/lang/IllegalArgumentException", Cond.initialized "java/lang/IllegalArgumentException", Cond.fieldLink RX4 12 "CoverWays" "now" "LCoverWays$State;", Cond.fieldLink RX4 93 "CoverWays$State" "bars" "[I", Cond.methodLink RX4 55 yX4_isPiece, Cond.static yX4_isPiece, Cond.code yX4_isPiece cX4_isPiece 1 (some .boolean), Cond.methodLink RX4 71 yX4_saveState, Cond.instanceMethod yX4_saveState, Cond.selects RX4 yX4_saveState yX4_saveState, Cond.code yX4_saveState cX4_saveState 1 none, Cond.fieldLink RX4 154 "CoverWays" "savedStates" "I", Cond.fieldLink RX4 19 "CoverWays" "saved" "[LCoverWays$State;", Cond.methodLink RX4 288 yX4_dropOldest, Cond.instanceMethod yX4_dropOldest]
def wsL_bar_r2 : List Cond := [Cond.selects RX4 yX4_dropOldest yX4_dropOldest, Cond.code yX4_dropOldest cX4_dropOldest 3 none, Cond.methodLink RX4 148 yX4_copyState, Cond.static yX4_copyState, Cond.code yX4_copyState cX4_copyState 2 none, Cond.methodLink RX4 137 yX1_copyGraph, Cond.instanceMethod yX1_copyGraph, Cond.selects RX1 yX1_copyGraph yX1_copyGraph, Cond.initialized RX1, Cond.code yX1_copyGraph cX1_copyGraph 3 none, Cond.fieldLink RX1 9 "CoverWays$State" "covers" "[I", Cond.fieldLink RX1 15 "CoverWays$State" "marks" "[I", Cond.fieldLink RX1 18 "CoverWays$State" "joins" "[I", Cond.fieldLink RX1 21 "CoverWays$State" "bars" "[I", Cond.methodLink RX4 291 yX1_copySplitting, Cond.instanceMethod yX1_copySplitting, Cond.selects RX1 yX1_copySplitting yX1_copySplitting, Cond.code yX1_copySplitting cX1_copySplitting 3 none, Cond.fieldLink RX1 24 "CoverWays$State" "rests" "[I", Cond.fieldLink RX1 27 "CoverWays$State" "notedWeights" "[I", Cond.fieldLink RX1 30 "CoverWays$State" "notedMasks" "[I", Cond.fieldLink RX1 33 "CoverWays$State" "notedWays" "I", Cond.fieldLink RX1 37 "CoverWays$State" "steps" "I", Cond.fieldLink RX1 40 "CoverWays$State" "refusals" "I"]
def wsL_bar_r3 : List Cond := [Cond.methodLink RX4 77 yX1_beginAnew, Cond.instanceMethod yX1_beginAnew, Cond.selects RX1 yX1_beginAnew yX1_beginAnew, Cond.code yX1_beginAnew cX1_beginAnew 2 none, Cond.methodLink RX4 85 yX4_bit, Cond.static yX4_bit, Cond.code yX4_bit cX4_bit 2 (some .int)]
def wsL_bar : List Cond := .codeWith yL_bar cL_bar 5 (some .int) [(0, 10, 13, 13), (0, 10, 17, 15)] :: ((wsL_bar_r1 ++ (wsL_bar_r2 ++ wsL_bar_r3)) ++ wsX40 ++ wsX10 ++ (vx_atS RX4 63 "java/lang/IndexOutOfBoundsException" ["java/lang/RuntimeException", "java/lang/Exception"]).filter goodWord ++ (vx_atS RX4 70 "java/lang/IllegalArgumentException" ["java/lang/RuntimeException", "java/lang/Exception"]).filter goodWord)
def wsL_append : List Cond := .codeWith yL_append cL_append 4 (some .int) [(0, 9, 12, 15), (0, 9, 15, 30)] :: ([.classLink RL 15 "java/lang/IllegalArgumentException", .classLink RL 30 "java/lang/IllegalStateException", .methodLink RL 26 yX4_append, .instanceMethod yX4_append, .selects RX4 yX4_append yX4_append, .initialized RX4, .code yX4_append cX4_append 2 (some .int), .classLink RX4 66 "java/lang/IllegalArgumentException", .initialized "java/lang/IllegalArgumentException", .classLink RX4 116 "java/lang/IllegalStateException", .initialized "java/lang/IllegalStateException", .fieldLink RX4 33 "CoverWays" "text" "LCoverWays$Text;", .fieldLink RX4 113 "CoverWays$Text" "length" "I", .fieldLink RX4 121 "CoverWays$Text" "codes" "[I"] ++ wsX40 ++ wsX20 ++ (vx_atS RX4 70 "java/lang/IllegalArgumentException" ["java/lang/RuntimeException", "java/lang/Exception"]).filter goodWord ++ (vx_atS RX4 120 "java/lang/IllegalStateException" ["java/lang/RuntimeException", "java/lang/Exception"]).filter goodWord)
def wsL_load_r1 : List Cond := [Cond.classLink RL 15 "java/lang/IllegalArgumentException", Cond.methodLink RL 32 yX4_load, Cond.instanceMethod yX4_load, Cond.selects RX4 yX4_load yX4_load, Cond.initialized RX4, Cond.code yX4_load cX4_load 1 (some .int), Cond.classLink RX4 66 "java/lang/IllegalArgumentException", Cond.initialized "java/lang/IllegalArgumentException", Cond.fieldLink RX4 33 "CoverWays" "text" "LCoverWays$Text;", Cond.fieldLink RX4 113 "CoverWays$Text" "length" "I", Cond.fieldLink RX4 12 "CoverWays" "now" "LCoverWays$State;", Cond.fieldLink RX4 134 "CoverWays$Text" "graph" "LCoverWays$State;", Cond.methodLink RX4 124 yX2_read, Cond.instanceMethod yX2_read, Cond.selects RX2 yX2_read yX2_read, Cond.initialized RX2, Cond.code yX2_read cX2_read 2 (some .int), Cond.fieldLink RX2 18 "CoverWays$Text" "graph" "LCoverWays$State;", Cond.fieldLink RX2 25 "CoverWays$Text" "place" "I", Cond.fieldLink RX2 29 "CoverWays$Text" "length" "I", Cond.fieldLink RX2 9 "CoverWays$Text" "codes" "[I", Cond.methodLink RX2 22 yX1_clearGraph, Cond.instanceMethod yX1_clearGraph, Cond.selects RX1 yX1_clearGraph yX1_clearGraph]
def wsL_load_r2 : List Cond := [Cond.initialized RX1, Cond.code yX1_clearGraph cX1_clearGraph 2 none, Cond.fieldLink RX1 9 "CoverWays$State" "covers" "[I", Cond.fieldLink RX1 15 "CoverWays$State" "marks" "[I", Cond.fieldLink RX1 18 "CoverWays$State" "joins" "[I", Cond.fieldLink RX1 21 "CoverWays$State" "bars" "[I", Cond.methodLink RX2 32 yX2_takeCode, Cond.instanceMethod yX2_takeCode, Cond.selects RX2 yX2_takeCode yX2_takeCode, Cond.code yX2_takeCode cX2_takeCode 2 (some .boolean), Cond.fieldLink RX2 36 "CoverWays$Text" "kind" "I", Cond.fieldLink RX2 45 "CoverWays$State" "covers" "[I", Cond.fieldLink RX2 48 "CoverWays$Text" "first" "I", Cond.methodLink RX2 39 yX2_takeFirst, Cond.instanceMethod yX2_takeFirst, Cond.selects RX2 yX2_takeFirst yX2_takeFirst, Cond.code yX2_takeFirst cX2_takeFirst 2 (some .boolean), Cond.fieldLink RX2 64 "CoverWays$State" "marks" "[I", Cond.static yX4_isPiece, Cond.code yX4_isPiece cX4_isPiece 1 (some .boolean), Cond.methodLink RX2 42 yX2_takeSecond, Cond.instanceMethod yX2_takeSecond, Cond.selects RX2 yX2_takeSecond yX2_takeSecond, Cond.code yX2_takeSecond cX2_takeSecond 2 (some .boolean)]
def wsL_load_r3 : List Cond := [Cond.fieldLink RX2 67 "CoverWays$State" "joins" "[I", Cond.fieldLink RX2 70 "CoverWays$State" "bars" "[I", Cond.methodLink RX2 51 yX2_takeDigit, Cond.instanceMethod yX2_takeDigit, Cond.selects RX2 yX2_takeDigit yX2_takeDigit, Cond.code yX2_takeDigit cX2_takeDigit 2 (some .boolean), Cond.methodLink RX2 54 yX2_takeSeparator, Cond.instanceMethod yX2_takeSeparator, Cond.selects RX2 yX2_takeSeparator yX2_takeSeparator, Cond.code yX2_takeSeparator cX2_takeSeparator 2 (some .boolean), Cond.methodLink RX2 57 yX2_canGrow, Cond.instanceMethod yX2_canGrow, Cond.selects RX2 yX2_canGrow yX2_canGrow, Cond.code yX2_canGrow cX2_canGrow 2 (some .boolean), Cond.methodLink RX4 128 yX2_isWhole, Cond.instanceMethod yX2_isWhole, Cond.selects RX2 yX2_isWhole yX2_isWhole, Cond.code yX2_isWhole cX2_isWhole 1 (some .boolean), Cond.methodLink RX4 71 yX4_saveState, Cond.instanceMethod yX4_saveState, Cond.selects RX4 yX4_saveState yX4_saveState, Cond.code yX4_saveState cX4_saveState 1 none, Cond.fieldLink RX4 154 "CoverWays" "savedStates" "I", Cond.fieldLink RX4 19 "CoverWays" "saved" "[LCoverWays$State;"]
def wsL_load_r4 : List Cond := [Cond.methodLink RX4 288 yX4_dropOldest, Cond.instanceMethod yX4_dropOldest, Cond.selects RX4 yX4_dropOldest yX4_dropOldest, Cond.code yX4_dropOldest cX4_dropOldest 3 none, Cond.methodLink RX4 148 yX4_copyState, Cond.static yX4_copyState, Cond.code yX4_copyState cX4_copyState 2 none, Cond.methodLink RX4 137 yX1_copyGraph, Cond.instanceMethod yX1_copyGraph, Cond.selects RX1 yX1_copyGraph yX1_copyGraph, Cond.code yX1_copyGraph cX1_copyGraph 3 none, Cond.methodLink RX4 291 yX1_copySplitting, Cond.instanceMethod yX1_copySplitting, Cond.selects RX1 yX1_copySplitting yX1_copySplitting, Cond.code yX1_copySplitting cX1_copySplitting 3 none, Cond.fieldLink RX1 24 "CoverWays$State" "rests" "[I", Cond.fieldLink RX1 27 "CoverWays$State" "notedWeights" "[I", Cond.fieldLink RX1 30 "CoverWays$State" "notedMasks" "[I", Cond.fieldLink RX1 33 "CoverWays$State" "notedWays" "I", Cond.fieldLink RX1 37 "CoverWays$State" "steps" "I", Cond.fieldLink RX1 40 "CoverWays$State" "refusals" "I", Cond.methodLink RX4 77 yX1_beginAnew, Cond.instanceMethod yX1_beginAnew, Cond.selects RX1 yX1_beginAnew yX1_beginAnew]
def wsL_load_r5 : List Cond := [Cond.code yX1_beginAnew cX1_beginAnew 2 none, Cond.methodLink RX4 140 yX1_countJoins, Cond.instanceMethod yX1_countJoins, Cond.selects RX1 yX1_countJoins yX1_countJoins, Cond.code yX1_countJoins cX1_countJoins 3 (some .int), Cond.methodLink RX1 43 yJ6_bitCount_0f7a4, Cond.static yJ6_bitCount_0f7a4, Cond.initialized RJ6, Cond.code yJ6_bitCount_0f7a4 cJ6_bitCount_0f7a4 1 (some .int), Cond.constant RJ6 265 (1431655765), Cond.constant RJ6 266 (858993459), Cond.constant RJ6 267 (252645135)]
def wsL_load : List Cond := .codeWith yL_load cL_load 3 (some .int) [(0, 8, 11, 15)] :: ((wsL_load_r1 ++ (wsL_load_r2 ++ (wsL_load_r3 ++ (wsL_load_r4 ++ wsL_load_r5)))) ++ wsX40 ++ wsX20 ++ wsX10 ++ (vx_atS RX4 70 "java/lang/IllegalArgumentException" ["java/lang/RuntimeException", "java/lang/Exception"]).filter goodWord)
def wsL_keep_r1 : List Cond := [Cond.classLink RL 15 "java/lang/IllegalArgumentException", Cond.methodLink RL 36 yX4_keep, Cond.instanceMethod yX4_keep, Cond.selects RX4 yX4_keep yX4_keep, Cond.initialized RX4, Cond.code yX4_keep cX4_keep 2 (some .int), Cond.classLink RX4 66 "java/lang/IllegalArgumentException", Cond.initialized "java/lang/IllegalArgumentException", Cond.fieldLink RX4 12 "CoverWays" "now" "LCoverWays$State;", Cond.fieldLink RX4 23 "CoverWays" "snapshots" "[LCoverWays$State;", Cond.fieldLink RX4 26 "CoverWays" "isKept" "[Z", Cond.methodLink RX4 143 yX4_isSlot, Cond.static yX4_isSlot, Cond.code yX4_isSlot cX4_isSlot 1 (some .boolean), Cond.methodLink RX4 148 yX4_copyState, Cond.static yX4_copyState, Cond.code yX4_copyState cX4_copyState 2 none, Cond.methodLink RX4 137 yX1_copyGraph, Cond.instanceMethod yX1_copyGraph, Cond.selects RX1 yX1_copyGraph yX1_copyGraph, Cond.initialized RX1, Cond.code yX1_copyGraph cX1_copyGraph 3 none, Cond.fieldLink RX1 9 "CoverWays$State" "covers" "[I", Cond.fieldLink RX1 15 "CoverWays$State" "marks" "[I"]
def wsL_keep_r2 : List Cond := [Cond.fieldLink RX1 18 "CoverWays$State" "joins" "[I", Cond.fieldLink RX1 21 "CoverWays$State" "bars" "[I", Cond.methodLink RX4 291 yX1_copySplitting, Cond.instanceMethod yX1_copySplitting, Cond.selects RX1 yX1_copySplitting yX1_copySplitting, Cond.code yX1_copySplitting cX1_copySplitting 3 none, Cond.fieldLink RX1 24 "CoverWays$State" "rests" "[I", Cond.fieldLink RX1 27 "CoverWays$State" "notedWeights" "[I", Cond.fieldLink RX1 30 "CoverWays$State" "notedMasks" "[I", Cond.fieldLink RX1 33 "CoverWays$State" "notedWays" "I", Cond.fieldLink RX1 37 "CoverWays$State" "steps" "I", Cond.fieldLink RX1 40 "CoverWays$State" "refusals" "I", Cond.methodLink RX4 140 yX1_countJoins, Cond.instanceMethod yX1_countJoins, Cond.selects RX1 yX1_countJoins yX1_countJoins, Cond.code yX1_countJoins cX1_countJoins 3 (some .int), Cond.methodLink RX1 43 yJ6_bitCount_0f7a4, Cond.static yJ6_bitCount_0f7a4, Cond.initialized RJ6, Cond.code yJ6_bitCount_0f7a4 cJ6_bitCount_0f7a4 1 (some .int), Cond.constant RJ6 265 (1431655765), Cond.constant RJ6 266 (858993459), Cond.constant RJ6 267 (252645135)]
def wsL_keep : List Cond := .codeWith yL_keep cL_keep 4 (some .int) [(0, 9, 12, 15)] :: ((wsL_keep_r1 ++ wsL_keep_r2) ++ wsX40 ++ wsX10 ++ (vx_atS RX4 70 "java/lang/IllegalArgumentException" ["java/lang/RuntimeException", "java/lang/Exception"]).filter goodWord)
def wsL_goBack_r1 : List Cond := [Cond.classLink RL 15 "java/lang/IllegalArgumentException", Cond.classLink RL 30 "java/lang/IllegalStateException", Cond.methodLink RL 39 yX4_goBack, Cond.instanceMethod yX4_goBack, Cond.selects RX4 yX4_goBack yX4_goBack, Cond.initialized RX4, Cond.code yX4_goBack cX4_goBack 2 (some .int), Cond.classLink RX4 66 "java/lang/IllegalArgumentException", Cond.initialized "java/lang/IllegalArgumentException", Cond.classLink RX4 116 "java/lang/IllegalStateException", Cond.initialized "java/lang/IllegalStateException", Cond.fieldLink RX4 26 "CoverWays" "isKept" "[Z", Cond.fieldLink RX4 23 "CoverWays" "snapshots" "[LCoverWays$State;", Cond.fieldLink RX4 12 "CoverWays" "now" "LCoverWays$State;", Cond.methodLink RX4 143 yX4_isSlot, Cond.static yX4_isSlot, Cond.code yX4_isSlot cX4_isSlot 1 (some .boolean), Cond.methodLink RX4 71 yX4_saveState, Cond.instanceMethod yX4_saveState, Cond.selects RX4 yX4_saveState yX4_saveState, Cond.code yX4_saveState cX4_saveState 1 none, Cond.fieldLink RX4 154 "CoverWays" "savedStates" "I", Cond.fieldLink RX4 19 "CoverWays" "saved" "[LCoverWays$State;", Cond.methodLink RX4 288 yX4_dropOldest]
def wsL_goBack_r2 : List Cond := [Cond.instanceMethod yX4_dropOldest, Cond.selects RX4 yX4_dropOldest yX4_dropOldest, Cond.code yX4_dropOldest cX4_dropOldest 3 none, Cond.methodLink RX4 148 yX4_copyState, Cond.static yX4_copyState, Cond.code yX4_copyState cX4_copyState 2 none, Cond.methodLink RX4 137 yX1_copyGraph, Cond.instanceMethod yX1_copyGraph, Cond.selects RX1 yX1_copyGraph yX1_copyGraph, Cond.initialized RX1, Cond.code yX1_copyGraph cX1_copyGraph 3 none, Cond.fieldLink RX1 9 "CoverWays$State" "covers" "[I", Cond.fieldLink RX1 15 "CoverWays$State" "marks" "[I", Cond.fieldLink RX1 18 "CoverWays$State" "joins" "[I", Cond.fieldLink RX1 21 "CoverWays$State" "bars" "[I", Cond.methodLink RX4 291 yX1_copySplitting, Cond.instanceMethod yX1_copySplitting, Cond.selects RX1 yX1_copySplitting yX1_copySplitting, Cond.code yX1_copySplitting cX1_copySplitting 3 none, Cond.fieldLink RX1 24 "CoverWays$State" "rests" "[I", Cond.fieldLink RX1 27 "CoverWays$State" "notedWeights" "[I", Cond.fieldLink RX1 30 "CoverWays$State" "notedMasks" "[I", Cond.fieldLink RX1 33 "CoverWays$State" "notedWays" "I", Cond.fieldLink RX1 37 "CoverWays$State" "steps" "I"]
def wsL_goBack_r3 : List Cond := [Cond.fieldLink RX1 40 "CoverWays$State" "refusals" "I", Cond.methodLink RX4 140 yX1_countJoins, Cond.instanceMethod yX1_countJoins, Cond.selects RX1 yX1_countJoins yX1_countJoins, Cond.code yX1_countJoins cX1_countJoins 3 (some .int), Cond.methodLink RX1 43 yJ6_bitCount_0f7a4, Cond.static yJ6_bitCount_0f7a4, Cond.initialized RJ6, Cond.code yJ6_bitCount_0f7a4 cJ6_bitCount_0f7a4 1 (some .int), Cond.constant RJ6 265 (1431655765), Cond.constant RJ6 266 (858993459), Cond.constant RJ6 267 (252645135)]
def wsL_goBack : List Cond := .codeWith yL_goBack cL_goBack 4 (some .int) [(0, 9, 12, 15), (0, 9, 15, 30)] :: ((wsL_goBack_r1 ++ (wsL_goBack_r2 ++ wsL_goBack_r3)) ++ wsX40 ++ wsX10 ++ (vx_atS RX4 70 "java/lang/IllegalArgumentException" ["java/lang/RuntimeException", "java/lang/Exception"]).filter goodWord ++ (vx_atS RX4 120 "java/lang/IllegalStateException" ["java/lang/RuntimeException", "java/lang/Exception"]).filter goodWord)
def wsL_undo_r1 : List Cond := [Cond.classLink RL 30 "java/lang/IllegalStateException", Cond.methodLink RL 42 yX4_undo, Cond.instanceMethod yX4_undo, Cond.selects RX4 yX4_undo yX4_undo, Cond.initialized RX4, Cond.code yX4_undo cX4_undo 1 (some .int), Cond.classLink RX4 116 "java/lang/IllegalStateException", Cond.initialized "java/lang/IllegalStateException", Cond.fieldLink RX4 154 "CoverWays" "savedStates" "I", Cond.fieldLink RX4 19 "CoverWays" "saved" "[LCoverWays$State;", Cond.fieldLink RX4 12 "CoverWays" "now" "LCoverWays$State;", Cond.methodLink RX4 148 yX4_copyState, Cond.static yX4_copyState, Cond.code yX4_copyState cX4_copyState 2 none, Cond.methodLink RX4 137 yX1_copyGraph, Cond.instanceMethod yX1_copyGraph, Cond.selects RX1 yX1_copyGraph yX1_copyGraph, Cond.initialized RX1, Cond.code yX1_copyGraph cX1_copyGraph 3 none, Cond.fieldLink RX1 9 "CoverWays$State" "covers" "[I", Cond.fieldLink RX1 15 "CoverWays$State" "marks" "[I", Cond.fieldLink RX1 18 "CoverWays$State" "joins" "[I", Cond.fieldLink RX1 21 "CoverWays$State" "bars" "[I", Cond.methodLink RX4 291 yX1_copySplitting]
def wsL_undo_r2 : List Cond := [Cond.instanceMethod yX1_copySplitting, Cond.selects RX1 yX1_copySplitting yX1_copySplitting, Cond.code yX1_copySplitting cX1_copySplitting 3 none, Cond.fieldLink RX1 24 "CoverWays$State" "rests" "[I", Cond.fieldLink RX1 27 "CoverWays$State" "notedWeights" "[I", Cond.fieldLink RX1 30 "CoverWays$State" "notedMasks" "[I", Cond.fieldLink RX1 33 "CoverWays$State" "notedWays" "I", Cond.fieldLink RX1 37 "CoverWays$State" "steps" "I", Cond.fieldLink RX1 40 "CoverWays$State" "refusals" "I"]
def wsL_undo : List Cond := .codeWith yL_undo cL_undo 3 (some .int) [(0, 8, 11, 30)] :: ((wsL_undo_r1 ++ wsL_undo_r2) ++ wsX40 ++ wsX10 ++ (vx_atS RX4 120 "java/lang/IllegalStateException" ["java/lang/RuntimeException", "java/lang/Exception"]).filter goodWord)
def wsL_pieceOf_r1 : List Cond := [Cond.classLink RL 13 "java/lang/IndexOutOfBoundsException", Cond.classLink RL 15 "java/lang/IllegalArgumentException", Cond.methodLink RL 45 yX4_pieceOf, Cond.instanceMethod yX4_pieceOf, Cond.selects RX4 yX4_pieceOf yX4_pieceOf, Cond.initialized RX4, Cond.code yX4_pieceOf cX4_pieceOf 3 (some .int), Cond.classLink RX4 59 "java/lang/IndexOutOfBoundsException", Cond.initialized "java/lang/IndexOutOfBoundsException", Cond.classLink RX4 66 "java/lang/IllegalArgumentException", Cond.initialized "java/lang/IllegalArgumentException", Cond.fieldLink RX4 12 "CoverWays" "now" "LCoverWays$State;", Cond.fieldLink RX4 74 "CoverWays$State" "covers" "[I", Cond.fieldLink RX4 159 "CoverWays$State" "rests" "[I", Cond.fieldLink RX4 51 "CoverWays$State" "marks" "[I", Cond.fieldLink RX4 82 "CoverWays$State" "joins" "[I", Cond.fieldLink RX4 47 "CoverWays" "rows" "LCoverWays$Rows;", Cond.fieldLink RX4 174 "CoverWays$Rows" "behind" "[I", Cond.fieldLink RX4 40 "CoverWays" "ways" "LCoverWays$Ways;", Cond.fieldLink RX4 177 "CoverWays$Ways" "all" "[I", Cond.fieldLink RX4 180 "CoverWays$Ways" "allWays" "I", Cond.fieldLink RX4 93 "CoverWays$State" "bars" "[I", Cond.methodLink RX4 55 yX4_isPiece, Cond.static yX4_isPiece]
def wsL_pieceOf_r2 : List Cond := [Cond.code yX4_isPiece cX4_isPiece 1 (some .boolean), Cond.methodLink RX4 162 yX1_countJoinsTo, Cond.instanceMethod yX1_countJoinsTo, Cond.selects RX1 yX1_countJoinsTo yX1_countJoinsTo, Cond.initialized RX1, Cond.code yX1_countJoinsTo cX1_countJoinsTo 4 (some .int), Cond.fieldLink RX1 18 "CoverWays$State" "joins" "[I", Cond.static yX4_bit, Cond.code yX4_bit cX4_bit 2 (some .int), Cond.methodLink RX4 166 yJ6_bitCount_0f7a4, Cond.static yJ6_bitCount_0f7a4, Cond.initialized RJ6, Cond.code yJ6_bitCount_0f7a4 cJ6_bitCount_0f7a4 1 (some .int), Cond.constant RJ6 265 (1431655765), Cond.constant RJ6 266 (858993459), Cond.constant RJ6 267 (252645135), Cond.methodLink RX4 171 yX0_findBehind, Cond.instanceMethod yX0_findBehind, Cond.selects RX0 yX0_findBehind yX0_findBehind, Cond.initialized RX0, Cond.code yX0_findBehind cX0_findBehind 4 none, Cond.fieldLink RX0 9 "CoverWays$Rows" "behind" "[I", Cond.fieldLink RX0 18 "CoverWays$State" "joins" "[I", Cond.methodLink RX4 96 yX3_list]
def wsL_pieceOf_r3 : List Cond := [Cond.instanceMethod yX3_list, Cond.selects RX3 yX3_list yX3_list, Cond.initialized RX3, Cond.code yX3_list cX3_list 3 none, Cond.fieldLink RX3 21 "CoverWays$Ways" "listed" "LCoverWays$State;", Cond.fieldLink RX3 36 "CoverWays$Ways" "allWays" "I", Cond.fieldLink RX3 40 "CoverWays$State" "marks" "[I", Cond.methodLink RX3 28 yX3_isListed, Cond.instanceMethod yX3_isListed, Cond.selects RX3 yX3_isListed yX3_isListed, Cond.code yX3_isListed cX3_isListed 3 (some .boolean), Cond.fieldLink RX3 50 "CoverWays$State" "joins" "[I", Cond.fieldLink RX3 53 "CoverWays$State" "bars" "[I", Cond.methodLink RX3 32 yX1_copyGraph, Cond.instanceMethod yX1_copyGraph, Cond.selects RX1 yX1_copyGraph yX1_copyGraph, Cond.code yX1_copyGraph cX1_copyGraph 3 none, Cond.fieldLink RX1 9 "CoverWays$State" "covers" "[I", Cond.fieldLink RX1 15 "CoverWays$State" "marks" "[I", Cond.fieldLink RX1 21 "CoverWays$State" "bars" "[I", Cond.methodLink RX3 43 yX3_walk, Cond.static yX3_walk, Cond.code yX3_walk cX3_walk 6 none, Cond.fieldLink RX3 9 "CoverWays$Ways" "all" "[I"]
def wsL_pieceOf_r4 : List Cond := [Cond.methodLink RX3 47 yX3_pickOpen, Cond.instanceMethod yX3_pickOpen, Cond.selects RX3 yX3_pickOpen yX3_pickOpen, Cond.code yX3_pickOpen cX3_pickOpen 2 none, Cond.fieldLink RX3 64 "CoverWays$Ways" "openWays" "I", Cond.fieldLink RX3 15 "CoverWays$Ways" "open" "[I", Cond.methodLink RX3 67 yX1_isOpen, Cond.instanceMethod yX1_isOpen, Cond.selects RX1 yX1_isOpen yX1_isOpen, Cond.code yX1_isOpen cX1_isOpen 3 (some .boolean), Cond.methodLink RX4 183 yX4_countWith, Cond.static yX4_countWith, Cond.code yX4_countWith cX4_countWith 5 (some .int), Cond.methodLink RX4 85 yX4_bit]
def wsL_pieceOf : List Cond := .codeWith yL_pieceOf cL_pieceOf 5 (some .int) [(0, 10, 13, 13), (0, 10, 17, 15)] :: ((wsL_pieceOf_r1 ++ (wsL_pieceOf_r2 ++ (wsL_pieceOf_r3 ++ wsL_pieceOf_r4))) ++ wsX40 ++ wsX10 ++ wsX00 ++ wsX30 ++ (vx_atS RX4 63 "java/lang/IndexOutOfBoundsException" ["java/lang/RuntimeException", "java/lang/Exception"]).filter goodWord ++ (vx_atS RX4 70 "java/lang/IllegalArgumentException" ["java/lang/RuntimeException", "java/lang/Exception"]).filter goodWord)
def wsL_isJoined : List Cond := .codeWith yL_isJoined cL_isJoined 5 (some .int) [(0, 10, 13, 13)] :: ([.classLink RL 13 "java/lang/IndexOutOfBoundsException", .methodLink RL 48 yX4_isJoined, .instanceMethod yX4_isJoined, .selects RX4 yX4_isJoined yX4_isJoined, .initialized RX4, .code yX4_isJoined cX4_isJoined 3 (some .int), .classLink RX4 59 "java/lang/IndexOutOfBoundsException", .initialized "java/lang/IndexOutOfBoundsException", .fieldLink RX4 12 "CoverWays" "now" "LCoverWays$State;", .fieldLink RX4 82 "CoverWays$State" "joins" "[I", .methodLink RX4 55 yX4_isPiece, .static yX4_isPiece, .code yX4_isPiece cX4_isPiece 1 (some .boolean), .methodLink RX4 85 yX4_bit, .static yX4_bit, .code yX4_bit cX4_bit 2 (some .int)] ++ wsX40 ++ wsX10 ++ (vx_atS RX4 63 "java/lang/IndexOutOfBoundsException" ["java/lang/RuntimeException", "java/lang/Exception"]).filter goodWord)
def wsL_noted : List Cond := .codeWith yL_noted cL_noted 5 (some .int) [(0, 10, 13, 15)] :: ([.classLink RL 15 "java/lang/IllegalArgumentException", .methodLink RL 51 yX4_noted, .instanceMethod yX4_noted, .selects RX4 yX4_noted yX4_noted, .initialized RX4, .code yX4_noted cX4_noted 3 (some .int), .classLink RX4 66 "java/lang/IllegalArgumentException", .initialized "java/lang/IllegalArgumentException", .fieldLink RX4 12 "CoverWays" "now" "LCoverWays$State;", .fieldLink RX4 107 "CoverWays$State" "notedWays" "I", .fieldLink RX4 191 "CoverWays$State" "notedWeights" "[I", .fieldLink RX4 194 "CoverWays$State" "notedMasks" "[I", .methodLink RX4 166 yJ6_bitCount_0f7a4, .static yJ6_bitCount_0f7a4, .initialized RJ6, .code yJ6_bitCount_0f7a4 cJ6_bitCount_0f7a4 1 (some .int), .constant RJ6 265 (1431655765), .constant RJ6 266 (858993459), .constant RJ6 267 (252645135)] ++ wsX40 ++ wsX10 ++ (vx_atS RX4 70 "java/lang/IllegalArgumentException" ["java/lang/RuntimeException", "java/lang/Exception"]).filter goodWord)
def wsL_count_r1 : List Cond := [Cond.classLink RL 15 "java/lang/IllegalArgumentException", Cond.methodLink RL 54 yX4_count, Cond.instanceMethod yX4_count, Cond.selects RX4 yX4_count yX4_count, Cond.initialized RX4, Cond.code yX4_count cX4_count 2 (some .int), Cond.classLink RX4 66 "java/lang/IllegalArgumentException", Cond.initialized "java/lang/IllegalArgumentException", Cond.fieldLink RX4 12 "CoverWays" "now" "LCoverWays$State;", Cond.fieldLink RX4 74 "CoverWays$State" "covers" "[I", Cond.fieldLink RX4 159 "CoverWays$State" "rests" "[I", Cond.fieldLink RX4 107 "CoverWays$State" "notedWays" "I", Cond.fieldLink RX4 40 "CoverWays" "ways" "LCoverWays$Ways;", Cond.fieldLink RX4 180 "CoverWays$Ways" "allWays" "I", Cond.fieldLink RX4 204 "CoverWays$Ways" "openWays" "I", Cond.fieldLink RX4 47 "CoverWays" "rows" "LCoverWays$Rows;", Cond.fieldLink RX4 213 "CoverWays$State" "steps" "I", Cond.fieldLink RX4 216 "CoverWays$State" "refusals" "I", Cond.fieldLink RX4 154 "CoverWays" "savedStates" "I", Cond.methodLink RX4 140 yX1_countJoins, Cond.instanceMethod yX1_countJoins, Cond.selects RX1 yX1_countJoins yX1_countJoins, Cond.initialized RX1, Cond.code yX1_countJoins cX1_countJoins 3 (some .int)]
def wsL_count_r2 : List Cond := [Cond.fieldLink RX1 18 "CoverWays$State" "joins" "[I", Cond.methodLink RX1 43 yJ6_bitCount_0f7a4, Cond.static yJ6_bitCount_0f7a4, Cond.initialized RJ6, Cond.code yJ6_bitCount_0f7a4 cJ6_bitCount_0f7a4 1 (some .int), Cond.constant RJ6 265 (1431655765), Cond.constant RJ6 266 (858993459), Cond.constant RJ6 267 (252645135), Cond.methodLink RX4 197 yX4_sum, Cond.static yX4_sum, Cond.code yX4_sum cX4_sum 6 (some .int), Cond.methodLink RX4 201 yX3_addUp, Cond.instanceMethod yX3_addUp, Cond.selects RX3 yX3_addUp yX3_addUp, Cond.initialized RX3, Cond.code yX3_addUp cX3_addUp 5 (some .int), Cond.fieldLink RX3 25 "CoverWays$Ways" "waysFrom" "[I", Cond.fieldLink RX3 40 "CoverWays$State" "marks" "[I", Cond.fieldLink RX3 50 "CoverWays$State" "joins" "[I", Cond.static yX4_bit, Cond.code yX4_bit cX4_bit 2 (some .int), Cond.methodLink RX4 96 yX3_list, Cond.instanceMethod yX3_list, Cond.selects RX3 yX3_list yX3_list]
def wsL_count_r3 : List Cond := [Cond.code yX3_list cX3_list 3 none, Cond.fieldLink RX3 21 "CoverWays$Ways" "listed" "LCoverWays$State;", Cond.fieldLink RX3 36 "CoverWays$Ways" "allWays" "I", Cond.methodLink RX3 28 yX3_isListed, Cond.instanceMethod yX3_isListed, Cond.selects RX3 yX3_isListed yX3_isListed, Cond.code yX3_isListed cX3_isListed 3 (some .boolean), Cond.fieldLink RX3 53 "CoverWays$State" "bars" "[I", Cond.methodLink RX3 32 yX1_copyGraph, Cond.instanceMethod yX1_copyGraph, Cond.selects RX1 yX1_copyGraph yX1_copyGraph, Cond.code yX1_copyGraph cX1_copyGraph 3 none, Cond.fieldLink RX1 9 "CoverWays$State" "covers" "[I", Cond.fieldLink RX1 15 "CoverWays$State" "marks" "[I", Cond.fieldLink RX1 21 "CoverWays$State" "bars" "[I", Cond.methodLink RX3 43 yX3_walk, Cond.static yX3_walk, Cond.code yX3_walk cX3_walk 6 none, Cond.fieldLink RX3 9 "CoverWays$Ways" "all" "[I", Cond.static yX4_isPiece, Cond.code yX4_isPiece cX4_isPiece 1 (some .boolean), Cond.methodLink RX3 47 yX3_pickOpen, Cond.instanceMethod yX3_pickOpen, Cond.selects RX3 yX3_pickOpen yX3_pickOpen]
def wsL_count_r4 : List Cond := [Cond.code yX3_pickOpen cX3_pickOpen 2 none, Cond.fieldLink RX3 64 "CoverWays$Ways" "openWays" "I", Cond.fieldLink RX3 15 "CoverWays$Ways" "open" "[I", Cond.methodLink RX3 67 yX1_isOpen, Cond.instanceMethod yX1_isOpen, Cond.selects RX1 yX1_isOpen yX1_isOpen, Cond.code yX1_isOpen cX1_isOpen 3 (some .boolean), Cond.methodLink RX4 171 yX0_findBehind, Cond.instanceMethod yX0_findBehind, Cond.selects RX0 yX0_findBehind yX0_findBehind, Cond.initialized RX0, Cond.code yX0_findBehind cX0_findBehind 4 none, Cond.fieldLink RX0 9 "CoverWays$Rows" "behind" "[I", Cond.fieldLink RX0 18 "CoverWays$State" "joins" "[I", Cond.methodLink RX4 207 yX0_countByPairing, Cond.instanceMethod yX0_countByPairing, Cond.selects RX0 yX0_countByPairing yX0_countByPairing, Cond.code yX0_countByPairing cX0_countByPairing 3 (some .int), Cond.fieldLink RX0 15 "CoverWays$Rows" "aheadOf" "[I", Cond.fieldLink RX0 27 "CoverWays$Rows" "tried" "I", Cond.methodLink RX0 31 yX0_findPartner, Cond.static yX0_findPartner, Cond.code yX0_findPartner cX0_findPartner 5 (some .boolean), Cond.methodLink RX4 210 yX0_countBySets]
def wsL_count_r5 : List Cond := [Cond.instanceMethod yX0_countBySets, Cond.selects RX0 yX0_countBySets yX0_countBySets, Cond.code yX0_countBySets cX0_countBySets 4 (some .int), Cond.methodLink RX0 39 yJ6_bitCount_0f7a4, Cond.methodLink RX0 45 yX0_hasNoneBehind, Cond.instanceMethod yX0_hasNoneBehind, Cond.selects RX0 yX0_hasNoneBehind yX0_hasNoneBehind, Cond.code yX0_hasNoneBehind cX0_hasNoneBehind 3 (some .boolean)]
def wsL_count : List Cond := .codeWith yL_count cL_count 4 (some .int) [(0, 9, 12, 15)] :: ((wsL_count_r1 ++ (wsL_count_r2 ++ (wsL_count_r3 ++ (wsL_count_r4 ++ wsL_count_r5)))) ++ wsX40 ++ wsX10 ++ wsX30 ++ wsX00 ++ (vx_atS RX4 70 "java/lang/IllegalArgumentException" ["java/lang/RuntimeException", "java/lang/Exception"]).filter goodWord)
def wsL_heaviest_r1 : List Cond := [Cond.classLink RL 15 "java/lang/IllegalArgumentException", Cond.methodLink RL 57 yX4_heaviest, Cond.instanceMethod yX4_heaviest, Cond.selects RX4 yX4_heaviest yX4_heaviest, Cond.initialized RX4, Cond.code yX4_heaviest cX4_heaviest 3 (some .int), Cond.classLink RX4 66 "java/lang/IllegalArgumentException", Cond.initialized "java/lang/IllegalArgumentException", Cond.fieldLink RX4 40 "CoverWays" "ways" "LCoverWays$Ways;", Cond.fieldLink RX4 12 "CoverWays" "now" "LCoverWays$State;", Cond.methodLink RX4 96 yX3_list, Cond.instanceMethod yX3_list, Cond.selects RX3 yX3_list yX3_list, Cond.initialized RX3, Cond.code yX3_list cX3_list 3 none, Cond.fieldLink RX3 21 "CoverWays$Ways" "listed" "LCoverWays$State;", Cond.fieldLink RX3 36 "CoverWays$Ways" "allWays" "I", Cond.fieldLink RX3 40 "CoverWays$State" "marks" "[I", Cond.methodLink RX3 28 yX3_isListed, Cond.instanceMethod yX3_isListed, Cond.selects RX3 yX3_isListed yX3_isListed, Cond.code yX3_isListed cX3_isListed 3 (some .boolean), Cond.fieldLink RX3 50 "CoverWays$State" "joins" "[I", Cond.fieldLink RX3 53 "CoverWays$State" "bars" "[I"]
def wsL_heaviest_r2 : List Cond := [Cond.methodLink RX3 32 yX1_copyGraph, Cond.instanceMethod yX1_copyGraph, Cond.selects RX1 yX1_copyGraph yX1_copyGraph, Cond.initialized RX1, Cond.code yX1_copyGraph cX1_copyGraph 3 none, Cond.fieldLink RX1 9 "CoverWays$State" "covers" "[I", Cond.fieldLink RX1 15 "CoverWays$State" "marks" "[I", Cond.fieldLink RX1 18 "CoverWays$State" "joins" "[I", Cond.fieldLink RX1 21 "CoverWays$State" "bars" "[I", Cond.methodLink RX3 43 yX3_walk, Cond.static yX3_walk, Cond.code yX3_walk cX3_walk 6 none, Cond.fieldLink RX3 9 "CoverWays$Ways" "all" "[I", Cond.static yX4_isPiece, Cond.code yX4_isPiece cX4_isPiece 1 (some .boolean), Cond.static yX4_bit, Cond.code yX4_bit cX4_bit 2 (some .int), Cond.methodLink RX3 47 yX3_pickOpen, Cond.instanceMethod yX3_pickOpen, Cond.selects RX3 yX3_pickOpen yX3_pickOpen, Cond.code yX3_pickOpen cX3_pickOpen 2 none, Cond.fieldLink RX3 64 "CoverWays$Ways" "openWays" "I", Cond.fieldLink RX3 15 "CoverWays$Ways" "open" "[I", Cond.methodLink RX3 67 yX1_isOpen]
def wsL_heaviest_r3 : List Cond := [Cond.instanceMethod yX1_isOpen, Cond.selects RX1 yX1_isOpen yX1_isOpen, Cond.code yX1_isOpen cX1_isOpen 3 (some .boolean), Cond.methodLink RX4 223 yX4_findHeaviest, Cond.instanceMethod yX4_findHeaviest, Cond.selects RX4 yX4_findHeaviest yX4_findHeaviest, Cond.code yX4_findHeaviest cX4_findHeaviest 6 (some .int), Cond.fieldLink RX4 204 "CoverWays$Ways" "openWays" "I", Cond.fieldLink RX4 231 "CoverWays$Ways" "open" "[I", Cond.methodLink RX4 226 yX1_weightOf, Cond.instanceMethod yX1_weightOf, Cond.selects RX1 yX1_weightOf yX1_weightOf, Cond.code yX1_weightOf cX1_weightOf 4 (some .int), Cond.fieldLink RX1 24 "CoverWays$State" "rests" "[I"]
def wsL_heaviest : List Cond := .codeWith yL_heaviest cL_heaviest 4 (some .int) [(0, 9, 12, 15)] :: ((wsL_heaviest_r1 ++ (wsL_heaviest_r2 ++ wsL_heaviest_r3)) ++ wsX40 ++ wsX30 ++ wsX10 ++ (vx_atS RX4 70 "java/lang/IllegalArgumentException" ["java/lang/RuntimeException", "java/lang/Exception"]).filter goodWord)
def wsL_openWay_r1 : List Cond := [Cond.classLink RL 15 "java/lang/IllegalArgumentException", Cond.methodLink RL 60 yX4_openWay, Cond.instanceMethod yX4_openWay, Cond.selects RX4 yX4_openWay yX4_openWay, Cond.initialized RX4, Cond.code yX4_openWay cX4_openWay 2 (some .int), Cond.classLink RX4 66 "java/lang/IllegalArgumentException", Cond.initialized "java/lang/IllegalArgumentException", Cond.fieldLink RX4 40 "CoverWays" "ways" "LCoverWays$Ways;", Cond.fieldLink RX4 12 "CoverWays" "now" "LCoverWays$State;", Cond.fieldLink RX4 204 "CoverWays$Ways" "openWays" "I", Cond.fieldLink RX4 231 "CoverWays$Ways" "open" "[I", Cond.methodLink RX4 96 yX3_list, Cond.instanceMethod yX3_list, Cond.selects RX3 yX3_list yX3_list, Cond.initialized RX3, Cond.code yX3_list cX3_list 3 none, Cond.fieldLink RX3 21 "CoverWays$Ways" "listed" "LCoverWays$State;", Cond.fieldLink RX3 36 "CoverWays$Ways" "allWays" "I", Cond.fieldLink RX3 40 "CoverWays$State" "marks" "[I", Cond.methodLink RX3 28 yX3_isListed, Cond.instanceMethod yX3_isListed, Cond.selects RX3 yX3_isListed yX3_isListed, Cond.code yX3_isListed cX3_isListed 3 (some .boolean)]
def wsL_openWay_r2 : List Cond := [Cond.fieldLink RX3 50 "CoverWays$State" "joins" "[I", Cond.fieldLink RX3 53 "CoverWays$State" "bars" "[I", Cond.methodLink RX3 32 yX1_copyGraph, Cond.instanceMethod yX1_copyGraph, Cond.selects RX1 yX1_copyGraph yX1_copyGraph, Cond.initialized RX1, Cond.code yX1_copyGraph cX1_copyGraph 3 none, Cond.fieldLink RX1 9 "CoverWays$State" "covers" "[I", Cond.fieldLink RX1 15 "CoverWays$State" "marks" "[I", Cond.fieldLink RX1 18 "CoverWays$State" "joins" "[I", Cond.fieldLink RX1 21 "CoverWays$State" "bars" "[I", Cond.methodLink RX3 43 yX3_walk, Cond.static yX3_walk, Cond.code yX3_walk cX3_walk 6 none, Cond.fieldLink RX3 9 "CoverWays$Ways" "all" "[I", Cond.static yX4_isPiece, Cond.code yX4_isPiece cX4_isPiece 1 (some .boolean), Cond.static yX4_bit, Cond.code yX4_bit cX4_bit 2 (some .int), Cond.methodLink RX3 47 yX3_pickOpen, Cond.instanceMethod yX3_pickOpen, Cond.selects RX3 yX3_pickOpen yX3_pickOpen, Cond.code yX3_pickOpen cX3_pickOpen 2 none, Cond.fieldLink RX3 64 "CoverWays$Ways" "openWays" "I"]
def wsL_openWay_r3 : List Cond := [Cond.fieldLink RX3 15 "CoverWays$Ways" "open" "[I", Cond.methodLink RX3 67 yX1_isOpen, Cond.instanceMethod yX1_isOpen, Cond.selects RX1 yX1_isOpen yX1_isOpen, Cond.code yX1_isOpen cX1_isOpen 3 (some .boolean)]
def wsL_openWay : List Cond := .codeWith yL_openWay cL_openWay 4 (some .int) [(0, 9, 12, 15)] :: ((wsL_openWay_r1 ++ (wsL_openWay_r2 ++ wsL_openWay_r3)) ++ wsX40 ++ wsX30 ++ wsX10 ++ (vx_atS RX4 70 "java/lang/IllegalArgumentException" ["java/lang/RuntimeException", "java/lang/Exception"]).filter goodWord)
def wsL_law0_r1 : List Cond := [Cond.classLink RL 8 RX4, Cond.instantiable RX4 9, Cond.initialized RX4, Cond.classLink RL 64 RX5, Cond.instantiable RX5 10, Cond.initialized RX5, Cond.arrayClass .long, Cond.methodLink RL 63 yX4_init, Cond.instanceMethod yX4_init, Cond.code yX4_init cX4_init 2 none, Cond.methodLink RX4 3 objectInit, Cond.instanceMethod objectInit, Cond.code objectInit ⟨#[0xb1]⟩ 1 none, Cond.classLink RX4 9 RX1, Cond.instantiable RX1 10, Cond.initialized RX1, Cond.fieldLink RX4 12 "CoverWays" "now" "LCoverWays$State;", Cond.fieldLink RX4 16 "CoverWays" "trial" "LCoverWays$State;", Cond.fieldLink RX4 19 "CoverWays" "saved" "[LCoverWays$State;", Cond.fieldLink RX4 23 "CoverWays" "snapshots" "[LCoverWays$State;", Cond.arrayClass .boolean, Cond.fieldLink RX4 26 "CoverWays" "isKept" "[Z", Cond.classLink RX4 30 RX2, Cond.instantiable RX2 6]
def wsL_law0_r2 : List Cond := [Cond.initialized RX2, Cond.fieldLink RX4 33 "CoverWays" "text" "LCoverWays$Text;", Cond.classLink RX4 37 RX3, Cond.instantiable RX3 6, Cond.initialized RX3, Cond.fieldLink RX4 40 "CoverWays" "ways" "LCoverWays$Ways;", Cond.classLink RX4 44 RX0, Cond.instantiable RX0 3, Cond.initialized RX0, Cond.fieldLink RX4 47 "CoverWays" "rows" "LCoverWays$Rows;", Cond.fieldLink RX4 51 "CoverWays$State" "marks" "[I", Cond.instanceMethod yX1_init, Cond.code yX1_init cX1_init 1 none, Cond.methodLink RX1 3 objectInit, Cond.arrayClass .int, Cond.fieldLink RX1 9 "CoverWays$State" "covers" "[I", Cond.fieldLink RX1 15 "CoverWays$State" "marks" "[I", Cond.fieldLink RX1 18 "CoverWays$State" "joins" "[I", Cond.fieldLink RX1 21 "CoverWays$State" "bars" "[I", Cond.fieldLink RX1 24 "CoverWays$State" "rests" "[I", Cond.fieldLink RX1 27 "CoverWays$State" "notedWeights" "[I", Cond.fieldLink RX1 30 "CoverWays$State" "notedMasks" "[I", Cond.instanceMethod yX2_init, Cond.code yX2_init cX2_init 1 none]
def wsL_law0_r3 : List Cond := [Cond.methodLink RX2 3 objectInit, Cond.fieldLink RX2 9 "CoverWays$Text" "codes" "[I", Cond.classLink RX2 15 RX1, Cond.fieldLink RX2 18 "CoverWays$Text" "graph" "LCoverWays$State;", Cond.instanceMethod yX3_init, Cond.code yX3_init cX3_init 1 none, Cond.methodLink RX3 3 objectInit, Cond.fieldLink RX3 9 "CoverWays$Ways" "all" "[I", Cond.fieldLink RX3 15 "CoverWays$Ways" "open" "[I", Cond.classLink RX3 18 RX1, Cond.fieldLink RX3 21 "CoverWays$Ways" "listed" "LCoverWays$State;", Cond.fieldLink RX3 25 "CoverWays$Ways" "waysFrom" "[I", Cond.instanceMethod yX0_init, Cond.code yX0_init cX0_init 1 none, Cond.methodLink RX0 3 objectInit, Cond.fieldLink RX0 9 "CoverWays$Rows" "behind" "[I", Cond.fieldLink RX0 15 "CoverWays$Rows" "aheadOf" "[I", Cond.methodLink RL 66 yX5_init, Cond.instanceMethod yX5_init, Cond.code yX5_init cX5_init 1 none, Cond.methodLink RX5 1 objectInit, Cond.fieldLink RX5 7 "CoverWaysModel" "s" "[I", Cond.fieldLink RX5 13 "CoverWaysModel" "aside" "[I", Cond.fieldLink RX5 16 "CoverWaysModel" "slots" "[I"]
def wsL_law0_r4 : List Cond := [Cond.fieldLink RX5 19 "CoverWaysModel" "isKept" "[Z", Cond.fieldLink RX5 23 "CoverWaysModel" "saved" "[I", Cond.fieldLink RX5 26 "CoverWaysModel" "text" "[I", Cond.methodLink RL 67 yL_cover, Cond.static yL_cover, Cond.initialized RL, Cond.codeWith yL_cover cL_cover 5 (some .int) [(0, 10, 13, 13), (0, 10, 17, 15)], Cond.classLink RL 13 "java/lang/IndexOutOfBoundsException", Cond.classLink RL 15 "java/lang/IllegalArgumentException", Cond.methodLink RL 7 yX4_cover, Cond.instanceMethod yX4_cover, Cond.selects RX4 yX4_cover yX4_cover, Cond.code yX4_cover cX4_cover 4 (some .int), Cond.classLink RX4 59 "java/lang/IndexOutOfBoundsException", Cond.initialized "java/lang/IndexOutOfBoundsException", Cond.classLink RX4 66 "java/lang/IllegalArgumentException", Cond.initialized "java/lang/IllegalArgumentException", Cond.fieldLink RX4 74 "CoverWays$State" "covers" "[I", Cond.methodLink RX4 55 yX4_isPiece, Cond.static yX4_isPiece, Cond.code yX4_isPiece cX4_isPiece 1 (some .boolean), Cond.methodLink RX4 71 yX4_saveState, Cond.instanceMethod yX4_saveState, Cond.selects RX4 yX4_saveState yX4_saveState]
def wsL_law0_r5 : List Cond := [Cond.code yX4_saveState cX4_saveState 1 none, Cond.fieldLink RX4 154 "CoverWays" "savedStates" "I", Cond.methodLink RX4 288 yX4_dropOldest, Cond.instanceMethod yX4_dropOldest, Cond.selects RX4 yX4_dropOldest yX4_dropOldest, Cond.code yX4_dropOldest cX4_dropOldest 3 none, Cond.methodLink RX4 148 yX4_copyState, Cond.static yX4_copyState, Cond.code yX4_copyState cX4_copyState 2 none, Cond.methodLink RX4 137 yX1_copyGraph, Cond.instanceMethod yX1_copyGraph, Cond.selects RX1 yX1_copyGraph yX1_copyGraph, Cond.code yX1_copyGraph cX1_copyGraph 3 none, Cond.methodLink RX4 291 yX1_copySplitting, Cond.instanceMethod yX1_copySplitting, Cond.selects RX1 yX1_copySplitting yX1_copySplitting, Cond.code yX1_copySplitting cX1_copySplitting 3 none, Cond.fieldLink RX1 33 "CoverWays$State" "notedWays" "I", Cond.fieldLink RX1 37 "CoverWays$State" "steps" "I", Cond.fieldLink RX1 40 "CoverWays$State" "refusals" "I", Cond.methodLink RX4 77 yX1_beginAnew, Cond.instanceMethod yX1_beginAnew, Cond.selects RX1 yX1_beginAnew yX1_beginAnew, Cond.code yX1_beginAnew cX1_beginAnew 2 none]
def wsL_law0_r6 : List Cond := [Cond.methodLink RL 72 yX5_cover, Cond.instanceMethod yX5_cover, Cond.selects RX5 yX5_cover yX5_cover, Cond.code yX5_cover cX5_cover 3 (some .int), Cond.methodLink RX5 69 yX5_isPiece, Cond.static yX5_isPiece, Cond.code yX5_isPiece cX5_isPiece 1 (some .boolean), Cond.methodLink RX5 33 yX5_in, Cond.static yX5_in, Cond.code yX5_in cX5_in 3 (some .boolean), Cond.methodLink RX5 72 yX5_holds, Cond.instanceMethod yX5_holds, Cond.selects RX5 yX5_holds yX5_holds, Cond.code yX5_holds cX5_holds 2 (some .boolean), Cond.fieldLink RX5 29 "CoverWaysModel" "thrown" "I", Cond.methodLink RX5 75 yX5_lays, Cond.instanceMethod yX5_lays, Cond.selects RX5 yX5_lays yX5_lays, Cond.code yX5_lays cX5_lays 4 (some .int), Cond.methodLink RX5 63 yX5_save, Cond.instanceMethod yX5_save, Cond.selects RX5 yX5_save yX5_save, Cond.code yX5_save cX5_save 2 none, Cond.fieldLink RX5 37 "CoverWaysModel" "savedMany" "I"]
def wsL_law0_r7 : List Cond := [Cond.methodLink RX5 66 yX5_anew, Cond.instanceMethod yX5_anew, Cond.selects RX5 yX5_anew yX5_anew, Cond.code yX5_anew cX5_anew 2 none, Cond.methodLink RL 73 yX5_thrown, Cond.instanceMethod yX5_thrown, Cond.selects RX5 yX5_thrown yX5_thrown, Cond.code yX5_thrown cX5_thrown 1 (some .int), Cond.methodLink RL 76 yL_join, Cond.static yL_join, Cond.codeWith yL_join cL_join 5 (some .int) [(0, 10, 13, 13), (0, 10, 17, 15)], Cond.methodLink RL 17 yX4_join, Cond.instanceMethod yX4_join, Cond.selects RX4 yX4_join yX4_join, Cond.code yX4_join cX4_join 3 (some .int), Cond.fieldLink RX4 82 "CoverWays$State" "joins" "[I", Cond.methodLink RX4 85 yX4_bit, Cond.static yX4_bit, Cond.code yX4_bit cX4_bit 2 (some .int), Cond.methodLink RL 78 yX5_join, Cond.instanceMethod yX5_join, Cond.selects RX5 yX5_join yX5_join, Cond.code yX5_join cX5_join 4 (some .int), Cond.methodLink RL 79 yL_mark]
def wsL_law0_r8 : List Cond := [Cond.static yL_mark, Cond.codeWith yL_mark cL_mark 5 (some .int) [(0, 10, 13, 13), (0, 10, 17, 15)], Cond.methodLink RL 20 yX4_mark, Cond.instanceMethod yX4_mark, Cond.selects RX4 yX4_mark yX4_mark, Cond.code yX4_mark cX4_mark 4 (some .int), Cond.methodLink RL 81 yX5_mark, Cond.instanceMethod yX5_mark, Cond.selects RX5 yX5_mark yX5_mark, Cond.code yX5_mark cX5_mark 3 (some .int), Cond.methodLink RL 82 yL_bar, Cond.static yL_bar, Cond.codeWith yL_bar cL_bar 5 (some .int) [(0, 10, 13, 13), (0, 10, 17, 15)], Cond.methodLink RL 23 yX4_bar, Cond.instanceMethod yX4_bar, Cond.selects RX4 yX4_bar yX4_bar, Cond.code yX4_bar cX4_bar 3 (some .int), Cond.fieldLink RX4 93 "CoverWays$State" "bars" "[I", Cond.methodLink RL 84 yX5_bar, Cond.instanceMethod yX5_bar, Cond.selects RX5 yX5_bar yX5_bar, Cond.code yX5_bar cX5_bar 4 (some .int), Cond.methodLink RL 85 yX4_step, Cond.instanceMethod yX4_step]
def wsL_law0_r9 : List Cond := [Cond.selects RX4 yX4_step yX4_step, Cond.code yX4_step cX4_step 1 (some .int), Cond.methodLink RX4 96 yX3_list, Cond.instanceMethod yX3_list, Cond.selects RX3 yX3_list yX3_list, Cond.code yX3_list cX3_list 3 none, Cond.fieldLink RX3 36 "CoverWays$Ways" "allWays" "I", Cond.fieldLink RX3 40 "CoverWays$State" "marks" "[I", Cond.methodLink RX3 28 yX3_isListed, Cond.instanceMethod yX3_isListed, Cond.selects RX3 yX3_isListed yX3_isListed, Cond.code yX3_isListed cX3_isListed 3 (some .boolean), Cond.fieldLink RX3 50 "CoverWays$State" "joins" "[I", Cond.fieldLink RX3 53 "CoverWays$State" "bars" "[I", Cond.methodLink RX3 32 yX1_copyGraph, Cond.methodLink RX3 43 yX3_walk, Cond.static yX3_walk, Cond.code yX3_walk cX3_walk 6 none, Cond.methodLink RX3 47 yX3_pickOpen, Cond.instanceMethod yX3_pickOpen, Cond.selects RX3 yX3_pickOpen yX3_pickOpen, Cond.code yX3_pickOpen cX3_pickOpen 2 none, Cond.fieldLink RX3 64 "CoverWays$Ways" "openWays" "I", Cond.methodLink RX3 67 yX1_isOpen]
def wsL_law0_r10 : List Cond := [Cond.instanceMethod yX1_isOpen, Cond.selects RX1 yX1_isOpen yX1_isOpen, Cond.code yX1_isOpen cX1_isOpen 3 (some .boolean), Cond.methodLink RX4 100 yX4_takeHeaviest, Cond.instanceMethod yX4_takeHeaviest, Cond.selects RX4 yX4_takeHeaviest yX4_takeHeaviest, Cond.code yX4_takeHeaviest cX4_takeHeaviest 4 (some .int), Cond.fieldLink RX4 107 "CoverWays$State" "notedWays" "I", Cond.fieldLink RX4 216 "CoverWays$State" "refusals" "I", Cond.methodLink RX4 223 yX4_findHeaviest, Cond.instanceMethod yX4_findHeaviest, Cond.selects RX4 yX4_findHeaviest yX4_findHeaviest, Cond.code yX4_findHeaviest cX4_findHeaviest 6 (some .int), Cond.fieldLink RX4 204 "CoverWays$Ways" "openWays" "I", Cond.fieldLink RX4 231 "CoverWays$Ways" "open" "[I", Cond.methodLink RX4 226 yX1_weightOf, Cond.instanceMethod yX1_weightOf, Cond.selects RX1 yX1_weightOf yX1_weightOf, Cond.code yX1_weightOf cX1_weightOf 4 (some .int), Cond.methodLink RX4 294 yX1_takeWay, Cond.instanceMethod yX1_takeWay, Cond.selects RX1 yX1_takeWay yX1_takeWay, Cond.code yX1_takeWay cX1_takeWay 4 none, Cond.methodLink RL 88 yX5_step]
def wsL_law0_r11 : List Cond := [Cond.instanceMethod yX5_step, Cond.selects RX5 yX5_step yX5_step, Cond.code yX5_step cX5_step 1 (some .int), Cond.methodLink RX5 83 yX5_steps, Cond.instanceMethod yX5_steps, Cond.selects RX5 yX5_steps yX5_steps, Cond.code yX5_steps cX5_steps 4 (some .int), Cond.methodLink RX5 79 yX5_heaviestWay, Cond.instanceMethod yX5_heaviestWay, Cond.selects RX5 yX5_heaviestWay yX5_heaviestWay, Cond.code yX5_heaviestWay cX5_heaviestWay 3 (some .int), Cond.methodLink RX5 48 yX5_isOpen, Cond.instanceMethod yX5_isOpen, Cond.selects RX5 yX5_isOpen yX5_isOpen, Cond.code yX5_isOpen cX5_isOpen 4 (some .boolean), Cond.methodLink RX5 44 yX5_isWay, Cond.instanceMethod yX5_isWay, Cond.selects RX5 yX5_isWay yX5_isWay, Cond.code yX5_isWay cX5_isWay 5 (some .boolean), Cond.methodLink RX5 51 yX5_weight, Cond.instanceMethod yX5_weight, Cond.selects RX5 yX5_weight yX5_weight, Cond.code yX5_weight cX5_weight 4 (some .int), Cond.methodLink RX5 54 yX5_next]
def wsL_law0_r12 : List Cond := [Cond.static yX5_next, Cond.code yX5_next cX5_next 3 (some .int), Cond.methodLink RX5 40 yX5_greatest, Cond.static yX5_greatest, Cond.code yX5_greatest cX5_greatest 3 (some .int), Cond.methodLink RL 89 yX4_split, Cond.instanceMethod yX4_split, Cond.selects RX4 yX4_split yX4_split, Cond.code yX4_split cX4_split 1 (some .int), Cond.methodLink RX4 104 yX4_takeAll, Cond.instanceMethod yX4_takeAll, Cond.selects RX4 yX4_takeAll yX4_takeAll, Cond.code yX4_takeAll cX4_takeAll 3 (some .int), Cond.methodLink RL 92 yX5_split, Cond.instanceMethod yX5_split, Cond.selects RX5 yX5_split yX5_split, Cond.code yX5_split cX5_split 1 (some .int), Cond.methodLink RX5 86 yX5_splits, Cond.instanceMethod yX5_splits, Cond.selects RX5 yX5_splits yX5_splits, Cond.code yX5_splits cX5_splits 2 (some .int), Cond.methodLink RL 93 yX4_begin, Cond.instanceMethod yX4_begin, Cond.selects RX4 yX4_begin yX4_begin]
def wsL_law0_r13 : List Cond := [Cond.code yX4_begin cX4_begin 2 (some .int), Cond.methodLink RL 96 yX5_begin, Cond.instanceMethod yX5_begin, Cond.selects RX5 yX5_begin yX5_begin, Cond.code yX5_begin cX5_begin 2 (some .int), Cond.methodLink RL 97 yL_append, Cond.static yL_append, Cond.codeWith yL_append cL_append 4 (some .int) [(0, 9, 12, 15), (0, 9, 15, 30)], Cond.classLink RL 30 "java/lang/IllegalStateException", Cond.methodLink RL 26 yX4_append, Cond.instanceMethod yX4_append, Cond.selects RX4 yX4_append yX4_append, Cond.code yX4_append cX4_append 2 (some .int), Cond.classLink RX4 116 "java/lang/IllegalStateException", Cond.initialized "java/lang/IllegalStateException", Cond.fieldLink RX4 113 "CoverWays$Text" "length" "I", Cond.fieldLink RX4 121 "CoverWays$Text" "codes" "[I", Cond.methodLink RL 100 yX5_append, Cond.instanceMethod yX5_append, Cond.selects RX5 yX5_append yX5_append, Cond.code yX5_append cX5_append 2 (some .int), Cond.fieldLink RX5 89 "CoverWaysModel" "length" "I", Cond.methodLink RL 101 yX4_clearBuffer, Cond.instanceMethod yX4_clearBuffer]
def wsL_law0_r14 : List Cond := [Cond.selects RX4 yX4_clearBuffer yX4_clearBuffer, Cond.code yX4_clearBuffer cX4_clearBuffer 2 (some .int), Cond.methodLink RL 104 yX5_clearBuffer, Cond.instanceMethod yX5_clearBuffer, Cond.selects RX5 yX5_clearBuffer yX5_clearBuffer, Cond.code yX5_clearBuffer cX5_clearBuffer 2 (some .int), Cond.methodLink RL 105 yX4_firstError, Cond.instanceMethod yX4_firstError, Cond.selects RX4 yX4_firstError yX4_firstError, Cond.code yX4_firstError cX4_firstError 1 (some .int), Cond.methodLink RX4 124 yX2_read, Cond.instanceMethod yX2_read, Cond.selects RX2 yX2_read yX2_read, Cond.code yX2_read cX2_read 2 (some .int), Cond.fieldLink RX2 25 "CoverWays$Text" "place" "I", Cond.fieldLink RX2 29 "CoverWays$Text" "length" "I", Cond.methodLink RX2 22 yX1_clearGraph, Cond.instanceMethod yX1_clearGraph, Cond.selects RX1 yX1_clearGraph yX1_clearGraph, Cond.code yX1_clearGraph cX1_clearGraph 2 none, Cond.methodLink RX2 32 yX2_takeCode, Cond.instanceMethod yX2_takeCode, Cond.selects RX2 yX2_takeCode yX2_takeCode, Cond.code yX2_takeCode cX2_takeCode 2 (some .boolean)]
def wsL_law0_r15 : List Cond := [Cond.fieldLink RX2 36 "CoverWays$Text" "kind" "I", Cond.fieldLink RX2 45 "CoverWays$State" "covers" "[I", Cond.fieldLink RX2 48 "CoverWays$Text" "first" "I", Cond.methodLink RX2 39 yX2_takeFirst, Cond.instanceMethod yX2_takeFirst, Cond.selects RX2 yX2_takeFirst yX2_takeFirst, Cond.code yX2_takeFirst cX2_takeFirst 2 (some .boolean), Cond.fieldLink RX2 64 "CoverWays$State" "marks" "[I", Cond.methodLink RX2 42 yX2_takeSecond, Cond.instanceMethod yX2_takeSecond, Cond.selects RX2 yX2_takeSecond yX2_takeSecond, Cond.code yX2_takeSecond cX2_takeSecond 2 (some .boolean), Cond.fieldLink RX2 67 "CoverWays$State" "joins" "[I", Cond.fieldLink RX2 70 "CoverWays$State" "bars" "[I", Cond.methodLink RX2 51 yX2_takeDigit, Cond.instanceMethod yX2_takeDigit, Cond.selects RX2 yX2_takeDigit yX2_takeDigit, Cond.code yX2_takeDigit cX2_takeDigit 2 (some .boolean), Cond.methodLink RX2 54 yX2_takeSeparator, Cond.instanceMethod yX2_takeSeparator, Cond.selects RX2 yX2_takeSeparator yX2_takeSeparator, Cond.code yX2_takeSeparator cX2_takeSeparator 2 (some .boolean), Cond.methodLink RX2 57 yX2_canGrow, Cond.instanceMethod yX2_canGrow]
def wsL_law0_r16 : List Cond := [Cond.selects RX2 yX2_canGrow yX2_canGrow, Cond.code yX2_canGrow cX2_canGrow 2 (some .boolean), Cond.methodLink RL 108 yX5_firstError, Cond.instanceMethod yX5_firstError, Cond.selects RX5 yX5_firstError yX5_firstError, Cond.code yX5_firstError cX5_firstError 1 (some .int), Cond.methodLink RX5 104 yX5_wrong, Cond.instanceMethod yX5_wrong, Cond.selects RX5 yX5_wrong yX5_wrong, Cond.code yX5_wrong cX5_wrong 3 (some .int), Cond.methodLink RX5 101 yX5_behindPart, Cond.instanceMethod yX5_behindPart, Cond.selects RX5 yX5_behindPart yX5_behindPart, Cond.code yX5_behindPart cX5_behindPart 4 (some .int), Cond.methodLink RX5 92 yX5_charAt, Cond.instanceMethod yX5_charAt, Cond.selects RX5 yX5_charAt yX5_charAt, Cond.code yX5_charAt cX5_charAt 2 (some .int), Cond.methodLink RX5 95 yX5_digitAt, Cond.instanceMethod yX5_digitAt, Cond.selects RX5 yX5_digitAt yX5_digitAt, Cond.code yX5_digitAt cX5_digitAt 2 (some .int), Cond.methodLink RX5 98 yX5_behindNumber, Cond.instanceMethod yX5_behindNumber]
def wsL_law0_r17 : List Cond := [Cond.selects RX5 yX5_behindNumber yX5_behindNumber, Cond.code yX5_behindNumber cX5_behindNumber 3 (some .int), Cond.methodLink RL 109 yL_load, Cond.static yL_load, Cond.codeWith yL_load cL_load 3 (some .int) [(0, 8, 11, 15)], Cond.methodLink RL 32 yX4_load, Cond.instanceMethod yX4_load, Cond.selects RX4 yX4_load yX4_load, Cond.code yX4_load cX4_load 1 (some .int), Cond.fieldLink RX4 134 "CoverWays$Text" "graph" "LCoverWays$State;", Cond.methodLink RX4 128 yX2_isWhole, Cond.instanceMethod yX2_isWhole, Cond.selects RX2 yX2_isWhole yX2_isWhole, Cond.code yX2_isWhole cX2_isWhole 1 (some .boolean), Cond.methodLink RX4 140 yX1_countJoins, Cond.instanceMethod yX1_countJoins, Cond.selects RX1 yX1_countJoins yX1_countJoins, Cond.code yX1_countJoins cX1_countJoins 3 (some .int), Cond.methodLink RX1 43 yJ6_bitCount_0f7a4, Cond.static yJ6_bitCount_0f7a4, Cond.initialized RJ6, Cond.code yJ6_bitCount_0f7a4 cJ6_bitCount_0f7a4 1 (some .int), Cond.constant RJ6 265 (1431655765), Cond.constant RJ6 266 (858993459)]
def wsL_law0_r18 : List Cond := [Cond.constant RJ6 267 (252645135), Cond.methodLink RL 112 yX5_load, Cond.instanceMethod yX5_load, Cond.selects RX5 yX5_load yX5_load, Cond.code yX5_load cX5_load 3 (some .int), Cond.methodLink RX5 107 yX5_takes, Cond.instanceMethod yX5_takes, Cond.selects RX5 yX5_takes yX5_takes, Cond.code yX5_takes cX5_takes 6 none, Cond.methodLink RX5 111 yX5_joins, Cond.instanceMethod yX5_joins, Cond.selects RX5 yX5_joins yX5_joins, Cond.code yX5_joins cX5_joins 3 (some .int), Cond.methodLink RX5 60 yX5_many, Cond.static yX5_many, Cond.code yX5_many cX5_many 3 (some .int), Cond.methodLink RL 113 yL_keep, Cond.static yL_keep, Cond.codeWith yL_keep cL_keep 4 (some .int) [(0, 9, 12, 15)], Cond.methodLink RL 36 yX4_keep, Cond.instanceMethod yX4_keep, Cond.selects RX4 yX4_keep yX4_keep, Cond.code yX4_keep cX4_keep 2 (some .int), Cond.methodLink RX4 143 yX4_isSlot]
def wsL_law0_r19 : List Cond := [Cond.static yX4_isSlot, Cond.code yX4_isSlot cX4_isSlot 1 (some .boolean), Cond.methodLink RL 115 yX5_keep, Cond.instanceMethod yX5_keep, Cond.selects RX5 yX5_keep yX5_keep, Cond.code yX5_keep cX5_keep 3 (some .int), Cond.methodLink RL 116 yL_goBack, Cond.static yL_goBack, Cond.codeWith yL_goBack cL_goBack 4 (some .int) [(0, 9, 12, 15), (0, 9, 15, 30)], Cond.methodLink RL 39 yX4_goBack, Cond.instanceMethod yX4_goBack, Cond.selects RX4 yX4_goBack yX4_goBack, Cond.code yX4_goBack cX4_goBack 2 (some .int), Cond.methodLink RL 118 yX5_goBack, Cond.instanceMethod yX5_goBack, Cond.selects RX5 yX5_goBack yX5_goBack, Cond.code yX5_goBack cX5_goBack 4 (some .int), Cond.methodLink RL 119 yL_undo, Cond.static yL_undo, Cond.codeWith yL_undo cL_undo 3 (some .int) [(0, 8, 11, 30)], Cond.methodLink RL 42 yX4_undo, Cond.instanceMethod yX4_undo, Cond.selects RX4 yX4_undo yX4_undo, Cond.code yX4_undo cX4_undo 1 (some .int)]
def wsL_law0_r20 : List Cond := [Cond.methodLink RL 121 yX5_undo, Cond.instanceMethod yX5_undo, Cond.selects RX5 yX5_undo yX5_undo, Cond.code yX5_undo cX5_undo 2 (some .int), Cond.methodLink RL 122 yL_pieceOf, Cond.static yL_pieceOf, Cond.codeWith yL_pieceOf cL_pieceOf 5 (some .int) [(0, 10, 13, 13), (0, 10, 17, 15)], Cond.methodLink RL 45 yX4_pieceOf, Cond.instanceMethod yX4_pieceOf, Cond.selects RX4 yX4_pieceOf yX4_pieceOf, Cond.code yX4_pieceOf cX4_pieceOf 3 (some .int), Cond.fieldLink RX4 159 "CoverWays$State" "rests" "[I", Cond.fieldLink RX4 174 "CoverWays$Rows" "behind" "[I", Cond.fieldLink RX4 177 "CoverWays$Ways" "all" "[I", Cond.fieldLink RX4 180 "CoverWays$Ways" "allWays" "I", Cond.methodLink RX4 162 yX1_countJoinsTo, Cond.instanceMethod yX1_countJoinsTo, Cond.selects RX1 yX1_countJoinsTo yX1_countJoinsTo, Cond.code yX1_countJoinsTo cX1_countJoinsTo 4 (some .int), Cond.methodLink RX4 166 yJ6_bitCount_0f7a4, Cond.methodLink RX4 171 yX0_findBehind, Cond.instanceMethod yX0_findBehind, Cond.selects RX0 yX0_findBehind yX0_findBehind, Cond.code yX0_findBehind cX0_findBehind 4 none]
def wsL_law0_r21 : List Cond := [Cond.fieldLink RX0 18 "CoverWays$State" "joins" "[I", Cond.methodLink RX4 183 yX4_countWith, Cond.static yX4_countWith, Cond.code yX4_countWith cX4_countWith 5 (some .int), Cond.methodLink RL 124 yX5_pieceOf, Cond.instanceMethod yX5_pieceOf, Cond.selects RX5 yX5_pieceOf yX5_pieceOf, Cond.code yX5_pieceOf cX5_pieceOf 3 (some .int), Cond.methodLink RX5 121 yX5_property, Cond.instanceMethod yX5_property, Cond.selects RX5 yX5_property yX5_property, Cond.code yX5_property cX5_property 3 (some .int), Cond.methodLink RX5 114 yX5_joinsTo, Cond.instanceMethod yX5_joinsTo, Cond.selects RX5 yX5_joinsTo yX5_joinsTo, Cond.code yX5_joinsTo cX5_joinsTo 4 (some .int), Cond.methodLink RX5 57 yX5_behind, Cond.instanceMethod yX5_behind, Cond.selects RX5 yX5_behind yX5_behind, Cond.code yX5_behind cX5_behind 4 (some .int), Cond.methodLink RX5 117 yX5_ways, Cond.instanceMethod yX5_ways, Cond.selects RX5 yX5_ways yX5_ways, Cond.code yX5_ways cX5_ways 5 (some .int)]
def wsL_law0_r22 : List Cond := [Cond.methodLink RL 125 yL_isJoined, Cond.static yL_isJoined, Cond.codeWith yL_isJoined cL_isJoined 5 (some .int) [(0, 10, 13, 13)], Cond.methodLink RL 48 yX4_isJoined, Cond.instanceMethod yX4_isJoined, Cond.selects RX4 yX4_isJoined yX4_isJoined, Cond.code yX4_isJoined cX4_isJoined 3 (some .int), Cond.methodLink RL 127 yX5_isJoined, Cond.instanceMethod yX5_isJoined, Cond.selects RX5 yX5_isJoined yX5_isJoined, Cond.code yX5_isJoined cX5_isJoined 3 (some .int), Cond.methodLink RL 128 yL_noted, Cond.static yL_noted, Cond.codeWith yL_noted cL_noted 5 (some .int) [(0, 10, 13, 15)], Cond.methodLink RL 51 yX4_noted, Cond.instanceMethod yX4_noted, Cond.selects RX4 yX4_noted yX4_noted, Cond.code yX4_noted cX4_noted 3 (some .int), Cond.fieldLink RX4 191 "CoverWays$State" "notedWeights" "[I", Cond.fieldLink RX4 194 "CoverWays$State" "notedMasks" "[I", Cond.methodLink RL 130 yX5_noted, Cond.instanceMethod yX5_noted, Cond.selects RX5 yX5_noted yX5_noted, Cond.code yX5_noted cX5_noted 3 (some .int)]
def wsL_law0_r23 : List Cond := [Cond.methodLink RX5 124 yX5_note, Cond.instanceMethod yX5_note, Cond.selects RX5 yX5_note yX5_note, Cond.code yX5_note cX5_note 3 (some .int), Cond.methodLink RL 131 yL_count, Cond.static yL_count, Cond.codeWith yL_count cL_count 4 (some .int) [(0, 9, 12, 15)], Cond.methodLink RL 54 yX4_count, Cond.instanceMethod yX4_count, Cond.selects RX4 yX4_count yX4_count, Cond.code yX4_count cX4_count 2 (some .int), Cond.fieldLink RX4 213 "CoverWays$State" "steps" "I", Cond.methodLink RX4 197 yX4_sum, Cond.static yX4_sum, Cond.code yX4_sum cX4_sum 6 (some .int), Cond.methodLink RX4 201 yX3_addUp, Cond.instanceMethod yX3_addUp, Cond.selects RX3 yX3_addUp yX3_addUp, Cond.code yX3_addUp cX3_addUp 5 (some .int), Cond.methodLink RX4 207 yX0_countByPairing, Cond.instanceMethod yX0_countByPairing, Cond.selects RX0 yX0_countByPairing yX0_countByPairing, Cond.code yX0_countByPairing cX0_countByPairing 3 (some .int), Cond.fieldLink RX0 27 "CoverWays$Rows" "tried" "I"]
def wsL_law0_r24 : List Cond := [Cond.methodLink RX0 31 yX0_findPartner, Cond.static yX0_findPartner, Cond.code yX0_findPartner cX0_findPartner 5 (some .boolean), Cond.methodLink RX4 210 yX0_countBySets, Cond.instanceMethod yX0_countBySets, Cond.selects RX0 yX0_countBySets yX0_countBySets, Cond.code yX0_countBySets cX0_countBySets 4 (some .int), Cond.methodLink RX0 39 yJ6_bitCount_0f7a4, Cond.methodLink RX0 45 yX0_hasNoneBehind, Cond.instanceMethod yX0_hasNoneBehind, Cond.selects RX0 yX0_hasNoneBehind yX0_hasNoneBehind, Cond.code yX0_hasNoneBehind cX0_hasNoneBehind 3 (some .boolean), Cond.methodLink RL 133 yX5_count, Cond.instanceMethod yX5_count, Cond.selects RX5 yX5_count yX5_count, Cond.code yX5_count cX5_count 2 (some .int), Cond.methodLink RX5 133 yX5_counted, Cond.instanceMethod yX5_counted, Cond.selects RX5 yX5_counted yX5_counted, Cond.code yX5_counted cX5_counted 2 (some .int), Cond.methodLink RX5 127 yX5_sum, Cond.instanceMethod yX5_sum, Cond.selects RX5 yX5_sum yX5_sum, Cond.code yX5_sum cX5_sum 4 (some .int)]
def wsL_law0_r25 : List Cond := [Cond.methodLink RX5 130 yX5_rows, Cond.instanceMethod yX5_rows, Cond.selects RX5 yX5_rows yX5_rows, Cond.code yX5_rows cX5_rows 5 (some .int), Cond.methodLink RL 134 yL_heaviest, Cond.static yL_heaviest, Cond.codeWith yL_heaviest cL_heaviest 4 (some .int) [(0, 9, 12, 15)], Cond.methodLink RL 57 yX4_heaviest, Cond.instanceMethod yX4_heaviest, Cond.selects RX4 yX4_heaviest yX4_heaviest, Cond.code yX4_heaviest cX4_heaviest 3 (some .int), Cond.methodLink RL 136 yX5_heaviest, Cond.instanceMethod yX5_heaviest, Cond.selects RX5 yX5_heaviest yX5_heaviest, Cond.code yX5_heaviest cX5_heaviest 2 (some .int), Cond.methodLink RX5 136 yX5_heavy, Cond.instanceMethod yX5_heavy, Cond.selects RX5 yX5_heavy yX5_heavy, Cond.code yX5_heavy cX5_heavy 3 (some .int), Cond.methodLink RL 137 yL_openWay, Cond.static yL_openWay, Cond.codeWith yL_openWay cL_openWay 4 (some .int) [(0, 9, 12, 15)], Cond.methodLink RL 60 yX4_openWay, Cond.instanceMethod yX4_openWay]
def wsL_law0_r26 : List Cond := [Cond.selects RX4 yX4_openWay yX4_openWay, Cond.code yX4_openWay cX4_openWay 2 (some .int), Cond.methodLink RL 139 yX5_openWay, Cond.instanceMethod yX5_openWay, Cond.selects RX5 yX5_openWay yX5_openWay, Cond.code yX5_openWay cX5_openWay 2 (some .int), Cond.methodLink RX5 139 yX5_openAt, Cond.instanceMethod yX5_openAt, Cond.selects RX5 yX5_openAt yX5_openAt, Cond.code yX5_openAt cX5_openAt 4 (some .int), Cond.methodLink RL 140 yX4_ifSplit, Cond.instanceMethod yX4_ifSplit, Cond.selects RX4 yX4_ifSplit yX4_ifSplit, Cond.code yX4_ifSplit cX4_ifSplit 1 (some .int), Cond.methodLink RL 143 yX5_ifSplit, Cond.instanceMethod yX5_ifSplit, Cond.selects RX5 yX5_ifSplit yX5_ifSplit, Cond.code yX5_ifSplit cX5_ifSplit 1 (some .int), Cond.methodLink RX5 148 yX5_unexplained, Cond.instanceMethod yX5_unexplained, Cond.selects RX5 yX5_unexplained yX5_unexplained, Cond.code yX5_unexplained cX5_unexplained 3 (some .int), Cond.methodLink RX5 142 yX5_putAside, Cond.instanceMethod yX5_putAside]
def wsL_law0_r27 : List Cond := [Cond.selects RX5 yX5_putAside yX5_putAside, Cond.code yX5_putAside cX5_putAside 2 none, Cond.methodLink RX5 145 yX5_putBack, Cond.instanceMethod yX5_putBack, Cond.selects RX5 yX5_putBack yX5_putBack, Cond.code yX5_putBack cX5_putBack 2 none, Cond.methodLink RL 144 yX4_mainPiece, Cond.instanceMethod yX4_mainPiece, Cond.selects RX4 yX4_mainPiece yX4_mainPiece, Cond.code yX4_mainPiece cX4_mainPiece 5 (some .int), Cond.methodLink RL 147 yX5_mainPiece, Cond.instanceMethod yX5_mainPiece, Cond.selects RX5 yX5_mainPiece yX5_mainPiece, Cond.code yX5_mainPiece cX5_mainPiece 1 (some .int), Cond.methodLink RX5 151 yX5_mainOne, Cond.instanceMethod yX5_mainOne, Cond.selects RX5 yX5_mainOne yX5_mainOne, Cond.code yX5_mainOne cX5_mainOne 5 (some .int), Cond.methodLink RL 148 yX4_explained, Cond.instanceMethod yX4_explained, Cond.selects RX4 yX4_explained yX4_explained, Cond.code yX4_explained cX4_explained 2 (some .double), Cond.methodLink RL 152 yX5_explained, Cond.instanceMethod yX5_explained]
def wsL_law0_r28 : List Cond := [Cond.selects RX5 yX5_explained yX5_explained, Cond.code yX5_explained cX5_explained 1 (some .double), Cond.methodLink RX5 154 yX5_share, Cond.instanceMethod yX5_share, Cond.selects RX5 yX5_share yX5_share, Cond.code yX5_share cX5_share 1 (some .double), Cond.methodLink RL 153 yX4_digest, Cond.instanceMethod yX4_digest, Cond.selects RX4 yX4_digest yX4_digest, Cond.code yX4_digest cX4_digest 5 (some .long), Cond.constantLong RX4 234 (3617), Cond.methodLink RX4 236 yX4_count, Cond.methodLink RX4 239 yX4_mix, Cond.static yX4_mix, Cond.code yX4_mix cX4_mix 4 (some .long), Cond.constantLong RX4 280 (31), Cond.methodLink RX4 243 yX4_mixPiece, Cond.instanceMethod yX4_mixPiece, Cond.selects RX4 yX4_mixPiece yX4_mixPiece, Cond.code yX4_mixPiece cX4_mixPiece 7 (some .long), Cond.methodLink RX4 274 yX4_pieceOf, Cond.methodLink RX4 277 yX4_isJoined, Cond.methodLink RX4 247 yX4_noted, Cond.methodLink RX4 250 yX4_heaviest]
def wsL_law0_r29 : List Cond := [Cond.methodLink RX4 253 yX4_openWay, Cond.methodLink RX4 256 yX4_ifSplit, Cond.methodLink RX4 259 yX4_mainPiece, Cond.methodLink RX4 262 yX4_explained, Cond.methodLink RX4 266 yX4_bitsOf, Cond.static yX4_bitsOf, Cond.code yX4_bitsOf cX4_bitsOf 8 (some .long), Cond.constantLong RX4 282 (1023), Cond.constantDouble RX4 284 (4611686018427387904), Cond.constantDouble RX4 286 (4841369599423283200), Cond.methodLink RX4 270 yX4_mixBuffer, Cond.instanceMethod yX4_mixBuffer, Cond.selects RX4 yX4_mixBuffer yX4_mixBuffer, Cond.code yX4_mixBuffer cX4_mixBuffer 6 (some .long), Cond.methodLink RL 157 yX5_digest, Cond.instanceMethod yX5_digest, Cond.selects RX5 yX5_digest yX5_digest, Cond.code yX5_digest cX5_digest 2 (some .long), Cond.constantLong RX5 176 (3617), Cond.fieldLink RX5 168 "CoverWaysModel" "digested" "J", Cond.methodLink RX5 172 yX5_digestOne, Cond.instanceMethod yX5_digestOne, Cond.selects RX5 yX5_digestOne yX5_digestOne, Cond.code yX5_digestOne cX5_digestOne 3 none]
def wsL_law0_r30 : List Cond := [Cond.constantLong RX5 166 (31), Cond.methodLink RX5 178 yX5_digestPiece, Cond.instanceMethod yX5_digestPiece, Cond.selects RX5 yX5_digestPiece yX5_digestPiece, Cond.code yX5_digestPiece cX5_digestPiece 3 none, Cond.methodLink RX5 182 yX5_bitsOf, Cond.static yX5_bitsOf, Cond.code yX5_bitsOf cX5_bitsOf 6 (some .long), Cond.constantLong RX5 158 (1023), Cond.constantDouble RX5 160 (4611686018427387904), Cond.constantLong RX5 162 (4503599627370496), Cond.constantDouble RX5 164 (4841369599423283200)]
def wsL_law0 : List Cond := (wsL_law0_r1 ++ (wsL_law0_r2 ++ (wsL_law0_r3 ++ (wsL_law0_r4 ++ (wsL_law0_r5 ++ (wsL_law0_r6 ++ (wsL_law0_r7 ++ (wsL_law0_r8 ++ (wsL_law0_r9 ++ (wsL_law0_r10 ++ (wsL_law0_r11 ++ (wsL_law0_r12 ++ (wsL_law0_r13 ++ (wsL_law0_r14 ++ (wsL_law0_r15 ++ (wsL_law0_r16 ++ (wsL_law0_r17 ++ (wsL_law0_r18 ++ (wsL_law0_r19 ++ (wsL_law0_r20 ++ (wsL_law0_r21 ++ (wsL_law0_r22 ++ (wsL_law0_r23 ++ (wsL_law0_r24 ++ (wsL_law0_r25 ++ (wsL_law0_r26 ++ (wsL_law0_r27 ++ (wsL_law0_r28 ++ (wsL_law0_r29 ++ wsL_law0_r30))))))))))))))))))))))))))))) ++ wsX40 ++ wsX50 ++ wsX10 ++ wsX20 ++ wsX30 ++ wsX00 ++ ([] : List Cond)
def wsL_law : List Cond := wsL_law0 ++ (vx_atS RX4 63 "java/lang/IndexOutOfBoundsException" ["java/lang/RuntimeException", "java/lang/Exception"]).filter goodWord ++ (vx_atS RX4 70 "java/lang/IllegalArgumentException" ["java/lang/RuntimeException", "java/lang/Exception"]).filter goodWord ++ (vx_atS RX4 120 "java/lang/IllegalStateException" ["java/lang/RuntimeException", "java/lang/Exception"]).filter goodWord
set_option maxRecDepth 20000 in
theorem wsL_law_in0 : ∀ w ∈ wsL_law0, w ∈ lw_tbl := fun w h => (goodIn_p wsL_law0 [69, 72, 77, 134, 165, 196, 685, 567, 274, 244, 248, 251, 255, 259, 318, 725, 728, 731, 735, 739, 743, 747, 721, 575, 277, 751, 583, 755, 591, 759, 240, 263, 267, 271, 281, 285, 290, 294, 298, 302, 763, 767, 771, 775, 779, 783, 786, 789, 306, 310, 793, 797, 314, 801, 600, 805, 322, 809, 326, 330, 334, 338, 342, 347, 351, 355, 359, 813, 817, 821, 825, 829, 833, 624, 628, 391, 394, 837, 841, 845, 848, 636, 639, 852, 647, 856, 655, 860, 503, 524, 405, 373, 864, 868, 872, 876, 880, 530, 884, 534, 888, 892, 387, 366, 401, 410, 413, 418, 423, 896, 900, 904, 908, 539, 912, 916, 544, 920, 924, 363, 928, 932, 936, 940, 370, 944, 948, 378, 952, 956, 382, 494, 499, 551, 558, 960, 965, 970, 973] (by decide +kernel) (by decide +kernel) w h).1
theorem wsL_law_x0 : ∀ w ∈ (vx_atS RX4 63 "java/lang/IndexOutOfBoundsException" ["java/lang/RuntimeException", "java/lang/Exception"]).filter goodWord, w ∈ lw_tbl := by decide +kernel
theorem wsL_law_x1 : ∀ w ∈ (vx_atS RX4 70 "java/lang/IllegalArgumentException" ["java/lang/RuntimeException", "java/lang/Exception"]).filter goodWord, w ∈ lw_tbl := by decide +kernel
theorem wsL_law_x2 : ∀ w ∈ (vx_atS RX4 120 "java/lang/IllegalStateException" ["java/lang/RuntimeException", "java/lang/Exception"]).filter goodWord, w ∈ lw_tbl := by decide +kernel
theorem wsL_law_in : ∀ w ∈ wsL_law, w ∈ lw_tbl := fun w h => (List.mem_append.mp h).elim (fun h => (List.mem_append.mp h).elim (fun h => (List.mem_append.mp h).elim (fun h => wsL_law_in0 w h) (fun h => wsL_law_x0 w h)) (fun h => wsL_law_x1 w h)) (fun h => wsL_law_x2 w h)
theorem inlX0 : ∀ w ∈ wsX00, w ∈ wsL_law := fun _ h => List.mem_append_left _ (List.mem_append_left _ (List.mem_append_left _ (List.mem_append_left _ (List.mem_append_right _ h))))
theorem inX0 : ∀ w ∈ wsX00, w ∈ lw_tbl := fun w h => wsL_law_in w (inlX0 w h)
theorem inlX1 : ∀ w ∈ wsX10, w ∈ wsL_law := fun _ h => List.mem_append_left _ (List.mem_append_left _ (List.mem_append_left _ (List.mem_append_left _ (List.mem_append_left _ (List.mem_append_left _ (List.mem_append_left _ (List.mem_append_right _ h)))))))
theorem inX1 : ∀ w ∈ wsX10, w ∈ lw_tbl := fun w h => wsL_law_in w (inlX1 w h)
theorem inlX2 : ∀ w ∈ wsX20, w ∈ wsL_law := fun _ h => List.mem_append_left _ (List.mem_append_left _ (List.mem_append_left _ (List.mem_append_left _ (List.mem_append_left _ (List.mem_append_left _ (List.mem_append_right _ h))))))
theorem inX2 : ∀ w ∈ wsX20, w ∈ lw_tbl := fun w h => wsL_law_in w (inlX2 w h)
theorem inlX3 : ∀ w ∈ wsX30, w ∈ wsL_law := fun _ h => List.mem_append_left _ (List.mem_append_left _ (List.mem_append_left _ (List.mem_append_left _ (List.mem_append_left _ (List.mem_append_right _ h)))))
theorem inX3 : ∀ w ∈ wsX30, w ∈ lw_tbl := fun w h => wsL_law_in w (inlX3 w h)
theorem inlX4 : ∀ w ∈ wsX40, w ∈ wsL_law := fun _ h => List.mem_append_left _ (List.mem_append_left _ (List.mem_append_left _ (List.mem_append_left _ (List.mem_append_left _ (List.mem_append_left _ (List.mem_append_left _ (List.mem_append_left _ (List.mem_append_left _ (List.mem_append_right _ h)))))))))
theorem inX4 : ∀ w ∈ wsX40, w ∈ lw_tbl := fun w h => wsL_law_in w (inlX4 w h)
theorem inlX5 : ∀ w ∈ wsX50, w ∈ wsL_law := fun _ h => List.mem_append_left _ (List.mem_append_left _ (List.mem_append_left _ (List.mem_append_left _ (List.mem_append_left _ (List.mem_append_left _ (List.mem_append_left _ (List.mem_append_left _ (List.mem_append_right _ h))))))))
theorem inX5 : ∀ w ∈ wsX50, w ∈ lw_tbl := fun w h => wsL_law_in w (inlX5 w h)
theorem inJ6 : ∀ w ∈ wsJ60, w ∈ lw_tbl := by decide +kernel
theorem inJ0 : ∀ w ∈ wsJ00, w ∈ lw_tbl := by decide +kernel
theorem dX0_init_0 : decode cX0_init 0 = .ok (.aload_n 0, 1) := by decide +kernel
theorem dX0_init_1 : decode cX0_init 1 = .ok (.invokespecial 3, 3) := by decide +kernel
theorem dX0_init_4 : decode cX0_init 4 = .ok (.aload_n 0, 1) := by decide +kernel
theorem dX0_init_5 : decode cX0_init 5 = .ok (.bipush 9, 2) := by decide +kernel
theorem dX0_init_7 : decode cX0_init 7 = .ok (.newarray .int, 2) := by decide +kernel
theorem dX0_init_9 : decode cX0_init 9 = .ok (.putfield 9, 3) := by decide +kernel
theorem dX0_init_12 : decode cX0_init 12 = .ok (.aload_n 0, 1) := by decide +kernel
theorem dX0_init_13 : decode cX0_init 13 = .ok (.bipush 9, 2) := by decide +kernel
theorem dX0_init_15 : decode cX0_init 15 = .ok (.newarray .int, 2) := by decide +kernel
theorem dX0_init_17 : decode cX0_init 17 = .ok (.putfield 15, 3) := by decide +kernel
theorem dX0_init_20 : decode cX0_init 20 = .ok (.return_, 1) := by decide +kernel
set_option maxRecDepth 20000 in
theorem ggX0_findBehind_X4_bit : GoodIn wsX0_findBehind wsX4_bit := goodIn_r _ [5] (by decide +kernel) (by decide +kernel)
set_option maxRecDepth 20000 in
theorem gX0_findBehind_X4_bit_n23 : GoodIn wsX0_findBehind (wsX4_bit) := ggX0_findBehind_X4_bit
theorem dX0_findBehind_0 : decode cX0_findBehind 0 = .ok (.bipush 8, 2) := by decide +kernel
theorem dX0_findBehind_2 : decode cX0_findBehind 2 = .ok (.istore_n 2, 1) := by decide +kernel
theorem dX0_findBehind_3 : decode cX0_findBehind 3 = .ok (.iload_n 2, 1) := by decide +kernel
theorem dX0_findBehind_4 : decode cX0_findBehind 4 = .ok (.ifCond .lt 66, 3) := by decide +kernel
theorem dX0_findBehind_7 : decode cX0_findBehind 7 = .ok (.aload_n 0, 1) := by decide +kernel
theorem dX0_findBehind_8 : decode cX0_findBehind 8 = .ok (.getfield 9, 3) := by decide +kernel
theorem dX0_findBehind_11 : decode cX0_findBehind 11 = .ok (.iload_n 2, 1) := by decide +kernel
theorem dX0_findBehind_12 : decode cX0_findBehind 12 = .ok (.aload_n 1, 1) := by decide +kernel
theorem dX0_findBehind_13 : decode cX0_findBehind 13 = .ok (.getfield 18, 3) := by decide +kernel
theorem dX0_findBehind_16 : decode cX0_findBehind 16 = .ok (.iload_n 2, 1) := by decide +kernel
theorem dX0_findBehind_17 : decode cX0_findBehind 17 = .ok (.iaload, 1) := by decide +kernel
theorem dX0_findBehind_18 : decode cX0_findBehind 18 = .ok (.iastore, 1) := by decide +kernel
theorem dX0_findBehind_19 : decode cX0_findBehind 19 = .ok (.iload_n 2, 1) := by decide +kernel
theorem dX0_findBehind_20 : decode cX0_findBehind 20 = .ok (.iconst 1, 1) := by decide +kernel
theorem dX0_findBehind_21 : decode cX0_findBehind 21 = .ok (.iadd, 1) := by decide +kernel
theorem dX0_findBehind_22 : decode cX0_findBehind 22 = .ok (.istore_n 3, 1) := by decide +kernel
theorem dX0_findBehind_23 : decode cX0_findBehind 23 = .ok (.iload_n 3, 1) := by decide +kernel
theorem dX0_findBehind_24 : decode cX0_findBehind 24 = .ok (.bipush 9, 2) := by decide +kernel
theorem dX0_findBehind_26 : decode cX0_findBehind 26 = .ok (.if_icmp .ge 38, 3) := by decide +kernel
theorem dX0_findBehind_29 : decode cX0_findBehind 29 = .ok (.aload_n 1, 1) := by decide +kernel
theorem dX0_findBehind_30 : decode cX0_findBehind 30 = .ok (.getfield 18, 3) := by decide +kernel
theorem dX0_findBehind_33 : decode cX0_findBehind 33 = .ok (.iload_n 2, 1) := by decide +kernel
theorem dX0_findBehind_34 : decode cX0_findBehind 34 = .ok (.iaload, 1) := by decide +kernel
theorem dX0_findBehind_35 : decode cX0_findBehind 35 = .ok (.iload_n 3, 1) := by decide +kernel
theorem dX0_findBehind_36 : decode cX0_findBehind 36 = .ok (.invokestatic 23, 3) := by decide +kernel
theorem dX0_findBehind_39 : decode cX0_findBehind 39 = .ok (.iconst 1, 1) := by decide +kernel
theorem dX0_findBehind_40 : decode cX0_findBehind 40 = .ok (.if_icmp .ne 18, 3) := by decide +kernel
theorem dX0_findBehind_43 : decode cX0_findBehind 43 = .ok (.aload_n 0, 1) := by decide +kernel
theorem dX0_findBehind_44 : decode cX0_findBehind 44 = .ok (.getfield 9, 3) := by decide +kernel
theorem dX0_findBehind_47 : decode cX0_findBehind 47 = .ok (.iload_n 2, 1) := by decide +kernel
theorem dX0_findBehind_48 : decode cX0_findBehind 48 = .ok (.dup2, 1) := by decide +kernel
theorem dX0_findBehind_49 : decode cX0_findBehind 49 = .ok (.iaload, 1) := by decide +kernel
theorem dX0_findBehind_50 : decode cX0_findBehind 50 = .ok (.aload_n 0, 1) := by decide +kernel
theorem dX0_findBehind_51 : decode cX0_findBehind 51 = .ok (.getfield 9, 3) := by decide +kernel
theorem dX0_findBehind_54 : decode cX0_findBehind 54 = .ok (.iload_n 3, 1) := by decide +kernel
theorem dX0_findBehind_55 : decode cX0_findBehind 55 = .ok (.iaload, 1) := by decide +kernel
theorem dX0_findBehind_56 : decode cX0_findBehind 56 = .ok (.ior, 1) := by decide +kernel
theorem dX0_findBehind_57 : decode cX0_findBehind 57 = .ok (.iastore, 1) := by decide +kernel
theorem dX0_findBehind_58 : decode cX0_findBehind 58 = .ok (.iinc 3 1, 3) := by decide +kernel
theorem dX0_findBehind_61 : decode cX0_findBehind 61 = .ok (.goto (-38), 3) := by decide +kernel
theorem dX0_findBehind_64 : decode cX0_findBehind 64 = .ok (.iinc 2 (-1), 3) := by decide +kernel
theorem dX0_findBehind_67 : decode cX0_findBehind 67 = .ok (.goto (-64), 3) := by decide +kernel
theorem dX0_findBehind_70 : decode cX0_findBehind 70 = .ok (.return_, 1) := by decide +kernel
set_option maxRecDepth 20000 in
theorem ggX0_countByPairing_X0_findPartner : GoodIn wsX0_countByPairing wsX0_findPartner := goodIn_r _ [6, 7, 2, 1, 8, 9, 10, 11, 12, 3, 4, 5, 13, 14, 15] (by decide +kernel) (by decide +kernel)
set_option maxRecDepth 20000 in
theorem gX0_countByPairing_X0_findPartner : GoodIn wsX0_countByPairing (va_wsS RX0 31 yX0_findPartner wsX0_findPartner) := goodIn_app (goodIn_of _ (by decide +kernel)) ggX0_countByPairing_X0_findPartner
theorem dX0_countByPairing_0 : decode cX0_countByPairing 0 = .ok (.iconst 0, 1) := by decide +kernel
theorem dX0_countByPairing_1 : decode cX0_countByPairing 1 = .ok (.istore_n 1, 1) := by decide +kernel
theorem dX0_countByPairing_2 : decode cX0_countByPairing 2 = .ok (.iload_n 1, 1) := by decide +kernel
theorem dX0_countByPairing_3 : decode cX0_countByPairing 3 = .ok (.bipush 9, 2) := by decide +kernel
theorem dX0_countByPairing_5 : decode cX0_countByPairing 5 = .ok (.if_icmp .ge 16, 3) := by decide +kernel
theorem dX0_countByPairing_8 : decode cX0_countByPairing 8 = .ok (.aload_n 0, 1) := by decide +kernel
theorem dX0_countByPairing_9 : decode cX0_countByPairing 9 = .ok (.getfield 15, 3) := by decide +kernel
theorem dX0_countByPairing_12 : decode cX0_countByPairing 12 = .ok (.iload_n 1, 1) := by decide +kernel
theorem dX0_countByPairing_13 : decode cX0_countByPairing 13 = .ok (.iconst (-1), 1) := by decide +kernel
theorem dX0_countByPairing_14 : decode cX0_countByPairing 14 = .ok (.iastore, 1) := by decide +kernel
theorem dX0_countByPairing_15 : decode cX0_countByPairing 15 = .ok (.iinc 1 1, 3) := by decide +kernel
theorem dX0_countByPairing_18 : decode cX0_countByPairing 18 = .ok (.goto (-16), 3) := by decide +kernel
theorem dX0_countByPairing_21 : decode cX0_countByPairing 21 = .ok (.bipush 9, 2) := by decide +kernel
theorem dX0_countByPairing_23 : decode cX0_countByPairing 23 = .ok (.istore_n 1, 1) := by decide +kernel
theorem dX0_countByPairing_24 : decode cX0_countByPairing 24 = .ok (.iconst 0, 1) := by decide +kernel
theorem dX0_countByPairing_25 : decode cX0_countByPairing 25 = .ok (.istore_n 2, 1) := by decide +kernel
theorem dX0_countByPairing_26 : decode cX0_countByPairing 26 = .ok (.iload_n 2, 1) := by decide +kernel
theorem dX0_countByPairing_27 : decode cX0_countByPairing 27 = .ok (.bipush 9, 2) := by decide +kernel
theorem dX0_countByPairing_29 : decode cX0_countByPairing 29 = .ok (.if_icmp .ge 26, 3) := by decide +kernel
theorem dX0_countByPairing_32 : decode cX0_countByPairing 32 = .ok (.aload_n 0, 1) := by decide +kernel
theorem dX0_countByPairing_33 : decode cX0_countByPairing 33 = .ok (.iconst 0, 1) := by decide +kernel
theorem dX0_countByPairing_34 : decode cX0_countByPairing 34 = .ok (.putfield 27, 3) := by decide +kernel
theorem dX0_countByPairing_37 : decode cX0_countByPairing 37 = .ok (.aload_n 0, 1) := by decide +kernel
theorem dX0_countByPairing_38 : decode cX0_countByPairing 38 = .ok (.iload_n 2, 1) := by decide +kernel
theorem dX0_countByPairing_39 : decode cX0_countByPairing 39 = .ok (.iconst 0, 1) := by decide +kernel
theorem dX0_countByPairing_40 : decode cX0_countByPairing 40 = .ok (.invokestatic 31, 3) := by decide +kernel
theorem dX0_countByPairing_43 : decode cX0_countByPairing 43 = .ok (.ifCond .eq 6, 3) := by decide +kernel
theorem dX0_countByPairing_46 : decode cX0_countByPairing 46 = .ok (.iinc 1 (-1), 3) := by decide +kernel
theorem dX0_countByPairing_49 : decode cX0_countByPairing 49 = .ok (.iinc 2 1, 3) := by decide +kernel
theorem dX0_countByPairing_52 : decode cX0_countByPairing 52 = .ok (.goto (-26), 3) := by decide +kernel
theorem dX0_countByPairing_55 : decode cX0_countByPairing 55 = .ok (.iload_n 1, 1) := by decide +kernel
theorem dX0_countByPairing_56 : decode cX0_countByPairing 56 = .ok (.ireturn, 1) := by decide +kernel
set_option maxRecDepth 20000 in
theorem ggX0_findPartner_X4_isPiece : GoodIn wsX0_findPartner wsX4_isPiece := goodIn_r _ [6] (by decide +kernel) (by decide +kernel)
set_option maxRecDepth 20000 in
theorem gX0_findPartner_X4_isPiece_n35 : GoodIn wsX0_findPartner (wsX4_isPiece) := ggX0_findPartner_X4_isPiece
set_option maxRecDepth 20000 in
theorem ggX0_findPartner_X4_bit : GoodIn wsX0_findPartner wsX4_bit := goodIn_r _ [8] (by decide +kernel) (by decide +kernel)
set_option maxRecDepth 20000 in
theorem gX0_findPartner_X4_bit_n23 : GoodIn wsX0_findPartner (wsX4_bit) := ggX0_findPartner_X4_bit
set_option maxRecDepth 20000 in
theorem ggX0_findPartner_X0_findPartner : GoodIn wsX0_findPartner wsX0_findPartner := goodIn_r _ [0, 1, 2, 3, 4, 5, 6, 7, 8, 9, 10, 11, 12, 13, 14] (by decide +kernel) (by decide +kernel)
set_option maxRecDepth 20000 in
theorem gX0_findPartner_X0_findPartner : GoodIn wsX0_findPartner (va_wsS RX0 31 yX0_findPartner wsX0_findPartner) := goodIn_app (goodIn_of _ (by decide +kernel)) ggX0_findPartner_X0_findPartner
theorem dX0_findPartner_0 : decode cX0_findPartner 0 = .ok (.iload_n 1, 1) := by decide +kernel
theorem dX0_findPartner_1 : decode cX0_findPartner 1 = .ok (.invokestatic 35, 3) := by decide +kernel
theorem dX0_findPartner_4 : decode cX0_findPartner 4 = .ok (.ifCond .eq 9, 3) := by decide +kernel
theorem dX0_findPartner_7 : decode cX0_findPartner 7 = .ok (.iload_n 2, 1) := by decide +kernel
theorem dX0_findPartner_8 : decode cX0_findPartner 8 = .ok (.bipush 9, 2) := by decide +kernel
theorem dX0_findPartner_10 : decode cX0_findPartner 10 = .ok (.if_icmp .lt 5, 3) := by decide +kernel
theorem dX0_findPartner_13 : decode cX0_findPartner 13 = .ok (.iconst 0, 1) := by decide +kernel
theorem dX0_findPartner_14 : decode cX0_findPartner 14 = .ok (.ireturn, 1) := by decide +kernel
theorem dX0_findPartner_15 : decode cX0_findPartner 15 = .ok (.iconst 0, 1) := by decide +kernel
theorem dX0_findPartner_16 : decode cX0_findPartner 16 = .ok (.istore_n 3, 1) := by decide +kernel
theorem dX0_findPartner_17 : decode cX0_findPartner 17 = .ok (.iload_n 3, 1) := by decide +kernel
theorem dX0_findPartner_18 : decode cX0_findPartner 18 = .ok (.bipush 9, 2) := by decide +kernel
theorem dX0_findPartner_20 : decode cX0_findPartner 20 = .ok (.if_icmp .ge 77, 3) := by decide +kernel
theorem dX0_findPartner_23 : decode cX0_findPartner 23 = .ok (.aload_n 0, 1) := by decide +kernel
theorem dX0_findPartner_24 : decode cX0_findPartner 24 = .ok (.getfield 9, 3) := by decide +kernel
theorem dX0_findPartner_27 : decode cX0_findPartner 27 = .ok (.iload_n 1, 1) := by decide +kernel
theorem dX0_findPartner_28 : decode cX0_findPartner 28 = .ok (.iaload, 1) := by decide +kernel
theorem dX0_findPartner_29 : decode cX0_findPartner 29 = .ok (.aload_n 0, 1) := by decide +kernel
theorem dX0_findPartner_30 : decode cX0_findPartner 30 = .ok (.getfield 27, 3) := by decide +kernel
theorem dX0_findPartner_33 : decode cX0_findPartner 33 = .ok (.iconst (-1), 1) := by decide +kernel
theorem dX0_findPartner_34 : decode cX0_findPartner 34 = .ok (.ixor, 1) := by decide +kernel
theorem dX0_findPartner_35 : decode cX0_findPartner 35 = .ok (.iand, 1) := by decide +kernel
theorem dX0_findPartner_36 : decode cX0_findPartner 36 = .ok (.iload_n 3, 1) := by decide +kernel
theorem dX0_findPartner_37 : decode cX0_findPartner 37 = .ok (.invokestatic 23, 3) := by decide +kernel
theorem dX0_findPartner_40 : decode cX0_findPartner 40 = .ok (.iconst 1, 1) := by decide +kernel
theorem dX0_findPartner_41 : decode cX0_findPartner 41 = .ok (.if_icmp .ne 50, 3) := by decide +kernel
theorem dX0_findPartner_44 : decode cX0_findPartner 44 = .ok (.aload_n 0, 1) := by decide +kernel
theorem dX0_findPartner_45 : decode cX0_findPartner 45 = .ok (.dup, 1) := by decide +kernel
theorem dX0_findPartner_46 : decode cX0_findPartner 46 = .ok (.getfield 27, 3) := by decide +kernel
theorem dX0_findPartner_49 : decode cX0_findPartner 49 = .ok (.iconst 1, 1) := by decide +kernel
theorem dX0_findPartner_50 : decode cX0_findPartner 50 = .ok (.iload_n 3, 1) := by decide +kernel
theorem dX0_findPartner_51 : decode cX0_findPartner 51 = .ok (.ishl, 1) := by decide +kernel
theorem dX0_findPartner_52 : decode cX0_findPartner 52 = .ok (.ior, 1) := by decide +kernel
theorem dX0_findPartner_53 : decode cX0_findPartner 53 = .ok (.putfield 27, 3) := by decide +kernel
theorem dX0_findPartner_56 : decode cX0_findPartner 56 = .ok (.aload_n 0, 1) := by decide +kernel
theorem dX0_findPartner_57 : decode cX0_findPartner 57 = .ok (.getfield 15, 3) := by decide +kernel
theorem dX0_findPartner_60 : decode cX0_findPartner 60 = .ok (.iload_n 3, 1) := by decide +kernel
theorem dX0_findPartner_61 : decode cX0_findPartner 61 = .ok (.iaload, 1) := by decide +kernel
theorem dX0_findPartner_62 : decode cX0_findPartner 62 = .ok (.istore 4, 2) := by decide +kernel
theorem dX0_findPartner_64 : decode cX0_findPartner 64 = .ok (.iload 4, 2) := by decide +kernel
theorem dX0_findPartner_66 : decode cX0_findPartner 66 = .ok (.iconst (-1), 1) := by decide +kernel
theorem dX0_findPartner_67 : decode cX0_findPartner 67 = .ok (.if_icmp .eq 15, 3) := by decide +kernel
theorem dX0_findPartner_70 : decode cX0_findPartner 70 = .ok (.aload_n 0, 1) := by decide +kernel
theorem dX0_findPartner_71 : decode cX0_findPartner 71 = .ok (.iload 4, 2) := by decide +kernel
theorem dX0_findPartner_73 : decode cX0_findPartner 73 = .ok (.iload_n 2, 1) := by decide +kernel
theorem dX0_findPartner_74 : decode cX0_findPartner 74 = .ok (.iconst 1, 1) := by decide +kernel
theorem dX0_findPartner_75 : decode cX0_findPartner 75 = .ok (.iadd, 1) := by decide +kernel
theorem dX0_findPartner_76 : decode cX0_findPartner 76 = .ok (.invokestatic 31, 3) := by decide +kernel
theorem dX0_findPartner_79 : decode cX0_findPartner 79 = .ok (.ifCond .eq 12, 3) := by decide +kernel
theorem dX0_findPartner_82 : decode cX0_findPartner 82 = .ok (.aload_n 0, 1) := by decide +kernel
theorem dX0_findPartner_83 : decode cX0_findPartner 83 = .ok (.getfield 15, 3) := by decide +kernel
theorem dX0_findPartner_86 : decode cX0_findPartner 86 = .ok (.iload_n 3, 1) := by decide +kernel
theorem dX0_findPartner_87 : decode cX0_findPartner 87 = .ok (.iload_n 1, 1) := by decide +kernel
theorem dX0_findPartner_88 : decode cX0_findPartner 88 = .ok (.iastore, 1) := by decide +kernel
theorem dX0_findPartner_89 : decode cX0_findPartner 89 = .ok (.iconst 1, 1) := by decide +kernel
theorem dX0_findPartner_90 : decode cX0_findPartner 90 = .ok (.ireturn, 1) := by decide +kernel
theorem dX0_findPartner_91 : decode cX0_findPartner 91 = .ok (.iinc 3 1, 3) := by decide +kernel
theorem dX0_findPartner_94 : decode cX0_findPartner 94 = .ok (.goto (-77), 3) := by decide +kernel
theorem dX0_findPartner_97 : decode cX0_findPartner 97 = .ok (.iconst 0, 1) := by decide +kernel
theorem dX0_findPartner_98 : decode cX0_findPartner 98 = .ok (.ireturn, 1) := by decide +kernel
set_option maxRecDepth 20000 in
theorem ggX0_countBySets_J6_bitCount_0f7a4 : GoodIn wsX0_countBySets wsJ6_bitCount_0f7a4 := goodIn_r _ [4, 5, 6, 7] (by decide +kernel) (by decide +kernel)
set_option maxRecDepth 20000 in
theorem gX0_countBySets_J6_bitCount_0f7a4 : GoodIn wsX0_countBySets (va_wsS RX0 39 yJ6_bitCount_0f7a4 wsJ6_bitCount_0f7a4) := goodIn_app (goodIn_of _ (by decide +kernel)) ggX0_countBySets_J6_bitCount_0f7a4
set_option maxRecDepth 20000 in
theorem ggX0_countBySets_X0_hasNoneBehind : GoodIn wsX0_countBySets wsX0_hasNoneBehind := goodIn_r _ [12, 13, 14, 15, 16, 17, 18, 19] (by decide +kernel) (by decide +kernel)
set_option maxRecDepth 20000 in
theorem gX0_countBySets_X0_hasNoneBehind : GoodIn wsX0_countBySets (wsV RX0 45 RX0 yX0_hasNoneBehind wsX0_hasNoneBehind) := goodIn_app (goodIn_of _ (by decide +kernel)) ggX0_countBySets_X0_hasNoneBehind
theorem dX0_countBySets_0 : decode cX0_countBySets 0 = .ok (.iconst 0, 1) := by decide +kernel
theorem dX0_countBySets_1 : decode cX0_countBySets 1 = .ok (.istore_n 1, 1) := by decide +kernel
theorem dX0_countBySets_2 : decode cX0_countBySets 2 = .ok (.iconst 1, 1) := by decide +kernel
theorem dX0_countBySets_3 : decode cX0_countBySets 3 = .ok (.istore_n 2, 1) := by decide +kernel
theorem dX0_countBySets_4 : decode cX0_countBySets 4 = .ok (.iload_n 2, 1) := by decide +kernel
theorem dX0_countBySets_5 : decode cX0_countBySets 5 = .ok (.sipush 512, 3) := by decide +kernel
theorem dX0_countBySets_8 : decode cX0_countBySets 8 = .ok (.if_icmp .ge 29, 3) := by decide +kernel
theorem dX0_countBySets_11 : decode cX0_countBySets 11 = .ok (.iload_n 2, 1) := by decide +kernel
theorem dX0_countBySets_12 : decode cX0_countBySets 12 = .ok (.invokestatic 39, 3) := by decide +kernel
theorem dX0_countBySets_15 : decode cX0_countBySets 15 = .ok (.istore_n 3, 1) := by decide +kernel
theorem dX0_countBySets_16 : decode cX0_countBySets 16 = .ok (.iload_n 3, 1) := by decide +kernel
theorem dX0_countBySets_17 : decode cX0_countBySets 17 = .ok (.iload_n 1, 1) := by decide +kernel
theorem dX0_countBySets_18 : decode cX0_countBySets 18 = .ok (.if_icmp .le 13, 3) := by decide +kernel
theorem dX0_countBySets_21 : decode cX0_countBySets 21 = .ok (.aload_n 0, 1) := by decide +kernel
theorem dX0_countBySets_22 : decode cX0_countBySets 22 = .ok (.iload_n 2, 1) := by decide +kernel
theorem dX0_countBySets_23 : decode cX0_countBySets 23 = .ok (.invokevirtual 45, 3) := by decide +kernel
theorem dX0_countBySets_26 : decode cX0_countBySets 26 = .ok (.ifCond .eq 5, 3) := by decide +kernel
theorem dX0_countBySets_29 : decode cX0_countBySets 29 = .ok (.iload_n 3, 1) := by decide +kernel
theorem dX0_countBySets_30 : decode cX0_countBySets 30 = .ok (.istore_n 1, 1) := by decide +kernel
theorem dX0_countBySets_31 : decode cX0_countBySets 31 = .ok (.iinc 2 1, 3) := by decide +kernel
theorem dX0_countBySets_34 : decode cX0_countBySets 34 = .ok (.goto (-30), 3) := by decide +kernel
theorem dX0_countBySets_37 : decode cX0_countBySets 37 = .ok (.iload_n 1, 1) := by decide +kernel
theorem dX0_countBySets_38 : decode cX0_countBySets 38 = .ok (.ireturn, 1) := by decide +kernel
set_option maxRecDepth 20000 in
theorem ggX0_hasNoneBehind_X4_bit : GoodIn wsX0_hasNoneBehind wsX4_bit := goodIn_r _ [4] (by decide +kernel) (by decide +kernel)
set_option maxRecDepth 20000 in
theorem gX0_hasNoneBehind_X4_bit_n23 : GoodIn wsX0_hasNoneBehind (wsX4_bit) := ggX0_hasNoneBehind_X4_bit
theorem dX0_hasNoneBehind_0 : decode cX0_hasNoneBehind 0 = .ok (.iconst 0, 1) := by decide +kernel
theorem dX0_hasNoneBehind_1 : decode cX0_hasNoneBehind 1 = .ok (.istore_n 2, 1) := by decide +kernel
theorem dX0_hasNoneBehind_2 : decode cX0_hasNoneBehind 2 = .ok (.iload_n 2, 1) := by decide +kernel
theorem dX0_hasNoneBehind_3 : decode cX0_hasNoneBehind 3 = .ok (.bipush 9, 2) := by decide +kernel
theorem dX0_hasNoneBehind_5 : decode cX0_hasNoneBehind 5 = .ok (.if_icmp .ge 31, 3) := by decide +kernel
theorem dX0_hasNoneBehind_8 : decode cX0_hasNoneBehind 8 = .ok (.iload_n 1, 1) := by decide +kernel
theorem dX0_hasNoneBehind_9 : decode cX0_hasNoneBehind 9 = .ok (.iload_n 2, 1) := by decide +kernel
theorem dX0_hasNoneBehind_10 : decode cX0_hasNoneBehind 10 = .ok (.invokestatic 23, 3) := by decide +kernel
theorem dX0_hasNoneBehind_13 : decode cX0_hasNoneBehind 13 = .ok (.iconst 1, 1) := by decide +kernel
theorem dX0_hasNoneBehind_14 : decode cX0_hasNoneBehind 14 = .ok (.if_icmp .ne 16, 3) := by decide +kernel
theorem dX0_hasNoneBehind_17 : decode cX0_hasNoneBehind 17 = .ok (.aload_n 0, 1) := by decide +kernel
theorem dX0_hasNoneBehind_18 : decode cX0_hasNoneBehind 18 = .ok (.getfield 9, 3) := by decide +kernel
theorem dX0_hasNoneBehind_21 : decode cX0_hasNoneBehind 21 = .ok (.iload_n 2, 1) := by decide +kernel
theorem dX0_hasNoneBehind_22 : decode cX0_hasNoneBehind 22 = .ok (.iaload, 1) := by decide +kernel
theorem dX0_hasNoneBehind_23 : decode cX0_hasNoneBehind 23 = .ok (.iload_n 1, 1) := by decide +kernel
theorem dX0_hasNoneBehind_24 : decode cX0_hasNoneBehind 24 = .ok (.iand, 1) := by decide +kernel
theorem dX0_hasNoneBehind_25 : decode cX0_hasNoneBehind 25 = .ok (.ifCond .eq 5, 3) := by decide +kernel
theorem dX0_hasNoneBehind_28 : decode cX0_hasNoneBehind 28 = .ok (.iconst 0, 1) := by decide +kernel
theorem dX0_hasNoneBehind_29 : decode cX0_hasNoneBehind 29 = .ok (.ireturn, 1) := by decide +kernel
theorem dX0_hasNoneBehind_30 : decode cX0_hasNoneBehind 30 = .ok (.iinc 2 1, 3) := by decide +kernel
theorem dX0_hasNoneBehind_33 : decode cX0_hasNoneBehind 33 = .ok (.goto (-31), 3) := by decide +kernel
theorem dX0_hasNoneBehind_36 : decode cX0_hasNoneBehind 36 = .ok (.iconst 1, 1) := by decide +kernel
theorem dX0_hasNoneBehind_37 : decode cX0_hasNoneBehind 37 = .ok (.ireturn, 1) := by decide +kernel
theorem dX1_init_0 : decode cX1_init 0 = .ok (.aload_n 0, 1) := by decide +kernel
theorem dX1_init_1 : decode cX1_init 1 = .ok (.invokespecial 3, 3) := by decide +kernel
theorem dX1_init_4 : decode cX1_init 4 = .ok (.aload_n 0, 1) := by decide +kernel
theorem dX1_init_5 : decode cX1_init 5 = .ok (.bipush 9, 2) := by decide +kernel
theorem dX1_init_7 : decode cX1_init 7 = .ok (.newarray .int, 2) := by decide +kernel
theorem dX1_init_9 : decode cX1_init 9 = .ok (.putfield 9, 3) := by decide +kernel
theorem dX1_init_12 : decode cX1_init 12 = .ok (.aload_n 0, 1) := by decide +kernel
theorem dX1_init_13 : decode cX1_init 13 = .ok (.bipush 9, 2) := by decide +kernel
theorem dX1_init_15 : decode cX1_init 15 = .ok (.newarray .int, 2) := by decide +kernel
theorem dX1_init_17 : decode cX1_init 17 = .ok (.putfield 15, 3) := by decide +kernel
theorem dX1_init_20 : decode cX1_init 20 = .ok (.aload_n 0, 1) := by decide +kernel
theorem dX1_init_21 : decode cX1_init 21 = .ok (.bipush 9, 2) := by decide +kernel
theorem dX1_init_23 : decode cX1_init 23 = .ok (.newarray .int, 2) := by decide +kernel
theorem dX1_init_25 : decode cX1_init 25 = .ok (.putfield 18, 3) := by decide +kernel
theorem dX1_init_28 : decode cX1_init 28 = .ok (.aload_n 0, 1) := by decide +kernel
theorem dX1_init_29 : decode cX1_init 29 = .ok (.bipush 9, 2) := by decide +kernel
theorem dX1_init_31 : decode cX1_init 31 = .ok (.newarray .int, 2) := by decide +kernel
theorem dX1_init_33 : decode cX1_init 33 = .ok (.putfield 21, 3) := by decide +kernel
theorem dX1_init_36 : decode cX1_init 36 = .ok (.aload_n 0, 1) := by decide +kernel
theorem dX1_init_37 : decode cX1_init 37 = .ok (.bipush 9, 2) := by decide +kernel
theorem dX1_init_39 : decode cX1_init 39 = .ok (.newarray .int, 2) := by decide +kernel
theorem dX1_init_41 : decode cX1_init 41 = .ok (.putfield 24, 3) := by decide +kernel
theorem dX1_init_44 : decode cX1_init 44 = .ok (.aload_n 0, 1) := by decide +kernel
theorem dX1_init_45 : decode cX1_init 45 = .ok (.bipush 12, 2) := by decide +kernel
theorem dX1_init_47 : decode cX1_init 47 = .ok (.newarray .int, 2) := by decide +kernel
theorem dX1_init_49 : decode cX1_init 49 = .ok (.putfield 27, 3) := by decide +kernel
theorem dX1_init_52 : decode cX1_init 52 = .ok (.aload_n 0, 1) := by decide +kernel
theorem dX1_init_53 : decode cX1_init 53 = .ok (.bipush 12, 2) := by decide +kernel
theorem dX1_init_55 : decode cX1_init 55 = .ok (.newarray .int, 2) := by decide +kernel
theorem dX1_init_57 : decode cX1_init 57 = .ok (.putfield 30, 3) := by decide +kernel
theorem dX1_init_60 : decode cX1_init 60 = .ok (.return_, 1) := by decide +kernel
theorem dX1_clearGraph_0 : decode cX1_clearGraph 0 = .ok (.iconst 0, 1) := by decide +kernel
theorem dX1_clearGraph_1 : decode cX1_clearGraph 1 = .ok (.istore_n 1, 1) := by decide +kernel
theorem dX1_clearGraph_2 : decode cX1_clearGraph 2 = .ok (.iload_n 1, 1) := by decide +kernel
theorem dX1_clearGraph_3 : decode cX1_clearGraph 3 = .ok (.bipush 9, 2) := by decide +kernel
theorem dX1_clearGraph_5 : decode cX1_clearGraph 5 = .ok (.if_icmp .ge 37, 3) := by decide +kernel
theorem dX1_clearGraph_8 : decode cX1_clearGraph 8 = .ok (.aload_n 0, 1) := by decide +kernel
theorem dX1_clearGraph_9 : decode cX1_clearGraph 9 = .ok (.getfield 9, 3) := by decide +kernel
theorem dX1_clearGraph_12 : decode cX1_clearGraph 12 = .ok (.iload_n 1, 1) := by decide +kernel
theorem dX1_clearGraph_13 : decode cX1_clearGraph 13 = .ok (.iconst 0, 1) := by decide +kernel
theorem dX1_clearGraph_14 : decode cX1_clearGraph 14 = .ok (.iastore, 1) := by decide +kernel
theorem dX1_clearGraph_15 : decode cX1_clearGraph 15 = .ok (.aload_n 0, 1) := by decide +kernel
theorem dX1_clearGraph_16 : decode cX1_clearGraph 16 = .ok (.getfield 15, 3) := by decide +kernel
theorem dX1_clearGraph_19 : decode cX1_clearGraph 19 = .ok (.iload_n 1, 1) := by decide +kernel
theorem dX1_clearGraph_20 : decode cX1_clearGraph 20 = .ok (.iconst 0, 1) := by decide +kernel
theorem dX1_clearGraph_21 : decode cX1_clearGraph 21 = .ok (.iastore, 1) := by decide +kernel
theorem dX1_clearGraph_22 : decode cX1_clearGraph 22 = .ok (.aload_n 0, 1) := by decide +kernel
theorem dX1_clearGraph_23 : decode cX1_clearGraph 23 = .ok (.getfield 18, 3) := by decide +kernel
theorem dX1_clearGraph_26 : decode cX1_clearGraph 26 = .ok (.iload_n 1, 1) := by decide +kernel
theorem dX1_clearGraph_27 : decode cX1_clearGraph 27 = .ok (.iconst 0, 1) := by decide +kernel
theorem dX1_clearGraph_28 : decode cX1_clearGraph 28 = .ok (.iastore, 1) := by decide +kernel
theorem dX1_clearGraph_29 : decode cX1_clearGraph 29 = .ok (.aload_n 0, 1) := by decide +kernel
theorem dX1_clearGraph_30 : decode cX1_clearGraph 30 = .ok (.getfield 21, 3) := by decide +kernel
theorem dX1_clearGraph_33 : decode cX1_clearGraph 33 = .ok (.iload_n 1, 1) := by decide +kernel
theorem dX1_clearGraph_34 : decode cX1_clearGraph 34 = .ok (.iconst 0, 1) := by decide +kernel
theorem dX1_clearGraph_35 : decode cX1_clearGraph 35 = .ok (.iastore, 1) := by decide +kernel
theorem dX1_clearGraph_36 : decode cX1_clearGraph 36 = .ok (.iinc 1 1, 3) := by decide +kernel
theorem dX1_clearGraph_39 : decode cX1_clearGraph 39 = .ok (.goto (-37), 3) := by decide +kernel
theorem dX1_clearGraph_42 : decode cX1_clearGraph 42 = .ok (.return_, 1) := by decide +kernel
theorem dX1_copyGraph_0 : decode cX1_copyGraph 0 = .ok (.iconst 0, 1) := by decide +kernel
theorem dX1_copyGraph_1 : decode cX1_copyGraph 1 = .ok (.istore_n 2, 1) := by decide +kernel
theorem dX1_copyGraph_2 : decode cX1_copyGraph 2 = .ok (.iload_n 2, 1) := by decide +kernel
theorem dX1_copyGraph_3 : decode cX1_copyGraph 3 = .ok (.bipush 9, 2) := by decide +kernel
theorem dX1_copyGraph_5 : decode cX1_copyGraph 5 = .ok (.if_icmp .ge 57, 3) := by decide +kernel
theorem dX1_copyGraph_8 : decode cX1_copyGraph 8 = .ok (.aload_n 0, 1) := by decide +kernel
theorem dX1_copyGraph_9 : decode cX1_copyGraph 9 = .ok (.getfield 9, 3) := by decide +kernel
theorem dX1_copyGraph_12 : decode cX1_copyGraph 12 = .ok (.iload_n 2, 1) := by decide +kernel
theorem dX1_copyGraph_13 : decode cX1_copyGraph 13 = .ok (.aload_n 1, 1) := by decide +kernel
theorem dX1_copyGraph_14 : decode cX1_copyGraph 14 = .ok (.getfield 9, 3) := by decide +kernel
theorem dX1_copyGraph_17 : decode cX1_copyGraph 17 = .ok (.iload_n 2, 1) := by decide +kernel
theorem dX1_copyGraph_18 : decode cX1_copyGraph 18 = .ok (.iaload, 1) := by decide +kernel
theorem dX1_copyGraph_19 : decode cX1_copyGraph 19 = .ok (.iastore, 1) := by decide +kernel
theorem dX1_copyGraph_20 : decode cX1_copyGraph 20 = .ok (.aload_n 0, 1) := by decide +kernel
theorem dX1_copyGraph_21 : decode cX1_copyGraph 21 = .ok (.getfield 15, 3) := by decide +kernel
theorem dX1_copyGraph_24 : decode cX1_copyGraph 24 = .ok (.iload_n 2, 1) := by decide +kernel
theorem dX1_copyGraph_25 : decode cX1_copyGraph 25 = .ok (.aload_n 1, 1) := by decide +kernel
theorem dX1_copyGraph_26 : decode cX1_copyGraph 26 = .ok (.getfield 15, 3) := by decide +kernel
theorem dX1_copyGraph_29 : decode cX1_copyGraph 29 = .ok (.iload_n 2, 1) := by decide +kernel
theorem dX1_copyGraph_30 : decode cX1_copyGraph 30 = .ok (.iaload, 1) := by decide +kernel
theorem dX1_copyGraph_31 : decode cX1_copyGraph 31 = .ok (.iastore, 1) := by decide +kernel
theorem dX1_copyGraph_32 : decode cX1_copyGraph 32 = .ok (.aload_n 0, 1) := by decide +kernel
theorem dX1_copyGraph_33 : decode cX1_copyGraph 33 = .ok (.getfield 18, 3) := by decide +kernel
theorem dX1_copyGraph_36 : decode cX1_copyGraph 36 = .ok (.iload_n 2, 1) := by decide +kernel
theorem dX1_copyGraph_37 : decode cX1_copyGraph 37 = .ok (.aload_n 1, 1) := by decide +kernel
theorem dX1_copyGraph_38 : decode cX1_copyGraph 38 = .ok (.getfield 18, 3) := by decide +kernel
theorem dX1_copyGraph_41 : decode cX1_copyGraph 41 = .ok (.iload_n 2, 1) := by decide +kernel
theorem dX1_copyGraph_42 : decode cX1_copyGraph 42 = .ok (.iaload, 1) := by decide +kernel
theorem dX1_copyGraph_43 : decode cX1_copyGraph 43 = .ok (.iastore, 1) := by decide +kernel
theorem dX1_copyGraph_44 : decode cX1_copyGraph 44 = .ok (.aload_n 0, 1) := by decide +kernel
theorem dX1_copyGraph_45 : decode cX1_copyGraph 45 = .ok (.getfield 21, 3) := by decide +kernel
theorem dX1_copyGraph_48 : decode cX1_copyGraph 48 = .ok (.iload_n 2, 1) := by decide +kernel
theorem dX1_copyGraph_49 : decode cX1_copyGraph 49 = .ok (.aload_n 1, 1) := by decide +kernel
theorem dX1_copyGraph_50 : decode cX1_copyGraph 50 = .ok (.getfield 21, 3) := by decide +kernel
theorem dX1_copyGraph_53 : decode cX1_copyGraph 53 = .ok (.iload_n 2, 1) := by decide +kernel
theorem dX1_copyGraph_54 : decode cX1_copyGraph 54 = .ok (.iaload, 1) := by decide +kernel
theorem dX1_copyGraph_55 : decode cX1_copyGraph 55 = .ok (.iastore, 1) := by decide +kernel
theorem dX1_copyGraph_56 : decode cX1_copyGraph 56 = .ok (.iinc 2 1, 3) := by decide +kernel
theorem dX1_copyGraph_59 : decode cX1_copyGraph 59 = .ok (.goto (-57), 3) := by decide +kernel
theorem dX1_copyGraph_62 : decode cX1_copyGraph 62 = .ok (.return_, 1) := by decide +kernel
theorem dX1_copySplitting_0 : decode cX1_copySplitting 0 = .ok (.iconst 0, 1) := by decide +kernel
theorem dX1_copySplitting_1 : decode cX1_copySplitting 1 = .ok (.istore_n 2, 1) := by decide +kernel
theorem dX1_copySplitting_2 : decode cX1_copySplitting 2 = .ok (.iload_n 2, 1) := by decide +kernel
theorem dX1_copySplitting_3 : decode cX1_copySplitting 3 = .ok (.bipush 9, 2) := by decide +kernel
theorem dX1_copySplitting_5 : decode cX1_copySplitting 5 = .ok (.if_icmp .ge 21, 3) := by decide +kernel
theorem dX1_copySplitting_8 : decode cX1_copySplitting 8 = .ok (.aload_n 0, 1) := by decide +kernel
theorem dX1_copySplitting_9 : decode cX1_copySplitting 9 = .ok (.getfield 24, 3) := by decide +kernel
theorem dX1_copySplitting_12 : decode cX1_copySplitting 12 = .ok (.iload_n 2, 1) := by decide +kernel
theorem dX1_copySplitting_13 : decode cX1_copySplitting 13 = .ok (.aload_n 1, 1) := by decide +kernel
theorem dX1_copySplitting_14 : decode cX1_copySplitting 14 = .ok (.getfield 24, 3) := by decide +kernel
theorem dX1_copySplitting_17 : decode cX1_copySplitting 17 = .ok (.iload_n 2, 1) := by decide +kernel
theorem dX1_copySplitting_18 : decode cX1_copySplitting 18 = .ok (.iaload, 1) := by decide +kernel
theorem dX1_copySplitting_19 : decode cX1_copySplitting 19 = .ok (.iastore, 1) := by decide +kernel
theorem dX1_copySplitting_20 : decode cX1_copySplitting 20 = .ok (.iinc 2 1, 3) := by decide +kernel
theorem dX1_copySplitting_23 : decode cX1_copySplitting 23 = .ok (.goto (-21), 3) := by decide +kernel
theorem dX1_copySplitting_26 : decode cX1_copySplitting 26 = .ok (.iconst 0, 1) := by decide +kernel
theorem dX1_copySplitting_27 : decode cX1_copySplitting 27 = .ok (.istore_n 2, 1) := by decide +kernel
theorem dX1_copySplitting_28 : decode cX1_copySplitting 28 = .ok (.iload_n 2, 1) := by decide +kernel
theorem dX1_copySplitting_29 : decode cX1_copySplitting 29 = .ok (.bipush 12, 2) := by decide +kernel
theorem dX1_copySplitting_31 : decode cX1_copySplitting 31 = .ok (.if_icmp .ge 33, 3) := by decide +kernel
theorem dX1_copySplitting_34 : decode cX1_copySplitting 34 = .ok (.aload_n 0, 1) := by decide +kernel
theorem dX1_copySplitting_35 : decode cX1_copySplitting 35 = .ok (.getfield 27, 3) := by decide +kernel
theorem dX1_copySplitting_38 : decode cX1_copySplitting 38 = .ok (.iload_n 2, 1) := by decide +kernel
theorem dX1_copySplitting_39 : decode cX1_copySplitting 39 = .ok (.aload_n 1, 1) := by decide +kernel
theorem dX1_copySplitting_40 : decode cX1_copySplitting 40 = .ok (.getfield 27, 3) := by decide +kernel
theorem dX1_copySplitting_43 : decode cX1_copySplitting 43 = .ok (.iload_n 2, 1) := by decide +kernel
theorem dX1_copySplitting_44 : decode cX1_copySplitting 44 = .ok (.iaload, 1) := by decide +kernel
theorem dX1_copySplitting_45 : decode cX1_copySplitting 45 = .ok (.iastore, 1) := by decide +kernel
theorem dX1_copySplitting_46 : decode cX1_copySplitting 46 = .ok (.aload_n 0, 1) := by decide +kernel
theorem dX1_copySplitting_47 : decode cX1_copySplitting 47 = .ok (.getfield 30, 3) := by decide +kernel
theorem dX1_copySplitting_50 : decode cX1_copySplitting 50 = .ok (.iload_n 2, 1) := by decide +kernel
theorem dX1_copySplitting_51 : decode cX1_copySplitting 51 = .ok (.aload_n 1, 1) := by decide +kernel
theorem dX1_copySplitting_52 : decode cX1_copySplitting 52 = .ok (.getfield 30, 3) := by decide +kernel
theorem dX1_copySplitting_55 : decode cX1_copySplitting 55 = .ok (.iload_n 2, 1) := by decide +kernel
theorem dX1_copySplitting_56 : decode cX1_copySplitting 56 = .ok (.iaload, 1) := by decide +kernel
theorem dX1_copySplitting_57 : decode cX1_copySplitting 57 = .ok (.iastore, 1) := by decide +kernel
theorem dX1_copySplitting_58 : decode cX1_copySplitting 58 = .ok (.iinc 2 1, 3) := by decide +kernel
theorem dX1_copySplitting_61 : decode cX1_copySplitting 61 = .ok (.goto (-33), 3) := by decide +kernel
theorem dX1_copySplitting_64 : decode cX1_copySplitting 64 = .ok (.aload_n 0, 1) := by decide +kernel
theorem dX1_copySplitting_65 : decode cX1_copySplitting 65 = .ok (.aload_n 1, 1) := by decide +kernel
theorem dX1_copySplitting_66 : decode cX1_copySplitting 66 = .ok (.getfield 33, 3) := by decide +kernel
theorem dX1_copySplitting_69 : decode cX1_copySplitting 69 = .ok (.putfield 33, 3) := by decide +kernel
theorem dX1_copySplitting_72 : decode cX1_copySplitting 72 = .ok (.aload_n 0, 1) := by decide +kernel
theorem dX1_copySplitting_73 : decode cX1_copySplitting 73 = .ok (.aload_n 1, 1) := by decide +kernel
theorem dX1_copySplitting_74 : decode cX1_copySplitting 74 = .ok (.getfield 37, 3) := by decide +kernel
theorem dX1_copySplitting_77 : decode cX1_copySplitting 77 = .ok (.putfield 37, 3) := by decide +kernel
theorem dX1_copySplitting_80 : decode cX1_copySplitting 80 = .ok (.aload_n 0, 1) := by decide +kernel
theorem dX1_copySplitting_81 : decode cX1_copySplitting 81 = .ok (.aload_n 1, 1) := by decide +kernel
theorem dX1_copySplitting_82 : decode cX1_copySplitting 82 = .ok (.getfield 40, 3) := by decide +kernel
theorem dX1_copySplitting_85 : decode cX1_copySplitting 85 = .ok (.putfield 40, 3) := by decide +kernel
theorem dX1_copySplitting_88 : decode cX1_copySplitting 88 = .ok (.return_, 1) := by decide +kernel
theorem dX1_beginAnew_0 : decode cX1_beginAnew 0 = .ok (.aload_n 0, 1) := by decide +kernel
theorem dX1_beginAnew_1 : decode cX1_beginAnew 1 = .ok (.iconst 0, 1) := by decide +kernel
theorem dX1_beginAnew_2 : decode cX1_beginAnew 2 = .ok (.putfield 33, 3) := by decide +kernel
theorem dX1_beginAnew_5 : decode cX1_beginAnew 5 = .ok (.iconst 0, 1) := by decide +kernel
theorem dX1_beginAnew_6 : decode cX1_beginAnew 6 = .ok (.istore_n 1, 1) := by decide +kernel
theorem dX1_beginAnew_7 : decode cX1_beginAnew 7 = .ok (.iload_n 1, 1) := by decide +kernel
theorem dX1_beginAnew_8 : decode cX1_beginAnew 8 = .ok (.bipush 9, 2) := by decide +kernel
theorem dX1_beginAnew_10 : decode cX1_beginAnew 10 = .ok (.if_icmp .ge 21, 3) := by decide +kernel
theorem dX1_beginAnew_13 : decode cX1_beginAnew 13 = .ok (.aload_n 0, 1) := by decide +kernel
theorem dX1_beginAnew_14 : decode cX1_beginAnew 14 = .ok (.getfield 24, 3) := by decide +kernel
theorem dX1_beginAnew_17 : decode cX1_beginAnew 17 = .ok (.iload_n 1, 1) := by decide +kernel
theorem dX1_beginAnew_18 : decode cX1_beginAnew 18 = .ok (.aload_n 0, 1) := by decide +kernel
theorem dX1_beginAnew_19 : decode cX1_beginAnew 19 = .ok (.getfield 9, 3) := by decide +kernel
theorem dX1_beginAnew_22 : decode cX1_beginAnew 22 = .ok (.iload_n 1, 1) := by decide +kernel
theorem dX1_beginAnew_23 : decode cX1_beginAnew 23 = .ok (.iaload, 1) := by decide +kernel
theorem dX1_beginAnew_24 : decode cX1_beginAnew 24 = .ok (.iastore, 1) := by decide +kernel
theorem dX1_beginAnew_25 : decode cX1_beginAnew 25 = .ok (.iinc 1 1, 3) := by decide +kernel
theorem dX1_beginAnew_28 : decode cX1_beginAnew 28 = .ok (.goto (-21), 3) := by decide +kernel
theorem dX1_beginAnew_31 : decode cX1_beginAnew 31 = .ok (.return_, 1) := by decide +kernel
set_option maxRecDepth 20000 in
theorem ggX1_countJoins_J6_bitCount_0f7a4 : GoodIn wsX1_countJoins wsJ6_bitCount_0f7a4 := goodIn_r _ [5, 6, 7, 8] (by decide +kernel) (by decide +kernel)
set_option maxRecDepth 20000 in
theorem gX1_countJoins_J6_bitCount_0f7a4 : GoodIn wsX1_countJoins (va_wsS RX1 43 yJ6_bitCount_0f7a4 wsJ6_bitCount_0f7a4) := goodIn_app (goodIn_of _ (by decide +kernel)) ggX1_countJoins_J6_bitCount_0f7a4
theorem dX1_countJoins_0 : decode cX1_countJoins 0 = .ok (.iconst 0, 1) := by decide +kernel
theorem dX1_countJoins_1 : decode cX1_countJoins 1 = .ok (.istore_n 1, 1) := by decide +kernel
theorem dX1_countJoins_2 : decode cX1_countJoins 2 = .ok (.iconst 0, 1) := by decide +kernel
theorem dX1_countJoins_3 : decode cX1_countJoins 3 = .ok (.istore_n 2, 1) := by decide +kernel
theorem dX1_countJoins_4 : decode cX1_countJoins 4 = .ok (.iload_n 2, 1) := by decide +kernel
theorem dX1_countJoins_5 : decode cX1_countJoins 5 = .ok (.bipush 9, 2) := by decide +kernel
theorem dX1_countJoins_7 : decode cX1_countJoins 7 = .ok (.if_icmp .ge 21, 3) := by decide +kernel
theorem dX1_countJoins_10 : decode cX1_countJoins 10 = .ok (.iload_n 1, 1) := by decide +kernel
theorem dX1_countJoins_11 : decode cX1_countJoins 11 = .ok (.aload_n 0, 1) := by decide +kernel
theorem dX1_countJoins_12 : decode cX1_countJoins 12 = .ok (.getfield 18, 3) := by decide +kernel
theorem dX1_countJoins_15 : decode cX1_countJoins 15 = .ok (.iload_n 2, 1) := by decide +kernel
theorem dX1_countJoins_16 : decode cX1_countJoins 16 = .ok (.iaload, 1) := by decide +kernel
theorem dX1_countJoins_17 : decode cX1_countJoins 17 = .ok (.invokestatic 43, 3) := by decide +kernel
theorem dX1_countJoins_20 : decode cX1_countJoins 20 = .ok (.iadd, 1) := by decide +kernel
theorem dX1_countJoins_21 : decode cX1_countJoins 21 = .ok (.istore_n 1, 1) := by decide +kernel
theorem dX1_countJoins_22 : decode cX1_countJoins 22 = .ok (.iinc 2 1, 3) := by decide +kernel
theorem dX1_countJoins_25 : decode cX1_countJoins 25 = .ok (.goto (-21), 3) := by decide +kernel
theorem dX1_countJoins_28 : decode cX1_countJoins 28 = .ok (.iload_n 1, 1) := by decide +kernel
theorem dX1_countJoins_29 : decode cX1_countJoins 29 = .ok (.ireturn, 1) := by decide +kernel
set_option maxRecDepth 20000 in
theorem ggX1_countJoinsTo_X4_bit : GoodIn wsX1_countJoinsTo wsX4_bit := goodIn_r _ [4] (by decide +kernel) (by decide +kernel)
set_option maxRecDepth 20000 in
theorem gX1_countJoinsTo_X4_bit_n49 : GoodIn wsX1_countJoinsTo (wsX4_bit) := ggX1_countJoinsTo_X4_bit
theorem dX1_countJoinsTo_0 : decode cX1_countJoinsTo 0 = .ok (.iconst 0, 1) := by decide +kernel
theorem dX1_countJoinsTo_1 : decode cX1_countJoinsTo 1 = .ok (.istore_n 2, 1) := by decide +kernel
theorem dX1_countJoinsTo_2 : decode cX1_countJoinsTo 2 = .ok (.iconst 0, 1) := by decide +kernel
theorem dX1_countJoinsTo_3 : decode cX1_countJoinsTo 3 = .ok (.istore_n 3, 1) := by decide +kernel
theorem dX1_countJoinsTo_4 : decode cX1_countJoinsTo 4 = .ok (.iload_n 3, 1) := by decide +kernel
theorem dX1_countJoinsTo_5 : decode cX1_countJoinsTo 5 = .ok (.bipush 9, 2) := by decide +kernel
theorem dX1_countJoinsTo_7 : decode cX1_countJoinsTo 7 = .ok (.if_icmp .ge 22, 3) := by decide +kernel
theorem dX1_countJoinsTo_10 : decode cX1_countJoinsTo 10 = .ok (.iload_n 2, 1) := by decide +kernel
theorem dX1_countJoinsTo_11 : decode cX1_countJoinsTo 11 = .ok (.aload_n 0, 1) := by decide +kernel
theorem dX1_countJoinsTo_12 : decode cX1_countJoinsTo 12 = .ok (.getfield 18, 3) := by decide +kernel
theorem dX1_countJoinsTo_15 : decode cX1_countJoinsTo 15 = .ok (.iload_n 3, 1) := by decide +kernel
theorem dX1_countJoinsTo_16 : decode cX1_countJoinsTo 16 = .ok (.iaload, 1) := by decide +kernel
theorem dX1_countJoinsTo_17 : decode cX1_countJoinsTo 17 = .ok (.iload_n 1, 1) := by decide +kernel
theorem dX1_countJoinsTo_18 : decode cX1_countJoinsTo 18 = .ok (.invokestatic 49, 3) := by decide +kernel
theorem dX1_countJoinsTo_21 : decode cX1_countJoinsTo 21 = .ok (.iadd, 1) := by decide +kernel
theorem dX1_countJoinsTo_22 : decode cX1_countJoinsTo 22 = .ok (.istore_n 2, 1) := by decide +kernel
theorem dX1_countJoinsTo_23 : decode cX1_countJoinsTo 23 = .ok (.iinc 3 1, 3) := by decide +kernel
theorem dX1_countJoinsTo_26 : decode cX1_countJoinsTo 26 = .ok (.goto (-22), 3) := by decide +kernel
theorem dX1_countJoinsTo_29 : decode cX1_countJoinsTo 29 = .ok (.iload_n 2, 1) := by decide +kernel
theorem dX1_countJoinsTo_30 : decode cX1_countJoinsTo 30 = .ok (.ireturn, 1) := by decide +kernel
set_option maxRecDepth 20000 in
theorem ggX1_weightOf_X4_bit : GoodIn wsX1_weightOf wsX4_bit := goodIn_r _ [4] (by decide +kernel) (by decide +kernel)
set_option maxRecDepth 20000 in
theorem gX1_weightOf_X4_bit_n49 : GoodIn wsX1_weightOf (wsX4_bit) := ggX1_weightOf_X4_bit
theorem dX1_weightOf_0 : decode cX1_weightOf 0 = .ok (.sipush 999, 3) := by decide +kernel
theorem dX1_weightOf_3 : decode cX1_weightOf 3 = .ok (.istore_n 2, 1) := by decide +kernel
theorem dX1_weightOf_4 : decode cX1_weightOf 4 = .ok (.iconst 0, 1) := by decide +kernel
theorem dX1_weightOf_5 : decode cX1_weightOf 5 = .ok (.istore_n 3, 1) := by decide +kernel
theorem dX1_weightOf_6 : decode cX1_weightOf 6 = .ok (.iload_n 3, 1) := by decide +kernel
theorem dX1_weightOf_7 : decode cX1_weightOf 7 = .ok (.bipush 9, 2) := by decide +kernel
theorem dX1_weightOf_9 : decode cX1_weightOf 9 = .ok (.if_icmp .ge 35, 3) := by decide +kernel
theorem dX1_weightOf_12 : decode cX1_weightOf 12 = .ok (.iload_n 1, 1) := by decide +kernel
theorem dX1_weightOf_13 : decode cX1_weightOf 13 = .ok (.iload_n 3, 1) := by decide +kernel
theorem dX1_weightOf_14 : decode cX1_weightOf 14 = .ok (.invokestatic 49, 3) := by decide +kernel
theorem dX1_weightOf_17 : decode cX1_weightOf 17 = .ok (.iconst 1, 1) := by decide +kernel
theorem dX1_weightOf_18 : decode cX1_weightOf 18 = .ok (.if_icmp .ne 20, 3) := by decide +kernel
theorem dX1_weightOf_21 : decode cX1_weightOf 21 = .ok (.aload_n 0, 1) := by decide +kernel
theorem dX1_weightOf_22 : decode cX1_weightOf 22 = .ok (.getfield 24, 3) := by decide +kernel
theorem dX1_weightOf_25 : decode cX1_weightOf 25 = .ok (.iload_n 3, 1) := by decide +kernel
theorem dX1_weightOf_26 : decode cX1_weightOf 26 = .ok (.iaload, 1) := by decide +kernel
theorem dX1_weightOf_27 : decode cX1_weightOf 27 = .ok (.iload_n 2, 1) := by decide +kernel
theorem dX1_weightOf_28 : decode cX1_weightOf 28 = .ok (.if_icmp .ge 10, 3) := by decide +kernel
theorem dX1_weightOf_31 : decode cX1_weightOf 31 = .ok (.aload_n 0, 1) := by decide +kernel
theorem dX1_weightOf_32 : decode cX1_weightOf 32 = .ok (.getfield 24, 3) := by decide +kernel
theorem dX1_weightOf_35 : decode cX1_weightOf 35 = .ok (.iload_n 3, 1) := by decide +kernel
theorem dX1_weightOf_36 : decode cX1_weightOf 36 = .ok (.iaload, 1) := by decide +kernel
theorem dX1_weightOf_37 : decode cX1_weightOf 37 = .ok (.istore_n 2, 1) := by decide +kernel
theorem dX1_weightOf_38 : decode cX1_weightOf 38 = .ok (.iinc 3 1, 3) := by decide +kernel
theorem dX1_weightOf_41 : decode cX1_weightOf 41 = .ok (.goto (-35), 3) := by decide +kernel
theorem dX1_weightOf_44 : decode cX1_weightOf 44 = .ok (.iload_n 2, 1) := by decide +kernel
theorem dX1_weightOf_45 : decode cX1_weightOf 45 = .ok (.ireturn, 1) := by decide +kernel
set_option maxRecDepth 20000 in
theorem ggX1_isOpen_X4_bit : GoodIn wsX1_isOpen wsX4_bit := goodIn_r _ [4] (by decide +kernel) (by decide +kernel)
set_option maxRecDepth 20000 in
theorem gX1_isOpen_X4_bit_n49 : GoodIn wsX1_isOpen (wsX4_bit) := ggX1_isOpen_X4_bit
theorem dX1_isOpen_0 : decode cX1_isOpen 0 = .ok (.iconst 0, 1) := by decide +kernel
theorem dX1_isOpen_1 : decode cX1_isOpen 1 = .ok (.istore_n 2, 1) := by decide +kernel
theorem dX1_isOpen_2 : decode cX1_isOpen 2 = .ok (.iload_n 2, 1) := by decide +kernel
theorem dX1_isOpen_3 : decode cX1_isOpen 3 = .ok (.bipush 9, 2) := by decide +kernel
theorem dX1_isOpen_5 : decode cX1_isOpen 5 = .ok (.if_icmp .ge 31, 3) := by decide +kernel
theorem dX1_isOpen_8 : decode cX1_isOpen 8 = .ok (.iload_n 1, 1) := by decide +kernel
theorem dX1_isOpen_9 : decode cX1_isOpen 9 = .ok (.iload_n 2, 1) := by decide +kernel
theorem dX1_isOpen_10 : decode cX1_isOpen 10 = .ok (.invokestatic 49, 3) := by decide +kernel
theorem dX1_isOpen_13 : decode cX1_isOpen 13 = .ok (.iconst 1, 1) := by decide +kernel
theorem dX1_isOpen_14 : decode cX1_isOpen 14 = .ok (.if_icmp .ne 16, 3) := by decide +kernel
theorem dX1_isOpen_17 : decode cX1_isOpen 17 = .ok (.aload_n 0, 1) := by decide +kernel
theorem dX1_isOpen_18 : decode cX1_isOpen 18 = .ok (.getfield 21, 3) := by decide +kernel
theorem dX1_isOpen_21 : decode cX1_isOpen 21 = .ok (.iload_n 2, 1) := by decide +kernel
theorem dX1_isOpen_22 : decode cX1_isOpen 22 = .ok (.iaload, 1) := by decide +kernel
theorem dX1_isOpen_23 : decode cX1_isOpen 23 = .ok (.iload_n 1, 1) := by decide +kernel
theorem dX1_isOpen_24 : decode cX1_isOpen 24 = .ok (.iand, 1) := by decide +kernel
theorem dX1_isOpen_25 : decode cX1_isOpen 25 = .ok (.ifCond .eq 5, 3) := by decide +kernel
theorem dX1_isOpen_28 : decode cX1_isOpen 28 = .ok (.iconst 0, 1) := by decide +kernel
theorem dX1_isOpen_29 : decode cX1_isOpen 29 = .ok (.ireturn, 1) := by decide +kernel
theorem dX1_isOpen_30 : decode cX1_isOpen 30 = .ok (.iinc 2 1, 3) := by decide +kernel
theorem dX1_isOpen_33 : decode cX1_isOpen 33 = .ok (.goto (-31), 3) := by decide +kernel
theorem dX1_isOpen_36 : decode cX1_isOpen 36 = .ok (.iconst 1, 1) := by decide +kernel
theorem dX1_isOpen_37 : decode cX1_isOpen 37 = .ok (.ireturn, 1) := by decide +kernel
set_option maxRecDepth 20000 in
theorem ggX1_takeWay_X4_bit : GoodIn wsX1_takeWay wsX4_bit := goodIn_r _ [8] (by decide +kernel) (by decide +kernel)
set_option maxRecDepth 20000 in
theorem gX1_takeWay_X4_bit_n49 : GoodIn wsX1_takeWay (wsX4_bit) := ggX1_takeWay_X4_bit
theorem dX1_takeWay_0 : decode cX1_takeWay 0 = .ok (.aload_n 0, 1) := by decide +kernel
theorem dX1_takeWay_1 : decode cX1_takeWay 1 = .ok (.getfield 33, 3) := by decide +kernel
theorem dX1_takeWay_4 : decode cX1_takeWay 4 = .ok (.ifCond .lt 12, 3) := by decide +kernel
theorem dX1_takeWay_7 : decode cX1_takeWay 7 = .ok (.aload_n 0, 1) := by decide +kernel
theorem dX1_takeWay_8 : decode cX1_takeWay 8 = .ok (.getfield 33, 3) := by decide +kernel
theorem dX1_takeWay_11 : decode cX1_takeWay 11 = .ok (.bipush 12, 2) := by decide +kernel
theorem dX1_takeWay_13 : decode cX1_takeWay 13 = .ok (.if_icmp .lt 4, 3) := by decide +kernel
theorem dX1_takeWay_16 : decode cX1_takeWay 16 = .ok (.return_, 1) := by decide +kernel
theorem dX1_takeWay_17 : decode cX1_takeWay 17 = .ok (.aload_n 0, 1) := by decide +kernel
theorem dX1_takeWay_18 : decode cX1_takeWay 18 = .ok (.getfield 27, 3) := by decide +kernel
theorem dX1_takeWay_21 : decode cX1_takeWay 21 = .ok (.aload_n 0, 1) := by decide +kernel
theorem dX1_takeWay_22 : decode cX1_takeWay 22 = .ok (.getfield 33, 3) := by decide +kernel
theorem dX1_takeWay_25 : decode cX1_takeWay 25 = .ok (.iload_n 2, 1) := by decide +kernel
theorem dX1_takeWay_26 : decode cX1_takeWay 26 = .ok (.iastore, 1) := by decide +kernel
theorem dX1_takeWay_27 : decode cX1_takeWay 27 = .ok (.aload_n 0, 1) := by decide +kernel
theorem dX1_takeWay_28 : decode cX1_takeWay 28 = .ok (.getfield 30, 3) := by decide +kernel
theorem dX1_takeWay_31 : decode cX1_takeWay 31 = .ok (.aload_n 0, 1) := by decide +kernel
theorem dX1_takeWay_32 : decode cX1_takeWay 32 = .ok (.getfield 33, 3) := by decide +kernel
theorem dX1_takeWay_35 : decode cX1_takeWay 35 = .ok (.iload_n 1, 1) := by decide +kernel
theorem dX1_takeWay_36 : decode cX1_takeWay 36 = .ok (.iastore, 1) := by decide +kernel
theorem dX1_takeWay_37 : decode cX1_takeWay 37 = .ok (.aload_n 0, 1) := by decide +kernel
theorem dX1_takeWay_38 : decode cX1_takeWay 38 = .ok (.dup, 1) := by decide +kernel
theorem dX1_takeWay_39 : decode cX1_takeWay 39 = .ok (.getfield 33, 3) := by decide +kernel
theorem dX1_takeWay_42 : decode cX1_takeWay 42 = .ok (.iconst 1, 1) := by decide +kernel
theorem dX1_takeWay_43 : decode cX1_takeWay 43 = .ok (.iadd, 1) := by decide +kernel
theorem dX1_takeWay_44 : decode cX1_takeWay 44 = .ok (.putfield 33, 3) := by decide +kernel
theorem dX1_takeWay_47 : decode cX1_takeWay 47 = .ok (.aload_n 0, 1) := by decide +kernel
theorem dX1_takeWay_48 : decode cX1_takeWay 48 = .ok (.dup, 1) := by decide +kernel
theorem dX1_takeWay_49 : decode cX1_takeWay 49 = .ok (.getfield 37, 3) := by decide +kernel
theorem dX1_takeWay_52 : decode cX1_takeWay 52 = .ok (.iconst 1, 1) := by decide +kernel
theorem dX1_takeWay_53 : decode cX1_takeWay 53 = .ok (.iadd, 1) := by decide +kernel
theorem dX1_takeWay_54 : decode cX1_takeWay 54 = .ok (.putfield 37, 3) := by decide +kernel
theorem dX1_takeWay_57 : decode cX1_takeWay 57 = .ok (.iconst 0, 1) := by decide +kernel
theorem dX1_takeWay_58 : decode cX1_takeWay 58 = .ok (.istore_n 3, 1) := by decide +kernel
theorem dX1_takeWay_59 : decode cX1_takeWay 59 = .ok (.iload_n 3, 1) := by decide +kernel
theorem dX1_takeWay_60 : decode cX1_takeWay 60 = .ok (.bipush 9, 2) := by decide +kernel
theorem dX1_takeWay_62 : decode cX1_takeWay 62 = .ok (.if_icmp .ge 28, 3) := by decide +kernel
theorem dX1_takeWay_65 : decode cX1_takeWay 65 = .ok (.iload_n 1, 1) := by decide +kernel
theorem dX1_takeWay_66 : decode cX1_takeWay 66 = .ok (.iload_n 3, 1) := by decide +kernel
theorem dX1_takeWay_67 : decode cX1_takeWay 67 = .ok (.invokestatic 49, 3) := by decide +kernel
theorem dX1_takeWay_70 : decode cX1_takeWay 70 = .ok (.iconst 1, 1) := by decide +kernel
theorem dX1_takeWay_71 : decode cX1_takeWay 71 = .ok (.if_icmp .ne 13, 3) := by decide +kernel
theorem dX1_takeWay_74 : decode cX1_takeWay 74 = .ok (.aload_n 0, 1) := by decide +kernel
theorem dX1_takeWay_75 : decode cX1_takeWay 75 = .ok (.getfield 24, 3) := by decide +kernel
theorem dX1_takeWay_78 : decode cX1_takeWay 78 = .ok (.iload_n 3, 1) := by decide +kernel
theorem dX1_takeWay_79 : decode cX1_takeWay 79 = .ok (.dup2, 1) := by decide +kernel
theorem dX1_takeWay_80 : decode cX1_takeWay 80 = .ok (.iaload, 1) := by decide +kernel
theorem dX1_takeWay_81 : decode cX1_takeWay 81 = .ok (.iload_n 2, 1) := by decide +kernel
theorem dX1_takeWay_82 : decode cX1_takeWay 82 = .ok (.isub, 1) := by decide +kernel
theorem dX1_takeWay_83 : decode cX1_takeWay 83 = .ok (.iastore, 1) := by decide +kernel
theorem dX1_takeWay_84 : decode cX1_takeWay 84 = .ok (.iinc 3 1, 3) := by decide +kernel
theorem dX1_takeWay_87 : decode cX1_takeWay 87 = .ok (.goto (-28), 3) := by decide +kernel
theorem dX1_takeWay_90 : decode cX1_takeWay 90 = .ok (.return_, 1) := by decide +kernel
set_option maxRecDepth 20000 in
theorem ggX2_init_X1_init : GoodIn wsX2_init wsX1_init := goodIn_r _ [11, 12, 2, 3, 4, 13, 14, 15, 16, 17, 18, 19, 26, 27, 28, 29, 30, 31, 32, 33, 34, 35] (by decide +kernel) (by decide +kernel)
set_option maxRecDepth 20000 in
theorem gX2_init_X1_init_n17 : GoodIn wsX2_init (wsX1_init) := ggX2_init_X1_init
theorem dX2_init_0 : decode cX2_init 0 = .ok (.aload_n 0, 1) := by decide +kernel
theorem dX2_init_1 : decode cX2_init 1 = .ok (.invokespecial 3, 3) := by decide +kernel
theorem dX2_init_4 : decode cX2_init 4 = .ok (.aload_n 0, 1) := by decide +kernel
theorem dX2_init_5 : decode cX2_init 5 = .ok (.bipush 60, 2) := by decide +kernel
theorem dX2_init_7 : decode cX2_init 7 = .ok (.newarray .int, 2) := by decide +kernel
theorem dX2_init_9 : decode cX2_init 9 = .ok (.putfield 9, 3) := by decide +kernel
theorem dX2_init_12 : decode cX2_init 12 = .ok (.aload_n 0, 1) := by decide +kernel
theorem dX2_init_13 : decode cX2_init 13 = .ok (.new 15, 3) := by decide +kernel
theorem dX2_init_16 : decode cX2_init 16 = .ok (.dup, 1) := by decide +kernel
theorem dX2_init_17 : decode cX2_init 17 = .ok (.invokespecial 17, 3) := by decide +kernel
theorem dX2_init_20 : decode cX2_init 20 = .ok (.putfield 18, 3) := by decide +kernel
theorem dX2_init_23 : decode cX2_init 23 = .ok (.return_, 1) := by decide +kernel
set_option maxRecDepth 20000 in
theorem ggX2_read_X1_clearGraph : GoodIn wsX2_read wsX1_clearGraph := goodIn_r _ [9, 10, 11, 12, 13, 54, 55, 56, 57, 58, 59, 60, 61, 62, 63] (by decide +kernel) (by decide +kernel)
set_option maxRecDepth 20000 in
theorem gX2_read_X1_clearGraph : GoodIn wsX2_read (wsV RX2 22 RX1 yX1_clearGraph wsX1_clearGraph) := goodIn_app (goodIn_of _ (by decide +kernel)) ggX2_read_X1_clearGraph
set_option maxRecDepth 20000 in
theorem ggX2_read_X2_takeCode : GoodIn wsX2_read wsX2_takeCode := goodIn_r _ [18, 2, 19, 1, 20, 21, 22, 23, 24, 17, 25, 26, 27, 28, 29, 30, 31, 32, 33, 34, 35, 36, 37, 38, 39, 40, 41, 42, 43, 44, 45, 46, 47, 48, 49, 50, 51, 52, 53, 54, 55, 56, 57, 58, 59, 60, 61, 62, 63] (by decide +kernel) (by decide +kernel)
set_option maxRecDepth 20000 in
theorem gX2_read_X2_takeCode : GoodIn wsX2_read (wsV RX2 32 RX2 yX2_takeCode wsX2_takeCode) := goodIn_app (goodIn_of _ (by decide +kernel)) ggX2_read_X2_takeCode
theorem dX2_read_0 : decode cX2_read 0 = .ok (.aload_n 0, 1) := by decide +kernel
theorem dX2_read_1 : decode cX2_read 1 = .ok (.getfield 18, 3) := by decide +kernel
theorem dX2_read_4 : decode cX2_read 4 = .ok (.invokevirtual 22, 3) := by decide +kernel
theorem dX2_read_7 : decode cX2_read 7 = .ok (.aload_n 0, 1) := by decide +kernel
theorem dX2_read_8 : decode cX2_read 8 = .ok (.iconst 0, 1) := by decide +kernel
theorem dX2_read_9 : decode cX2_read 9 = .ok (.putfield 25, 3) := by decide +kernel
theorem dX2_read_12 : decode cX2_read 12 = .ok (.iconst 0, 1) := by decide +kernel
theorem dX2_read_13 : decode cX2_read 13 = .ok (.istore_n 1, 1) := by decide +kernel
theorem dX2_read_14 : decode cX2_read 14 = .ok (.iload_n 1, 1) := by decide +kernel
theorem dX2_read_15 : decode cX2_read 15 = .ok (.aload_n 0, 1) := by decide +kernel
theorem dX2_read_16 : decode cX2_read 16 = .ok (.getfield 29, 3) := by decide +kernel
theorem dX2_read_19 : decode cX2_read 19 = .ok (.if_icmp .ge 30, 3) := by decide +kernel
theorem dX2_read_22 : decode cX2_read 22 = .ok (.iload_n 1, 1) := by decide +kernel
theorem dX2_read_23 : decode cX2_read 23 = .ok (.bipush 60, 2) := by decide +kernel
theorem dX2_read_25 : decode cX2_read 25 = .ok (.if_icmp .ge 24, 3) := by decide +kernel
theorem dX2_read_28 : decode cX2_read 28 = .ok (.aload_n 0, 1) := by decide +kernel
theorem dX2_read_29 : decode cX2_read 29 = .ok (.aload_n 0, 1) := by decide +kernel
theorem dX2_read_30 : decode cX2_read 30 = .ok (.getfield 9, 3) := by decide +kernel
theorem dX2_read_33 : decode cX2_read 33 = .ok (.iload_n 1, 1) := by decide +kernel
theorem dX2_read_34 : decode cX2_read 34 = .ok (.iaload, 1) := by decide +kernel
theorem dX2_read_35 : decode cX2_read 35 = .ok (.invokevirtual 32, 3) := by decide +kernel
theorem dX2_read_38 : decode cX2_read 38 = .ok (.ifCond .ne 5, 3) := by decide +kernel
theorem dX2_read_41 : decode cX2_read 41 = .ok (.iload_n 1, 1) := by decide +kernel
theorem dX2_read_42 : decode cX2_read 42 = .ok (.ireturn, 1) := by decide +kernel
theorem dX2_read_43 : decode cX2_read 43 = .ok (.iinc 1 1, 3) := by decide +kernel
theorem dX2_read_46 : decode cX2_read 46 = .ok (.goto (-32), 3) := by decide +kernel
theorem dX2_read_49 : decode cX2_read 49 = .ok (.aload_n 0, 1) := by decide +kernel
theorem dX2_read_50 : decode cX2_read 50 = .ok (.getfield 29, 3) := by decide +kernel
theorem dX2_read_53 : decode cX2_read 53 = .ok (.ireturn, 1) := by decide +kernel
theorem dX2_isWhole_0 : decode cX2_isWhole 0 = .ok (.aload_n 0, 1) := by decide +kernel
theorem dX2_isWhole_1 : decode cX2_isWhole 1 = .ok (.getfield 25, 3) := by decide +kernel
theorem dX2_isWhole_4 : decode cX2_isWhole 4 = .ok (.iconst 5, 1) := by decide +kernel
theorem dX2_isWhole_5 : decode cX2_isWhole 5 = .ok (.if_icmp .eq 12, 3) := by decide +kernel
theorem dX2_isWhole_8 : decode cX2_isWhole 8 = .ok (.aload_n 0, 1) := by decide +kernel
theorem dX2_isWhole_9 : decode cX2_isWhole 9 = .ok (.getfield 25, 3) := by decide +kernel
theorem dX2_isWhole_12 : decode cX2_isWhole 12 = .ok (.bipush 6, 2) := by decide +kernel
theorem dX2_isWhole_14 : decode cX2_isWhole 14 = .ok (.if_icmp .ne 7, 3) := by decide +kernel
theorem dX2_isWhole_17 : decode cX2_isWhole 17 = .ok (.iconst 1, 1) := by decide +kernel
theorem dX2_isWhole_18 : decode cX2_isWhole 18 = .ok (.goto 4, 3) := by decide +kernel
theorem dX2_isWhole_21 : decode cX2_isWhole 21 = .ok (.iconst 0, 1) := by decide +kernel
theorem dX2_isWhole_22 : decode cX2_isWhole 22 = .ok (.ireturn, 1) := by decide +kernel
set_option maxRecDepth 20000 in
theorem ggX2_takeCode_X2_takeFirst : GoodIn wsX2_takeCode wsX2_takeFirst := goodIn_r _ [10, 5, 2, 3, 11, 1, 12, 13, 14, 33, 34, 35, 36, 37, 38, 39, 40, 41, 42, 43, 44, 45, 46, 47, 48] (by decide +kernel) (by decide +kernel)
set_option maxRecDepth 20000 in
theorem gX2_takeCode_X2_takeFirst : GoodIn wsX2_takeCode (wsV RX2 39 RX2 yX2_takeFirst wsX2_takeFirst) := goodIn_app (goodIn_of _ (by decide +kernel)) ggX2_takeCode_X2_takeFirst
set_option maxRecDepth 20000 in
theorem ggX2_takeCode_X2_takeSecond : GoodIn wsX2_takeCode wsX2_takeSecond := goodIn_r _ [18, 5, 2, 3, 19, 20, 1, 12, 13, 14, 33, 34, 35, 36, 37, 38, 39, 40, 41, 42, 43, 44, 45, 46, 47, 48] (by decide +kernel) (by decide +kernel)
set_option maxRecDepth 20000 in
theorem gX2_takeCode_X2_takeSecond : GoodIn wsX2_takeCode (wsV RX2 42 RX2 yX2_takeSecond wsX2_takeSecond) := goodIn_app (goodIn_of _ (by decide +kernel)) ggX2_takeCode_X2_takeSecond
set_option maxRecDepth 20000 in
theorem ggX2_takeCode_X2_takeDigit : GoodIn wsX2_takeCode wsX2_takeDigit := goodIn_r _ [24, 3, 4, 5, 33, 34, 35, 36, 37, 38, 39, 40, 41, 42, 43, 44, 45, 46, 47, 48] (by decide +kernel) (by decide +kernel)
set_option maxRecDepth 20000 in
theorem gX2_takeCode_X2_takeDigit : GoodIn wsX2_takeCode (wsV RX2 51 RX2 yX2_takeDigit wsX2_takeDigit) := goodIn_app (goodIn_of _ (by decide +kernel)) ggX2_takeCode_X2_takeDigit
set_option maxRecDepth 20000 in
theorem ggX2_takeCode_X2_takeSeparator : GoodIn wsX2_takeCode wsX2_takeSeparator := goodIn_r _ [28, 1, 33, 34, 35, 36, 37, 38] (by decide +kernel) (by decide +kernel)
set_option maxRecDepth 20000 in
theorem gX2_takeCode_X2_takeSeparator : GoodIn wsX2_takeCode (wsV RX2 54 RX2 yX2_takeSeparator wsX2_takeSeparator) := goodIn_app (goodIn_of _ (by decide +kernel)) ggX2_takeCode_X2_takeSeparator
set_option maxRecDepth 20000 in
theorem ggX2_takeCode_X2_canGrow : GoodIn wsX2_takeCode wsX2_canGrow := goodIn_r _ [32, 3, 4, 5, 33, 34, 35, 36, 37, 38, 39, 40, 41, 42, 43, 44, 45, 46, 47, 48] (by decide +kernel) (by decide +kernel)
set_option maxRecDepth 20000 in
theorem gX2_takeCode_X2_canGrow : GoodIn wsX2_takeCode (wsV RX2 57 RX2 yX2_canGrow wsX2_canGrow) := goodIn_app (goodIn_of _ (by decide +kernel)) ggX2_takeCode_X2_canGrow
theorem dX2_takeCode_0 : decode cX2_takeCode 0 = .ok (.aload_n 0, 1) := by decide +kernel
theorem dX2_takeCode_1 : decode cX2_takeCode 1 = .ok (.getfield 25, 3) := by decide +kernel
theorem dX2_takeCode_4 : decode cX2_takeCode 4 = .ok (.tableswitch 186 0 5 #[40, 86, 95, 104, 121, 148], 40) := by decide +kernel
theorem dX2_takeCode_44 : decode cX2_takeCode 44 = .ok (.aload_n 0, 1) := by decide +kernel
theorem dX2_takeCode_45 : decode cX2_takeCode 45 = .ok (.iload_n 1, 1) := by decide +kernel
theorem dX2_takeCode_46 : decode cX2_takeCode 46 = .ok (.putfield 36, 3) := by decide +kernel
theorem dX2_takeCode_49 : decode cX2_takeCode 49 = .ok (.aload_n 0, 1) := by decide +kernel
theorem dX2_takeCode_50 : decode cX2_takeCode 50 = .ok (.iconst 1, 1) := by decide +kernel
theorem dX2_takeCode_51 : decode cX2_takeCode 51 = .ok (.putfield 25, 3) := by decide +kernel
theorem dX2_takeCode_54 : decode cX2_takeCode 54 = .ok (.iload_n 1, 1) := by decide +kernel
theorem dX2_takeCode_55 : decode cX2_takeCode 55 = .ok (.bipush 99, 2) := by decide +kernel
theorem dX2_takeCode_57 : decode cX2_takeCode 57 = .ok (.if_icmp .eq 27, 3) := by decide +kernel
theorem dX2_takeCode_60 : decode cX2_takeCode 60 = .ok (.iload_n 1, 1) := by decide +kernel
theorem dX2_takeCode_61 : decode cX2_takeCode 61 = .ok (.bipush 106, 2) := by decide +kernel
theorem dX2_takeCode_63 : decode cX2_takeCode 63 = .ok (.if_icmp .eq 21, 3) := by decide +kernel
theorem dX2_takeCode_66 : decode cX2_takeCode 66 = .ok (.iload_n 1, 1) := by decide +kernel
theorem dX2_takeCode_67 : decode cX2_takeCode 67 = .ok (.bipush 115, 2) := by decide +kernel
theorem dX2_takeCode_69 : decode cX2_takeCode 69 = .ok (.if_icmp .eq 15, 3) := by decide +kernel
theorem dX2_takeCode_72 : decode cX2_takeCode 72 = .ok (.iload_n 1, 1) := by decide +kernel
theorem dX2_takeCode_73 : decode cX2_takeCode 73 = .ok (.bipush 101, 2) := by decide +kernel
theorem dX2_takeCode_75 : decode cX2_takeCode 75 = .ok (.if_icmp .eq 9, 3) := by decide +kernel
theorem dX2_takeCode_78 : decode cX2_takeCode 78 = .ok (.iload_n 1, 1) := by decide +kernel
theorem dX2_takeCode_79 : decode cX2_takeCode 79 = .ok (.bipush 120, 2) := by decide +kernel
theorem dX2_takeCode_81 : decode cX2_takeCode 81 = .ok (.if_icmp .ne 7, 3) := by decide +kernel
theorem dX2_takeCode_84 : decode cX2_takeCode 84 = .ok (.iconst 1, 1) := by decide +kernel
theorem dX2_takeCode_85 : decode cX2_takeCode 85 = .ok (.goto 4, 3) := by decide +kernel
theorem dX2_takeCode_88 : decode cX2_takeCode 88 = .ok (.iconst 0, 1) := by decide +kernel
theorem dX2_takeCode_89 : decode cX2_takeCode 89 = .ok (.ireturn, 1) := by decide +kernel
theorem dX2_takeCode_90 : decode cX2_takeCode 90 = .ok (.aload_n 0, 1) := by decide +kernel
theorem dX2_takeCode_91 : decode cX2_takeCode 91 = .ok (.iload_n 1, 1) := by decide +kernel
theorem dX2_takeCode_92 : decode cX2_takeCode 92 = .ok (.bipush 48, 2) := by decide +kernel
theorem dX2_takeCode_94 : decode cX2_takeCode 94 = .ok (.isub, 1) := by decide +kernel
theorem dX2_takeCode_95 : decode cX2_takeCode 95 = .ok (.invokevirtual 39, 3) := by decide +kernel
theorem dX2_takeCode_98 : decode cX2_takeCode 98 = .ok (.ireturn, 1) := by decide +kernel
theorem dX2_takeCode_99 : decode cX2_takeCode 99 = .ok (.aload_n 0, 1) := by decide +kernel
theorem dX2_takeCode_100 : decode cX2_takeCode 100 = .ok (.iload_n 1, 1) := by decide +kernel
theorem dX2_takeCode_101 : decode cX2_takeCode 101 = .ok (.bipush 48, 2) := by decide +kernel
theorem dX2_takeCode_103 : decode cX2_takeCode 103 = .ok (.isub, 1) := by decide +kernel
theorem dX2_takeCode_104 : decode cX2_takeCode 104 = .ok (.invokevirtual 42, 3) := by decide +kernel
theorem dX2_takeCode_107 : decode cX2_takeCode 107 = .ok (.ireturn, 1) := by decide +kernel
theorem dX2_takeCode_108 : decode cX2_takeCode 108 = .ok (.aload_n 0, 1) := by decide +kernel
theorem dX2_takeCode_109 : decode cX2_takeCode 109 = .ok (.iconst 4, 1) := by decide +kernel
theorem dX2_takeCode_110 : decode cX2_takeCode 110 = .ok (.putfield 25, 3) := by decide +kernel
theorem dX2_takeCode_113 : decode cX2_takeCode 113 = .ok (.iload_n 1, 1) := by decide +kernel
theorem dX2_takeCode_114 : decode cX2_takeCode 114 = .ok (.bipush 61, 2) := by decide +kernel
theorem dX2_takeCode_116 : decode cX2_takeCode 116 = .ok (.if_icmp .ne 7, 3) := by decide +kernel
theorem dX2_takeCode_119 : decode cX2_takeCode 119 = .ok (.iconst 1, 1) := by decide +kernel
theorem dX2_takeCode_120 : decode cX2_takeCode 120 = .ok (.goto 4, 3) := by decide +kernel
theorem dX2_takeCode_123 : decode cX2_takeCode 123 = .ok (.iconst 0, 1) := by decide +kernel
theorem dX2_takeCode_124 : decode cX2_takeCode 124 = .ok (.ireturn, 1) := by decide +kernel
theorem dX2_takeCode_125 : decode cX2_takeCode 125 = .ok (.aload_n 0, 1) := by decide +kernel
theorem dX2_takeCode_126 : decode cX2_takeCode 126 = .ok (.iconst 5, 1) := by decide +kernel
theorem dX2_takeCode_127 : decode cX2_takeCode 127 = .ok (.putfield 25, 3) := by decide +kernel
theorem dX2_takeCode_130 : decode cX2_takeCode 130 = .ok (.aload_n 0, 1) := by decide +kernel
theorem dX2_takeCode_131 : decode cX2_takeCode 131 = .ok (.getfield 18, 3) := by decide +kernel
theorem dX2_takeCode_134 : decode cX2_takeCode 134 = .ok (.getfield 45, 3) := by decide +kernel
theorem dX2_takeCode_137 : decode cX2_takeCode 137 = .ok (.aload_n 0, 1) := by decide +kernel
theorem dX2_takeCode_138 : decode cX2_takeCode 138 = .ok (.getfield 48, 3) := by decide +kernel
theorem dX2_takeCode_141 : decode cX2_takeCode 141 = .ok (.iconst 0, 1) := by decide +kernel
theorem dX2_takeCode_142 : decode cX2_takeCode 142 = .ok (.iastore, 1) := by decide +kernel
theorem dX2_takeCode_143 : decode cX2_takeCode 143 = .ok (.aload_n 0, 1) := by decide +kernel
theorem dX2_takeCode_144 : decode cX2_takeCode 144 = .ok (.iload_n 1, 1) := by decide +kernel
theorem dX2_takeCode_145 : decode cX2_takeCode 145 = .ok (.bipush 48, 2) := by decide +kernel
theorem dX2_takeCode_147 : decode cX2_takeCode 147 = .ok (.isub, 1) := by decide +kernel
theorem dX2_takeCode_148 : decode cX2_takeCode 148 = .ok (.invokevirtual 51, 3) := by decide +kernel
theorem dX2_takeCode_151 : decode cX2_takeCode 151 = .ok (.ireturn, 1) := by decide +kernel
theorem dX2_takeCode_152 : decode cX2_takeCode 152 = .ok (.iload_n 1, 1) := by decide +kernel
theorem dX2_takeCode_153 : decode cX2_takeCode 153 = .ok (.bipush 59, 2) := by decide +kernel
theorem dX2_takeCode_155 : decode cX2_takeCode 155 = .ok (.if_icmp .ne 11, 3) := by decide +kernel
theorem dX2_takeCode_158 : decode cX2_takeCode 158 = .ok (.aload_n 0, 1) := by decide +kernel
theorem dX2_takeCode_159 : decode cX2_takeCode 159 = .ok (.iload_n 1, 1) := by decide +kernel
theorem dX2_takeCode_160 : decode cX2_takeCode 160 = .ok (.invokevirtual 54, 3) := by decide +kernel
theorem dX2_takeCode_163 : decode cX2_takeCode 163 = .ok (.goto 26, 3) := by decide +kernel
theorem dX2_takeCode_166 : decode cX2_takeCode 166 = .ok (.aload_n 0, 1) := by decide +kernel
theorem dX2_takeCode_167 : decode cX2_takeCode 167 = .ok (.invokevirtual 57, 3) := by decide +kernel
theorem dX2_takeCode_170 : decode cX2_takeCode 170 = .ok (.ifCond .eq 18, 3) := by decide +kernel
theorem dX2_takeCode_173 : decode cX2_takeCode 173 = .ok (.aload_n 0, 1) := by decide +kernel
theorem dX2_takeCode_174 : decode cX2_takeCode 174 = .ok (.iload_n 1, 1) := by decide +kernel
theorem dX2_takeCode_175 : decode cX2_takeCode 175 = .ok (.bipush 48, 2) := by decide +kernel
theorem dX2_takeCode_177 : decode cX2_takeCode 177 = .ok (.isub, 1) := by decide +kernel
theorem dX2_takeCode_178 : decode cX2_takeCode 178 = .ok (.invokevirtual 51, 3) := by decide +kernel
theorem dX2_takeCode_181 : decode cX2_takeCode 181 = .ok (.ifCond .eq 7, 3) := by decide +kernel
theorem dX2_takeCode_184 : decode cX2_takeCode 184 = .ok (.iconst 1, 1) := by decide +kernel
theorem dX2_takeCode_185 : decode cX2_takeCode 185 = .ok (.goto 4, 3) := by decide +kernel
theorem dX2_takeCode_188 : decode cX2_takeCode 188 = .ok (.iconst 0, 1) := by decide +kernel
theorem dX2_takeCode_189 : decode cX2_takeCode 189 = .ok (.ireturn, 1) := by decide +kernel
theorem dX2_takeCode_190 : decode cX2_takeCode 190 = .ok (.aload_n 0, 1) := by decide +kernel
theorem dX2_takeCode_191 : decode cX2_takeCode 191 = .ok (.iload_n 1, 1) := by decide +kernel
theorem dX2_takeCode_192 : decode cX2_takeCode 192 = .ok (.invokevirtual 54, 3) := by decide +kernel
theorem dX2_takeCode_195 : decode cX2_takeCode 195 = .ok (.ireturn, 1) := by decide +kernel
set_option maxRecDepth 20000 in
theorem ggX2_takeFirst_X4_isPiece : GoodIn wsX2_takeFirst wsX4_isPiece := goodIn_r _ [8] (by decide +kernel) (by decide +kernel)
set_option maxRecDepth 20000 in
theorem gX2_takeFirst_X4_isPiece_n61 : GoodIn wsX2_takeFirst (wsX4_isPiece) := ggX2_takeFirst_X4_isPiece
theorem dX2_takeFirst_0 : decode cX2_takeFirst 0 = .ok (.iload_n 1, 1) := by decide +kernel
theorem dX2_takeFirst_1 : decode cX2_takeFirst 1 = .ok (.invokestatic 61, 3) := by decide +kernel
theorem dX2_takeFirst_4 : decode cX2_takeFirst 4 = .ok (.ifCond .ne 5, 3) := by decide +kernel
theorem dX2_takeFirst_7 : decode cX2_takeFirst 7 = .ok (.iconst 0, 1) := by decide +kernel
theorem dX2_takeFirst_8 : decode cX2_takeFirst 8 = .ok (.ireturn, 1) := by decide +kernel
theorem dX2_takeFirst_9 : decode cX2_takeFirst 9 = .ok (.aload_n 0, 1) := by decide +kernel
theorem dX2_takeFirst_10 : decode cX2_takeFirst 10 = .ok (.iload_n 1, 1) := by decide +kernel
theorem dX2_takeFirst_11 : decode cX2_takeFirst 11 = .ok (.putfield 48, 3) := by decide +kernel
theorem dX2_takeFirst_14 : decode cX2_takeFirst 14 = .ok (.aload_n 0, 1) := by decide +kernel
theorem dX2_takeFirst_15 : decode cX2_takeFirst 15 = .ok (.getfield 36, 3) := by decide +kernel
theorem dX2_takeFirst_18 : decode cX2_takeFirst 18 = .ok (.bipush 115, 2) := by decide +kernel
theorem dX2_takeFirst_20 : decode cX2_takeFirst 20 = .ok (.if_icmp .eq 12, 3) := by decide +kernel
theorem dX2_takeFirst_23 : decode cX2_takeFirst 23 = .ok (.aload_n 0, 1) := by decide +kernel
theorem dX2_takeFirst_24 : decode cX2_takeFirst 24 = .ok (.getfield 36, 3) := by decide +kernel
theorem dX2_takeFirst_27 : decode cX2_takeFirst 27 = .ok (.bipush 101, 2) := by decide +kernel
theorem dX2_takeFirst_29 : decode cX2_takeFirst 29 = .ok (.if_icmp .ne 37, 3) := by decide +kernel
theorem dX2_takeFirst_32 : decode cX2_takeFirst 32 = .ok (.aload_n 0, 1) := by decide +kernel
theorem dX2_takeFirst_33 : decode cX2_takeFirst 33 = .ok (.getfield 18, 3) := by decide +kernel
theorem dX2_takeFirst_36 : decode cX2_takeFirst 36 = .ok (.getfield 64, 3) := by decide +kernel
theorem dX2_takeFirst_39 : decode cX2_takeFirst 39 = .ok (.iload_n 1, 1) := by decide +kernel
theorem dX2_takeFirst_40 : decode cX2_takeFirst 40 = .ok (.dup2, 1) := by decide +kernel
theorem dX2_takeFirst_41 : decode cX2_takeFirst 41 = .ok (.iaload, 1) := by decide +kernel
theorem dX2_takeFirst_42 : decode cX2_takeFirst 42 = .ok (.aload_n 0, 1) := by decide +kernel
theorem dX2_takeFirst_43 : decode cX2_takeFirst 43 = .ok (.getfield 36, 3) := by decide +kernel
theorem dX2_takeFirst_46 : decode cX2_takeFirst 46 = .ok (.bipush 115, 2) := by decide +kernel
theorem dX2_takeFirst_48 : decode cX2_takeFirst 48 = .ok (.if_icmp .ne 7, 3) := by decide +kernel
theorem dX2_takeFirst_51 : decode cX2_takeFirst 51 = .ok (.iconst 1, 1) := by decide +kernel
theorem dX2_takeFirst_52 : decode cX2_takeFirst 52 = .ok (.goto 4, 3) := by decide +kernel
theorem dX2_takeFirst_55 : decode cX2_takeFirst 55 = .ok (.iconst 2, 1) := by decide +kernel
theorem dX2_takeFirst_56 : decode cX2_takeFirst 56 = .ok (.ior, 1) := by decide +kernel
theorem dX2_takeFirst_57 : decode cX2_takeFirst 57 = .ok (.iastore, 1) := by decide +kernel
theorem dX2_takeFirst_58 : decode cX2_takeFirst 58 = .ok (.aload_n 0, 1) := by decide +kernel
theorem dX2_takeFirst_59 : decode cX2_takeFirst 59 = .ok (.bipush 6, 2) := by decide +kernel
theorem dX2_takeFirst_61 : decode cX2_takeFirst 61 = .ok (.putfield 25, 3) := by decide +kernel
theorem dX2_takeFirst_64 : decode cX2_takeFirst 64 = .ok (.iconst 1, 1) := by decide +kernel
theorem dX2_takeFirst_65 : decode cX2_takeFirst 65 = .ok (.ireturn, 1) := by decide +kernel
theorem dX2_takeFirst_66 : decode cX2_takeFirst 66 = .ok (.aload_n 0, 1) := by decide +kernel
theorem dX2_takeFirst_67 : decode cX2_takeFirst 67 = .ok (.aload_n 0, 1) := by decide +kernel
theorem dX2_takeFirst_68 : decode cX2_takeFirst 68 = .ok (.getfield 36, 3) := by decide +kernel
theorem dX2_takeFirst_71 : decode cX2_takeFirst 71 = .ok (.bipush 99, 2) := by decide +kernel
theorem dX2_takeFirst_73 : decode cX2_takeFirst 73 = .ok (.if_icmp .ne 7, 3) := by decide +kernel
theorem dX2_takeFirst_76 : decode cX2_takeFirst 76 = .ok (.iconst 3, 1) := by decide +kernel
theorem dX2_takeFirst_77 : decode cX2_takeFirst 77 = .ok (.goto 4, 3) := by decide +kernel
theorem dX2_takeFirst_80 : decode cX2_takeFirst 80 = .ok (.iconst 2, 1) := by decide +kernel
theorem dX2_takeFirst_81 : decode cX2_takeFirst 81 = .ok (.putfield 25, 3) := by decide +kernel
theorem dX2_takeFirst_84 : decode cX2_takeFirst 84 = .ok (.aload_n 0, 1) := by decide +kernel
theorem dX2_takeFirst_85 : decode cX2_takeFirst 85 = .ok (.getfield 36, 3) := by decide +kernel
theorem dX2_takeFirst_88 : decode cX2_takeFirst 88 = .ok (.bipush 99, 2) := by decide +kernel
theorem dX2_takeFirst_90 : decode cX2_takeFirst 90 = .ok (.if_icmp .eq 9, 3) := by decide +kernel
theorem dX2_takeFirst_93 : decode cX2_takeFirst 93 = .ok (.iload_n 1, 1) := by decide +kernel
theorem dX2_takeFirst_94 : decode cX2_takeFirst 94 = .ok (.bipush 8, 2) := by decide +kernel
theorem dX2_takeFirst_96 : decode cX2_takeFirst 96 = .ok (.if_icmp .ge 7, 3) := by decide +kernel
theorem dX2_takeFirst_99 : decode cX2_takeFirst 99 = .ok (.iconst 1, 1) := by decide +kernel
theorem dX2_takeFirst_100 : decode cX2_takeFirst 100 = .ok (.goto 4, 3) := by decide +kernel
theorem dX2_takeFirst_103 : decode cX2_takeFirst 103 = .ok (.iconst 0, 1) := by decide +kernel
theorem dX2_takeFirst_104 : decode cX2_takeFirst 104 = .ok (.ireturn, 1) := by decide +kernel
set_option maxRecDepth 20000 in
theorem ggX2_takeSecond_X4_isPiece : GoodIn wsX2_takeSecond wsX4_isPiece := goodIn_r _ [9] (by decide +kernel) (by decide +kernel)
set_option maxRecDepth 20000 in
theorem gX2_takeSecond_X4_isPiece_n61 : GoodIn wsX2_takeSecond (wsX4_isPiece) := ggX2_takeSecond_X4_isPiece
theorem dX2_takeSecond_0 : decode cX2_takeSecond 0 = .ok (.iload_n 1, 1) := by decide +kernel
theorem dX2_takeSecond_1 : decode cX2_takeSecond 1 = .ok (.invokestatic 61, 3) := by decide +kernel
theorem dX2_takeSecond_4 : decode cX2_takeSecond 4 = .ok (.ifCond .eq 11, 3) := by decide +kernel
theorem dX2_takeSecond_7 : decode cX2_takeSecond 7 = .ok (.iload_n 1, 1) := by decide +kernel
theorem dX2_takeSecond_8 : decode cX2_takeSecond 8 = .ok (.aload_n 0, 1) := by decide +kernel
theorem dX2_takeSecond_9 : decode cX2_takeSecond 9 = .ok (.getfield 48, 3) := by decide +kernel
theorem dX2_takeSecond_12 : decode cX2_takeSecond 12 = .ok (.if_icmp .gt 5, 3) := by decide +kernel
theorem dX2_takeSecond_15 : decode cX2_takeSecond 15 = .ok (.iconst 0, 1) := by decide +kernel
theorem dX2_takeSecond_16 : decode cX2_takeSecond 16 = .ok (.ireturn, 1) := by decide +kernel
theorem dX2_takeSecond_17 : decode cX2_takeSecond 17 = .ok (.aload_n 0, 1) := by decide +kernel
theorem dX2_takeSecond_18 : decode cX2_takeSecond 18 = .ok (.getfield 36, 3) := by decide +kernel
theorem dX2_takeSecond_21 : decode cX2_takeSecond 21 = .ok (.bipush 106, 2) := by decide +kernel
theorem dX2_takeSecond_23 : decode cX2_takeSecond 23 = .ok (.if_icmp .ne 24, 3) := by decide +kernel
theorem dX2_takeSecond_26 : decode cX2_takeSecond 26 = .ok (.aload_n 0, 1) := by decide +kernel
theorem dX2_takeSecond_27 : decode cX2_takeSecond 27 = .ok (.getfield 18, 3) := by decide +kernel
theorem dX2_takeSecond_30 : decode cX2_takeSecond 30 = .ok (.getfield 67, 3) := by decide +kernel
theorem dX2_takeSecond_33 : decode cX2_takeSecond 33 = .ok (.aload_n 0, 1) := by decide +kernel
theorem dX2_takeSecond_34 : decode cX2_takeSecond 34 = .ok (.getfield 48, 3) := by decide +kernel
theorem dX2_takeSecond_37 : decode cX2_takeSecond 37 = .ok (.dup2, 1) := by decide +kernel
theorem dX2_takeSecond_38 : decode cX2_takeSecond 38 = .ok (.iaload, 1) := by decide +kernel
theorem dX2_takeSecond_39 : decode cX2_takeSecond 39 = .ok (.iconst 1, 1) := by decide +kernel
theorem dX2_takeSecond_40 : decode cX2_takeSecond 40 = .ok (.iload_n 1, 1) := by decide +kernel
theorem dX2_takeSecond_41 : decode cX2_takeSecond 41 = .ok (.ishl, 1) := by decide +kernel
theorem dX2_takeSecond_42 : decode cX2_takeSecond 42 = .ok (.ior, 1) := by decide +kernel
theorem dX2_takeSecond_43 : decode cX2_takeSecond 43 = .ok (.iastore, 1) := by decide +kernel
theorem dX2_takeSecond_44 : decode cX2_takeSecond 44 = .ok (.goto 39, 3) := by decide +kernel
theorem dX2_takeSecond_47 : decode cX2_takeSecond 47 = .ok (.aload_n 0, 1) := by decide +kernel
theorem dX2_takeSecond_48 : decode cX2_takeSecond 48 = .ok (.getfield 18, 3) := by decide +kernel
theorem dX2_takeSecond_51 : decode cX2_takeSecond 51 = .ok (.getfield 70, 3) := by decide +kernel
theorem dX2_takeSecond_54 : decode cX2_takeSecond 54 = .ok (.aload_n 0, 1) := by decide +kernel
theorem dX2_takeSecond_55 : decode cX2_takeSecond 55 = .ok (.getfield 48, 3) := by decide +kernel
theorem dX2_takeSecond_58 : decode cX2_takeSecond 58 = .ok (.dup2, 1) := by decide +kernel
theorem dX2_takeSecond_59 : decode cX2_takeSecond 59 = .ok (.iaload, 1) := by decide +kernel
theorem dX2_takeSecond_60 : decode cX2_takeSecond 60 = .ok (.iconst 1, 1) := by decide +kernel
theorem dX2_takeSecond_61 : decode cX2_takeSecond 61 = .ok (.iload_n 1, 1) := by decide +kernel
theorem dX2_takeSecond_62 : decode cX2_takeSecond 62 = .ok (.ishl, 1) := by decide +kernel
theorem dX2_takeSecond_63 : decode cX2_takeSecond 63 = .ok (.ior, 1) := by decide +kernel
theorem dX2_takeSecond_64 : decode cX2_takeSecond 64 = .ok (.iastore, 1) := by decide +kernel
theorem dX2_takeSecond_65 : decode cX2_takeSecond 65 = .ok (.aload_n 0, 1) := by decide +kernel
theorem dX2_takeSecond_66 : decode cX2_takeSecond 66 = .ok (.getfield 18, 3) := by decide +kernel
theorem dX2_takeSecond_69 : decode cX2_takeSecond 69 = .ok (.getfield 70, 3) := by decide +kernel
theorem dX2_takeSecond_72 : decode cX2_takeSecond 72 = .ok (.iload_n 1, 1) := by decide +kernel
theorem dX2_takeSecond_73 : decode cX2_takeSecond 73 = .ok (.dup2, 1) := by decide +kernel
theorem dX2_takeSecond_74 : decode cX2_takeSecond 74 = .ok (.iaload, 1) := by decide +kernel
theorem dX2_takeSecond_75 : decode cX2_takeSecond 75 = .ok (.iconst 1, 1) := by decide +kernel
theorem dX2_takeSecond_76 : decode cX2_takeSecond 76 = .ok (.aload_n 0, 1) := by decide +kernel
theorem dX2_takeSecond_77 : decode cX2_takeSecond 77 = .ok (.getfield 48, 3) := by decide +kernel
theorem dX2_takeSecond_80 : decode cX2_takeSecond 80 = .ok (.ishl, 1) := by decide +kernel
theorem dX2_takeSecond_81 : decode cX2_takeSecond 81 = .ok (.ior, 1) := by decide +kernel
theorem dX2_takeSecond_82 : decode cX2_takeSecond 82 = .ok (.iastore, 1) := by decide +kernel
theorem dX2_takeSecond_83 : decode cX2_takeSecond 83 = .ok (.aload_n 0, 1) := by decide +kernel
theorem dX2_takeSecond_84 : decode cX2_takeSecond 84 = .ok (.bipush 6, 2) := by decide +kernel
theorem dX2_takeSecond_86 : decode cX2_takeSecond 86 = .ok (.putfield 25, 3) := by decide +kernel
theorem dX2_takeSecond_89 : decode cX2_takeSecond 89 = .ok (.iconst 1, 1) := by decide +kernel
theorem dX2_takeSecond_90 : decode cX2_takeSecond 90 = .ok (.ireturn, 1) := by decide +kernel
theorem dX2_canGrow_0 : decode cX2_canGrow 0 = .ok (.aload_n 0, 1) := by decide +kernel
theorem dX2_canGrow_1 : decode cX2_canGrow 1 = .ok (.getfield 18, 3) := by decide +kernel
theorem dX2_canGrow_4 : decode cX2_canGrow 4 = .ok (.getfield 45, 3) := by decide +kernel
theorem dX2_canGrow_7 : decode cX2_canGrow 7 = .ok (.aload_n 0, 1) := by decide +kernel
theorem dX2_canGrow_8 : decode cX2_canGrow 8 = .ok (.getfield 48, 3) := by decide +kernel
theorem dX2_canGrow_11 : decode cX2_canGrow 11 = .ok (.iaload, 1) := by decide +kernel
theorem dX2_canGrow_12 : decode cX2_canGrow 12 = .ok (.istore_n 1, 1) := by decide +kernel
theorem dX2_canGrow_13 : decode cX2_canGrow 13 = .ok (.iload_n 1, 1) := by decide +kernel
theorem dX2_canGrow_14 : decode cX2_canGrow 14 = .ok (.ifCond .le 13, 3) := by decide +kernel
theorem dX2_canGrow_17 : decode cX2_canGrow 17 = .ok (.iload_n 1, 1) := by decide +kernel
theorem dX2_canGrow_18 : decode cX2_canGrow 18 = .ok (.bipush 99, 2) := by decide +kernel
theorem dX2_canGrow_20 : decode cX2_canGrow 20 = .ok (.if_icmp .gt 7, 3) := by decide +kernel
theorem dX2_canGrow_23 : decode cX2_canGrow 23 = .ok (.iconst 1, 1) := by decide +kernel
theorem dX2_canGrow_24 : decode cX2_canGrow 24 = .ok (.goto 4, 3) := by decide +kernel
theorem dX2_canGrow_27 : decode cX2_canGrow 27 = .ok (.iconst 0, 1) := by decide +kernel
theorem dX2_canGrow_28 : decode cX2_canGrow 28 = .ok (.ireturn, 1) := by decide +kernel
theorem dX2_takeDigit_0 : decode cX2_takeDigit 0 = .ok (.iload_n 1, 1) := by decide +kernel
theorem dX2_takeDigit_1 : decode cX2_takeDigit 1 = .ok (.ifCond .lt 9, 3) := by decide +kernel
theorem dX2_takeDigit_4 : decode cX2_takeDigit 4 = .ok (.iload_n 1, 1) := by decide +kernel
theorem dX2_takeDigit_5 : decode cX2_takeDigit 5 = .ok (.bipush 9, 2) := by decide +kernel
theorem dX2_takeDigit_7 : decode cX2_takeDigit 7 = .ok (.if_icmp .le 5, 3) := by decide +kernel
theorem dX2_takeDigit_10 : decode cX2_takeDigit 10 = .ok (.iconst 0, 1) := by decide +kernel
theorem dX2_takeDigit_11 : decode cX2_takeDigit 11 = .ok (.ireturn, 1) := by decide +kernel
theorem dX2_takeDigit_12 : decode cX2_takeDigit 12 = .ok (.aload_n 0, 1) := by decide +kernel
theorem dX2_takeDigit_13 : decode cX2_takeDigit 13 = .ok (.getfield 18, 3) := by decide +kernel
theorem dX2_takeDigit_16 : decode cX2_takeDigit 16 = .ok (.getfield 45, 3) := by decide +kernel
theorem dX2_takeDigit_19 : decode cX2_takeDigit 19 = .ok (.aload_n 0, 1) := by decide +kernel
theorem dX2_takeDigit_20 : decode cX2_takeDigit 20 = .ok (.getfield 48, 3) := by decide +kernel
theorem dX2_takeDigit_23 : decode cX2_takeDigit 23 = .ok (.aload_n 0, 1) := by decide +kernel
theorem dX2_takeDigit_24 : decode cX2_takeDigit 24 = .ok (.getfield 18, 3) := by decide +kernel
theorem dX2_takeDigit_27 : decode cX2_takeDigit 27 = .ok (.getfield 45, 3) := by decide +kernel
theorem dX2_takeDigit_30 : decode cX2_takeDigit 30 = .ok (.aload_n 0, 1) := by decide +kernel
theorem dX2_takeDigit_31 : decode cX2_takeDigit 31 = .ok (.getfield 48, 3) := by decide +kernel
theorem dX2_takeDigit_34 : decode cX2_takeDigit 34 = .ok (.iaload, 1) := by decide +kernel
theorem dX2_takeDigit_35 : decode cX2_takeDigit 35 = .ok (.bipush 10, 2) := by decide +kernel
theorem dX2_takeDigit_37 : decode cX2_takeDigit 37 = .ok (.imul, 1) := by decide +kernel
theorem dX2_takeDigit_38 : decode cX2_takeDigit 38 = .ok (.iload_n 1, 1) := by decide +kernel
theorem dX2_takeDigit_39 : decode cX2_takeDigit 39 = .ok (.iadd, 1) := by decide +kernel
theorem dX2_takeDigit_40 : decode cX2_takeDigit 40 = .ok (.iastore, 1) := by decide +kernel
theorem dX2_takeDigit_41 : decode cX2_takeDigit 41 = .ok (.iconst 1, 1) := by decide +kernel
theorem dX2_takeDigit_42 : decode cX2_takeDigit 42 = .ok (.ireturn, 1) := by decide +kernel
theorem dX2_takeSeparator_0 : decode cX2_takeSeparator 0 = .ok (.aload_n 0, 1) := by decide +kernel
theorem dX2_takeSeparator_1 : decode cX2_takeSeparator 1 = .ok (.iconst 0, 1) := by decide +kernel
theorem dX2_takeSeparator_2 : decode cX2_takeSeparator 2 = .ok (.putfield 25, 3) := by decide +kernel
theorem dX2_takeSeparator_5 : decode cX2_takeSeparator 5 = .ok (.iload_n 1, 1) := by decide +kernel
theorem dX2_takeSeparator_6 : decode cX2_takeSeparator 6 = .ok (.bipush 59, 2) := by decide +kernel
theorem dX2_takeSeparator_8 : decode cX2_takeSeparator 8 = .ok (.if_icmp .ne 7, 3) := by decide +kernel
theorem dX2_takeSeparator_11 : decode cX2_takeSeparator 11 = .ok (.iconst 1, 1) := by decide +kernel
theorem dX2_takeSeparator_12 : decode cX2_takeSeparator 12 = .ok (.goto 4, 3) := by decide +kernel
theorem dX2_takeSeparator_15 : decode cX2_takeSeparator 15 = .ok (.iconst 0, 1) := by decide +kernel
theorem dX2_takeSeparator_16 : decode cX2_takeSeparator 16 = .ok (.ireturn, 1) := by decide +kernel
set_option maxRecDepth 20000 in
theorem ggX3_init_X1_init : GoodIn wsX3_init wsX1_init := goodIn_r _ [13, 14, 2, 3, 4, 15, 16, 17, 18, 19, 20, 21, 28, 29, 30, 31, 32, 33, 34, 35, 36, 37] (by decide +kernel) (by decide +kernel)
set_option maxRecDepth 20000 in
theorem gX3_init_X1_init_n20 : GoodIn wsX3_init (wsX1_init) := ggX3_init_X1_init
theorem dX3_init_0 : decode cX3_init 0 = .ok (.aload_n 0, 1) := by decide +kernel
theorem dX3_init_1 : decode cX3_init 1 = .ok (.invokespecial 3, 3) := by decide +kernel
theorem dX3_init_4 : decode cX3_init 4 = .ok (.aload_n 0, 1) := by decide +kernel
theorem dX3_init_5 : decode cX3_init 5 = .ok (.sipush 512, 3) := by decide +kernel
theorem dX3_init_8 : decode cX3_init 8 = .ok (.newarray .int, 2) := by decide +kernel
theorem dX3_init_10 : decode cX3_init 10 = .ok (.putfield 9, 3) := by decide +kernel
theorem dX3_init_13 : decode cX3_init 13 = .ok (.aload_n 0, 1) := by decide +kernel
theorem dX3_init_14 : decode cX3_init 14 = .ok (.sipush 512, 3) := by decide +kernel
theorem dX3_init_17 : decode cX3_init 17 = .ok (.newarray .int, 2) := by decide +kernel
theorem dX3_init_19 : decode cX3_init 19 = .ok (.putfield 15, 3) := by decide +kernel
theorem dX3_init_22 : decode cX3_init 22 = .ok (.aload_n 0, 1) := by decide +kernel
theorem dX3_init_23 : decode cX3_init 23 = .ok (.new 18, 3) := by decide +kernel
theorem dX3_init_26 : decode cX3_init 26 = .ok (.dup, 1) := by decide +kernel
theorem dX3_init_27 : decode cX3_init 27 = .ok (.invokespecial 20, 3) := by decide +kernel
theorem dX3_init_30 : decode cX3_init 30 = .ok (.putfield 21, 3) := by decide +kernel
theorem dX3_init_33 : decode cX3_init 33 = .ok (.aload_n 0, 1) := by decide +kernel
theorem dX3_init_34 : decode cX3_init 34 = .ok (.bipush 9, 2) := by decide +kernel
theorem dX3_init_36 : decode cX3_init 36 = .ok (.newarray .int, 2) := by decide +kernel
theorem dX3_init_38 : decode cX3_init 38 = .ok (.putfield 25, 3) := by decide +kernel
theorem dX3_init_41 : decode cX3_init 41 = .ok (.return_, 1) := by decide +kernel
set_option maxRecDepth 20000 in
theorem ggX3_list_X3_isListed : GoodIn wsX3_list wsX3_isListed := goodIn_r _ [8, 1, 9, 3, 10, 39, 40, 41, 42, 43, 44, 45, 46, 47, 48, 49, 50, 51, 52, 53, 54] (by decide +kernel) (by decide +kernel)
set_option maxRecDepth 20000 in
theorem gX3_list_X3_isListed : GoodIn wsX3_list (wsV RX3 28 RX3 yX3_isListed wsX3_isListed) := goodIn_app (goodIn_of _ (by decide +kernel)) ggX3_list_X3_isListed
set_option maxRecDepth 20000 in
theorem ggX3_list_X1_copyGraph : GoodIn wsX3_list wsX1_copyGraph := goodIn_r _ [15, 16, 17, 18, 19, 45, 46, 47, 48, 49, 50, 51, 52, 53, 54] (by decide +kernel) (by decide +kernel)
set_option maxRecDepth 20000 in
theorem gX3_list_X1_copyGraph : GoodIn wsX3_list (wsV RX3 32 RX1 yX1_copyGraph wsX1_copyGraph) := goodIn_app (goodIn_of _ (by decide +kernel)) ggX3_list_X1_copyGraph
set_option maxRecDepth 20000 in
theorem ggX3_list_X3_walk : GoodIn wsX3_list wsX3_walk := goodIn_r _ [22, 1, 3, 2, 23, 9, 24, 25, 26, 27, 28, 20, 21, 7, 39, 40, 41, 42, 43, 44, 45, 46, 47, 48, 49, 50, 51, 52, 53, 54] (by decide +kernel) (by decide +kernel)
set_option maxRecDepth 20000 in
theorem gX3_list_X3_walk : GoodIn wsX3_list (va_wsS RX3 43 yX3_walk wsX3_walk) := goodIn_app (goodIn_of _ (by decide +kernel)) ggX3_list_X3_walk
set_option maxRecDepth 20000 in
theorem ggX3_list_X3_pickOpen : GoodIn wsX3_list wsX3_pickOpen := goodIn_r _ [32, 33, 2, 1, 23, 34, 35, 36, 37, 14, 38, 19, 27, 25, 28, 39, 40, 41, 42, 43, 44, 45, 46, 47, 48, 49, 50, 51, 52, 53, 54] (by decide +kernel) (by decide +kernel)
set_option maxRecDepth 20000 in
theorem gX3_list_X3_pickOpen : GoodIn wsX3_list (wsV RX3 47 RX3 yX3_pickOpen wsX3_pickOpen) := goodIn_app (goodIn_of _ (by decide +kernel)) ggX3_list_X3_pickOpen
theorem dX3_list_0 : decode cX3_list 0 = .ok (.aload_n 0, 1) := by decide +kernel
theorem dX3_list_1 : decode cX3_list 1 = .ok (.aload_n 1, 1) := by decide +kernel
theorem dX3_list_2 : decode cX3_list 2 = .ok (.invokevirtual 28, 3) := by decide +kernel
theorem dX3_list_5 : decode cX3_list 5 = .ok (.ifCond .eq 4, 3) := by decide +kernel
theorem dX3_list_8 : decode cX3_list 8 = .ok (.return_, 1) := by decide +kernel
theorem dX3_list_9 : decode cX3_list 9 = .ok (.aload_n 0, 1) := by decide +kernel
theorem dX3_list_10 : decode cX3_list 10 = .ok (.getfield 21, 3) := by decide +kernel
theorem dX3_list_13 : decode cX3_list 13 = .ok (.aload_n 1, 1) := by decide +kernel
theorem dX3_list_14 : decode cX3_list 14 = .ok (.invokevirtual 32, 3) := by decide +kernel
theorem dX3_list_17 : decode cX3_list 17 = .ok (.aload_n 0, 1) := by decide +kernel
theorem dX3_list_18 : decode cX3_list 18 = .ok (.iconst 0, 1) := by decide +kernel
theorem dX3_list_19 : decode cX3_list 19 = .ok (.putfield 36, 3) := by decide +kernel
theorem dX3_list_22 : decode cX3_list 22 = .ok (.iconst 0, 1) := by decide +kernel
theorem dX3_list_23 : decode cX3_list 23 = .ok (.istore_n 2, 1) := by decide +kernel
theorem dX3_list_24 : decode cX3_list 24 = .ok (.iload_n 2, 1) := by decide +kernel
theorem dX3_list_25 : decode cX3_list 25 = .ok (.bipush 9, 2) := by decide +kernel
theorem dX3_list_27 : decode cX3_list 27 = .ok (.if_icmp .ge 30, 3) := by decide +kernel
theorem dX3_list_30 : decode cX3_list 30 = .ok (.aload_n 0, 1) := by decide +kernel
theorem dX3_list_31 : decode cX3_list 31 = .ok (.getfield 21, 3) := by decide +kernel
theorem dX3_list_34 : decode cX3_list 34 = .ok (.getfield 40, 3) := by decide +kernel
theorem dX3_list_37 : decode cX3_list 37 = .ok (.iload_n 2, 1) := by decide +kernel
theorem dX3_list_38 : decode cX3_list 38 = .ok (.iaload, 1) := by decide +kernel
theorem dX3_list_39 : decode cX3_list 39 = .ok (.iconst 1, 1) := by decide +kernel
theorem dX3_list_40 : decode cX3_list 40 = .ok (.iand, 1) := by decide +kernel
theorem dX3_list_41 : decode cX3_list 41 = .ok (.ifCond .eq 10, 3) := by decide +kernel
theorem dX3_list_44 : decode cX3_list 44 = .ok (.aload_n 0, 1) := by decide +kernel
theorem dX3_list_45 : decode cX3_list 45 = .ok (.iload_n 2, 1) := by decide +kernel
theorem dX3_list_46 : decode cX3_list 46 = .ok (.iconst 0, 1) := by decide +kernel
theorem dX3_list_47 : decode cX3_list 47 = .ok (.iconst 0, 1) := by decide +kernel
theorem dX3_list_48 : decode cX3_list 48 = .ok (.invokestatic 43, 3) := by decide +kernel
theorem dX3_list_51 : decode cX3_list 51 = .ok (.iinc 2 1, 3) := by decide +kernel
theorem dX3_list_54 : decode cX3_list 54 = .ok (.goto (-30), 3) := by decide +kernel
theorem dX3_list_57 : decode cX3_list 57 = .ok (.aload_n 0, 1) := by decide +kernel
theorem dX3_list_58 : decode cX3_list 58 = .ok (.invokevirtual 47, 3) := by decide +kernel
theorem dX3_list_61 : decode cX3_list 61 = .ok (.return_, 1) := by decide +kernel
theorem dX3_isListed_0 : decode cX3_isListed 0 = .ok (.iconst 0, 1) := by decide +kernel
theorem dX3_isListed_1 : decode cX3_isListed 1 = .ok (.istore_n 2, 1) := by decide +kernel
theorem dX3_isListed_2 : decode cX3_isListed 2 = .ok (.iload_n 2, 1) := by decide +kernel
theorem dX3_isListed_3 : decode cX3_isListed 3 = .ok (.bipush 9, 2) := by decide +kernel
theorem dX3_isListed_5 : decode cX3_isListed 5 = .ok (.if_icmp .ge 65, 3) := by decide +kernel
theorem dX3_isListed_8 : decode cX3_isListed 8 = .ok (.aload_n 0, 1) := by decide +kernel
theorem dX3_isListed_9 : decode cX3_isListed 9 = .ok (.getfield 21, 3) := by decide +kernel
theorem dX3_isListed_12 : decode cX3_isListed 12 = .ok (.getfield 50, 3) := by decide +kernel
theorem dX3_isListed_15 : decode cX3_isListed 15 = .ok (.iload_n 2, 1) := by decide +kernel
theorem dX3_isListed_16 : decode cX3_isListed 16 = .ok (.iaload, 1) := by decide +kernel
theorem dX3_isListed_17 : decode cX3_isListed 17 = .ok (.aload_n 1, 1) := by decide +kernel
theorem dX3_isListed_18 : decode cX3_isListed 18 = .ok (.getfield 50, 3) := by decide +kernel
theorem dX3_isListed_21 : decode cX3_isListed 21 = .ok (.iload_n 2, 1) := by decide +kernel
theorem dX3_isListed_22 : decode cX3_isListed 22 = .ok (.iaload, 1) := by decide +kernel
theorem dX3_isListed_23 : decode cX3_isListed 23 = .ok (.if_icmp .ne 39, 3) := by decide +kernel
theorem dX3_isListed_26 : decode cX3_isListed 26 = .ok (.aload_n 0, 1) := by decide +kernel
theorem dX3_isListed_27 : decode cX3_isListed 27 = .ok (.getfield 21, 3) := by decide +kernel
theorem dX3_isListed_30 : decode cX3_isListed 30 = .ok (.getfield 40, 3) := by decide +kernel
theorem dX3_isListed_33 : decode cX3_isListed 33 = .ok (.iload_n 2, 1) := by decide +kernel
theorem dX3_isListed_34 : decode cX3_isListed 34 = .ok (.iaload, 1) := by decide +kernel
theorem dX3_isListed_35 : decode cX3_isListed 35 = .ok (.aload_n 1, 1) := by decide +kernel
theorem dX3_isListed_36 : decode cX3_isListed 36 = .ok (.getfield 40, 3) := by decide +kernel
theorem dX3_isListed_39 : decode cX3_isListed 39 = .ok (.iload_n 2, 1) := by decide +kernel
theorem dX3_isListed_40 : decode cX3_isListed 40 = .ok (.iaload, 1) := by decide +kernel
theorem dX3_isListed_41 : decode cX3_isListed 41 = .ok (.if_icmp .ne 21, 3) := by decide +kernel
theorem dX3_isListed_44 : decode cX3_isListed 44 = .ok (.aload_n 0, 1) := by decide +kernel
theorem dX3_isListed_45 : decode cX3_isListed 45 = .ok (.getfield 21, 3) := by decide +kernel
theorem dX3_isListed_48 : decode cX3_isListed 48 = .ok (.getfield 53, 3) := by decide +kernel
theorem dX3_isListed_51 : decode cX3_isListed 51 = .ok (.iload_n 2, 1) := by decide +kernel
theorem dX3_isListed_52 : decode cX3_isListed 52 = .ok (.iaload, 1) := by decide +kernel
theorem dX3_isListed_53 : decode cX3_isListed 53 = .ok (.aload_n 1, 1) := by decide +kernel
theorem dX3_isListed_54 : decode cX3_isListed 54 = .ok (.getfield 53, 3) := by decide +kernel
theorem dX3_isListed_57 : decode cX3_isListed 57 = .ok (.iload_n 2, 1) := by decide +kernel
theorem dX3_isListed_58 : decode cX3_isListed 58 = .ok (.iaload, 1) := by decide +kernel
theorem dX3_isListed_59 : decode cX3_isListed 59 = .ok (.if_icmp .eq 5, 3) := by decide +kernel
theorem dX3_isListed_62 : decode cX3_isListed 62 = .ok (.iconst 0, 1) := by decide +kernel
theorem dX3_isListed_63 : decode cX3_isListed 63 = .ok (.ireturn, 1) := by decide +kernel
theorem dX3_isListed_64 : decode cX3_isListed 64 = .ok (.iinc 2 1, 3) := by decide +kernel
theorem dX3_isListed_67 : decode cX3_isListed 67 = .ok (.goto (-65), 3) := by decide +kernel
theorem dX3_isListed_70 : decode cX3_isListed 70 = .ok (.iconst 1, 1) := by decide +kernel
theorem dX3_isListed_71 : decode cX3_isListed 71 = .ok (.ireturn, 1) := by decide +kernel
set_option maxRecDepth 20000 in
theorem ggX3_walk_X4_isPiece : GoodIn wsX3_walk wsX4_isPiece := goodIn_r _ [8] (by decide +kernel) (by decide +kernel)
set_option maxRecDepth 20000 in
theorem gX3_walk_X4_isPiece_n56 : GoodIn wsX3_walk (wsX4_isPiece) := ggX3_walk_X4_isPiece
set_option maxRecDepth 20000 in
theorem ggX3_walk_X4_bit : GoodIn wsX3_walk wsX4_bit := goodIn_r _ [10] (by decide +kernel) (by decide +kernel)
set_option maxRecDepth 20000 in
theorem gX3_walk_X4_bit_n60 : GoodIn wsX3_walk (wsX4_bit) := ggX3_walk_X4_bit
set_option maxRecDepth 20000 in
theorem ggX3_walk_X3_walk : GoodIn wsX3_walk wsX3_walk := goodIn_r _ [0, 1, 2, 3, 4, 5, 6, 7, 8, 9, 10, 11, 12, 13, 14, 15, 16, 17, 18, 19, 20, 21, 22, 23, 24, 25, 26, 27, 28, 29] (by decide +kernel) (by decide +kernel)
set_option maxRecDepth 20000 in
theorem gX3_walk_X3_walk : GoodIn wsX3_walk (va_wsS RX3 43 yX3_walk wsX3_walk) := goodIn_app (goodIn_of _ (by decide +kernel)) ggX3_walk_X3_walk
theorem dX3_walk_0 : decode cX3_walk 0 = .ok (.iload_n 1, 1) := by decide +kernel
theorem dX3_walk_1 : decode cX3_walk 1 = .ok (.invokestatic 56, 3) := by decide +kernel
theorem dX3_walk_4 : decode cX3_walk 4 = .ok (.ifCond .eq 9, 3) := by decide +kernel
theorem dX3_walk_7 : decode cX3_walk 7 = .ok (.iload_n 3, 1) := by decide +kernel
theorem dX3_walk_8 : decode cX3_walk 8 = .ok (.bipush 9, 2) := by decide +kernel
theorem dX3_walk_10 : decode cX3_walk 10 = .ok (.if_icmp .lt 4, 3) := by decide +kernel
theorem dX3_walk_13 : decode cX3_walk 13 = .ok (.return_, 1) := by decide +kernel
theorem dX3_walk_14 : decode cX3_walk 14 = .ok (.iload_n 2, 1) := by decide +kernel
theorem dX3_walk_15 : decode cX3_walk 15 = .ok (.iconst 1, 1) := by decide +kernel
theorem dX3_walk_16 : decode cX3_walk 16 = .ok (.iload_n 1, 1) := by decide +kernel
theorem dX3_walk_17 : decode cX3_walk 17 = .ok (.ishl, 1) := by decide +kernel
theorem dX3_walk_18 : decode cX3_walk 18 = .ok (.ior, 1) := by decide +kernel
theorem dX3_walk_19 : decode cX3_walk 19 = .ok (.istore 4, 2) := by decide +kernel
theorem dX3_walk_21 : decode cX3_walk 21 = .ok (.aload_n 0, 1) := by decide +kernel
theorem dX3_walk_22 : decode cX3_walk 22 = .ok (.getfield 21, 3) := by decide +kernel
theorem dX3_walk_25 : decode cX3_walk 25 = .ok (.getfield 40, 3) := by decide +kernel
theorem dX3_walk_28 : decode cX3_walk 28 = .ok (.iload_n 1, 1) := by decide +kernel
theorem dX3_walk_29 : decode cX3_walk 29 = .ok (.iaload, 1) := by decide +kernel
theorem dX3_walk_30 : decode cX3_walk 30 = .ok (.iconst 2, 1) := by decide +kernel
theorem dX3_walk_31 : decode cX3_walk 31 = .ok (.iand, 1) := by decide +kernel
theorem dX3_walk_32 : decode cX3_walk 32 = .ok (.ifCond .eq 34, 3) := by decide +kernel
theorem dX3_walk_35 : decode cX3_walk 35 = .ok (.aload_n 0, 1) := by decide +kernel
theorem dX3_walk_36 : decode cX3_walk 36 = .ok (.getfield 36, 3) := by decide +kernel
theorem dX3_walk_39 : decode cX3_walk 39 = .ok (.sipush 512, 3) := by decide +kernel
theorem dX3_walk_42 : decode cX3_walk 42 = .ok (.if_icmp .ge 24, 3) := by decide +kernel
theorem dX3_walk_45 : decode cX3_walk 45 = .ok (.aload_n 0, 1) := by decide +kernel
theorem dX3_walk_46 : decode cX3_walk 46 = .ok (.getfield 9, 3) := by decide +kernel
theorem dX3_walk_49 : decode cX3_walk 49 = .ok (.aload_n 0, 1) := by decide +kernel
theorem dX3_walk_50 : decode cX3_walk 50 = .ok (.getfield 36, 3) := by decide +kernel
theorem dX3_walk_53 : decode cX3_walk 53 = .ok (.iload 4, 2) := by decide +kernel
theorem dX3_walk_55 : decode cX3_walk 55 = .ok (.iastore, 1) := by decide +kernel
theorem dX3_walk_56 : decode cX3_walk 56 = .ok (.aload_n 0, 1) := by decide +kernel
theorem dX3_walk_57 : decode cX3_walk 57 = .ok (.dup, 1) := by decide +kernel
theorem dX3_walk_58 : decode cX3_walk 58 = .ok (.getfield 36, 3) := by decide +kernel
theorem dX3_walk_61 : decode cX3_walk 61 = .ok (.iconst 1, 1) := by decide +kernel
theorem dX3_walk_62 : decode cX3_walk 62 = .ok (.iadd, 1) := by decide +kernel
theorem dX3_walk_63 : decode cX3_walk 63 = .ok (.putfield 36, 3) := by decide +kernel
theorem dX3_walk_66 : decode cX3_walk 66 = .ok (.iload_n 1, 1) := by decide +kernel
theorem dX3_walk_67 : decode cX3_walk 67 = .ok (.iconst 1, 1) := by decide +kernel
theorem dX3_walk_68 : decode cX3_walk 68 = .ok (.iadd, 1) := by decide +kernel
theorem dX3_walk_69 : decode cX3_walk 69 = .ok (.istore 5, 2) := by decide +kernel
theorem dX3_walk_71 : decode cX3_walk 71 = .ok (.iload 5, 2) := by decide +kernel
theorem dX3_walk_73 : decode cX3_walk 73 = .ok (.bipush 9, 2) := by decide +kernel
theorem dX3_walk_75 : decode cX3_walk 75 = .ok (.if_icmp .ge 38, 3) := by decide +kernel
theorem dX3_walk_78 : decode cX3_walk 78 = .ok (.aload_n 0, 1) := by decide +kernel
theorem dX3_walk_79 : decode cX3_walk 79 = .ok (.getfield 21, 3) := by decide +kernel
theorem dX3_walk_82 : decode cX3_walk 82 = .ok (.getfield 50, 3) := by decide +kernel
theorem dX3_walk_85 : decode cX3_walk 85 = .ok (.iload_n 1, 1) := by decide +kernel
theorem dX3_walk_86 : decode cX3_walk 86 = .ok (.iaload, 1) := by decide +kernel
theorem dX3_walk_87 : decode cX3_walk 87 = .ok (.iload 5, 2) := by decide +kernel
theorem dX3_walk_89 : decode cX3_walk 89 = .ok (.invokestatic 60, 3) := by decide +kernel
theorem dX3_walk_92 : decode cX3_walk 92 = .ok (.iconst 1, 1) := by decide +kernel
theorem dX3_walk_93 : decode cX3_walk 93 = .ok (.if_icmp .ne 14, 3) := by decide +kernel
theorem dX3_walk_96 : decode cX3_walk 96 = .ok (.aload_n 0, 1) := by decide +kernel
theorem dX3_walk_97 : decode cX3_walk 97 = .ok (.iload 5, 2) := by decide +kernel
theorem dX3_walk_99 : decode cX3_walk 99 = .ok (.iload 4, 2) := by decide +kernel
theorem dX3_walk_101 : decode cX3_walk 101 = .ok (.iload_n 3, 1) := by decide +kernel
theorem dX3_walk_102 : decode cX3_walk 102 = .ok (.iconst 1, 1) := by decide +kernel
theorem dX3_walk_103 : decode cX3_walk 103 = .ok (.iadd, 1) := by decide +kernel
theorem dX3_walk_104 : decode cX3_walk 104 = .ok (.invokestatic 43, 3) := by decide +kernel
theorem dX3_walk_107 : decode cX3_walk 107 = .ok (.iinc 5 1, 3) := by decide +kernel
theorem dX3_walk_110 : decode cX3_walk 110 = .ok (.goto (-39), 3) := by decide +kernel
theorem dX3_walk_113 : decode cX3_walk 113 = .ok (.return_, 1) := by decide +kernel
set_option maxRecDepth 20000 in
theorem ggX3_pickOpen_X1_isOpen : GoodIn wsX3_pickOpen wsX1_isOpen := goodIn_r _ [10, 11, 12, 13, 14, 21, 22, 23, 24, 25, 26, 27, 28, 29, 30] (by decide +kernel) (by decide +kernel)
set_option maxRecDepth 20000 in
theorem gX3_pickOpen_X1_isOpen : GoodIn wsX3_pickOpen (wsV RX3 67 RX1 yX1_isOpen wsX1_isOpen) := goodIn_app (goodIn_of _ (by decide +kernel)) ggX3_pickOpen_X1_isOpen
theorem dX3_pickOpen_0 : decode cX3_pickOpen 0 = .ok (.aload_n 0, 1) := by decide +kernel
theorem dX3_pickOpen_1 : decode cX3_pickOpen 1 = .ok (.iconst 0, 1) := by decide +kernel
theorem dX3_pickOpen_2 : decode cX3_pickOpen 2 = .ok (.putfield 64, 3) := by decide +kernel
theorem dX3_pickOpen_5 : decode cX3_pickOpen 5 = .ok (.iconst 0, 1) := by decide +kernel
theorem dX3_pickOpen_6 : decode cX3_pickOpen 6 = .ok (.istore_n 1, 1) := by decide +kernel
theorem dX3_pickOpen_7 : decode cX3_pickOpen 7 = .ok (.iload_n 1, 1) := by decide +kernel
theorem dX3_pickOpen_8 : decode cX3_pickOpen 8 = .ok (.aload_n 0, 1) := by decide +kernel
theorem dX3_pickOpen_9 : decode cX3_pickOpen 9 = .ok (.getfield 36, 3) := by decide +kernel
theorem dX3_pickOpen_12 : decode cX3_pickOpen 12 = .ok (.if_icmp .ge 67, 3) := by decide +kernel
theorem dX3_pickOpen_15 : decode cX3_pickOpen 15 = .ok (.iload_n 1, 1) := by decide +kernel
theorem dX3_pickOpen_16 : decode cX3_pickOpen 16 = .ok (.sipush 512, 3) := by decide +kernel
theorem dX3_pickOpen_19 : decode cX3_pickOpen 19 = .ok (.if_icmp .ge 60, 3) := by decide +kernel
theorem dX3_pickOpen_22 : decode cX3_pickOpen 22 = .ok (.aload_n 0, 1) := by decide +kernel
theorem dX3_pickOpen_23 : decode cX3_pickOpen 23 = .ok (.getfield 21, 3) := by decide +kernel
theorem dX3_pickOpen_26 : decode cX3_pickOpen 26 = .ok (.aload_n 0, 1) := by decide +kernel
theorem dX3_pickOpen_27 : decode cX3_pickOpen 27 = .ok (.getfield 9, 3) := by decide +kernel
theorem dX3_pickOpen_30 : decode cX3_pickOpen 30 = .ok (.iload_n 1, 1) := by decide +kernel
theorem dX3_pickOpen_31 : decode cX3_pickOpen 31 = .ok (.iaload, 1) := by decide +kernel
theorem dX3_pickOpen_32 : decode cX3_pickOpen 32 = .ok (.invokevirtual 67, 3) := by decide +kernel
theorem dX3_pickOpen_35 : decode cX3_pickOpen 35 = .ok (.ifCond .eq 38, 3) := by decide +kernel
theorem dX3_pickOpen_38 : decode cX3_pickOpen 38 = .ok (.aload_n 0, 1) := by decide +kernel
theorem dX3_pickOpen_39 : decode cX3_pickOpen 39 = .ok (.getfield 64, 3) := by decide +kernel
theorem dX3_pickOpen_42 : decode cX3_pickOpen 42 = .ok (.sipush 512, 3) := by decide +kernel
theorem dX3_pickOpen_45 : decode cX3_pickOpen 45 = .ok (.if_icmp .ge 28, 3) := by decide +kernel
theorem dX3_pickOpen_48 : decode cX3_pickOpen 48 = .ok (.aload_n 0, 1) := by decide +kernel
theorem dX3_pickOpen_49 : decode cX3_pickOpen 49 = .ok (.getfield 15, 3) := by decide +kernel
theorem dX3_pickOpen_52 : decode cX3_pickOpen 52 = .ok (.aload_n 0, 1) := by decide +kernel
theorem dX3_pickOpen_53 : decode cX3_pickOpen 53 = .ok (.getfield 64, 3) := by decide +kernel
theorem dX3_pickOpen_56 : decode cX3_pickOpen 56 = .ok (.aload_n 0, 1) := by decide +kernel
theorem dX3_pickOpen_57 : decode cX3_pickOpen 57 = .ok (.getfield 9, 3) := by decide +kernel
theorem dX3_pickOpen_60 : decode cX3_pickOpen 60 = .ok (.iload_n 1, 1) := by decide +kernel
theorem dX3_pickOpen_61 : decode cX3_pickOpen 61 = .ok (.iaload, 1) := by decide +kernel
theorem dX3_pickOpen_62 : decode cX3_pickOpen 62 = .ok (.iastore, 1) := by decide +kernel
theorem dX3_pickOpen_63 : decode cX3_pickOpen 63 = .ok (.aload_n 0, 1) := by decide +kernel
theorem dX3_pickOpen_64 : decode cX3_pickOpen 64 = .ok (.dup, 1) := by decide +kernel
theorem dX3_pickOpen_65 : decode cX3_pickOpen 65 = .ok (.getfield 64, 3) := by decide +kernel
theorem dX3_pickOpen_68 : decode cX3_pickOpen 68 = .ok (.iconst 1, 1) := by decide +kernel
theorem dX3_pickOpen_69 : decode cX3_pickOpen 69 = .ok (.iadd, 1) := by decide +kernel
theorem dX3_pickOpen_70 : decode cX3_pickOpen 70 = .ok (.putfield 64, 3) := by decide +kernel
theorem dX3_pickOpen_73 : decode cX3_pickOpen 73 = .ok (.iinc 1 1, 3) := by decide +kernel
theorem dX3_pickOpen_76 : decode cX3_pickOpen 76 = .ok (.goto (-69), 3) := by decide +kernel
theorem dX3_pickOpen_79 : decode cX3_pickOpen 79 = .ok (.return_, 1) := by decide +kernel
set_option maxRecDepth 20000 in
theorem ggX3_addUp_X4_bit : GoodIn wsX3_addUp wsX4_bit := goodIn_r _ [6] (by decide +kernel) (by decide +kernel)
set_option maxRecDepth 20000 in
theorem gX3_addUp_X4_bit_n60 : GoodIn wsX3_addUp (wsX4_bit) := ggX3_addUp_X4_bit
theorem dX3_addUp_0 : decode cX3_addUp 0 = .ok (.iconst 0, 1) := by decide +kernel
theorem dX3_addUp_1 : decode cX3_addUp 1 = .ok (.istore_n 2, 1) := by decide +kernel
theorem dX3_addUp_2 : decode cX3_addUp 2 = .ok (.bipush 8, 2) := by decide +kernel
theorem dX3_addUp_4 : decode cX3_addUp 4 = .ok (.istore_n 3, 1) := by decide +kernel
theorem dX3_addUp_5 : decode cX3_addUp 5 = .ok (.iload_n 3, 1) := by decide +kernel
theorem dX3_addUp_6 : decode cX3_addUp 6 = .ok (.ifCond .lt 97, 3) := by decide +kernel
theorem dX3_addUp_9 : decode cX3_addUp 9 = .ok (.aload_n 0, 1) := by decide +kernel
theorem dX3_addUp_10 : decode cX3_addUp 10 = .ok (.getfield 25, 3) := by decide +kernel
theorem dX3_addUp_13 : decode cX3_addUp 13 = .ok (.iload_n 3, 1) := by decide +kernel
theorem dX3_addUp_14 : decode cX3_addUp 14 = .ok (.aload_n 1, 1) := by decide +kernel
theorem dX3_addUp_15 : decode cX3_addUp 15 = .ok (.getfield 40, 3) := by decide +kernel
theorem dX3_addUp_18 : decode cX3_addUp 18 = .ok (.iload_n 3, 1) := by decide +kernel
theorem dX3_addUp_19 : decode cX3_addUp 19 = .ok (.iaload, 1) := by decide +kernel
theorem dX3_addUp_20 : decode cX3_addUp 20 = .ok (.iconst 2, 1) := by decide +kernel
theorem dX3_addUp_21 : decode cX3_addUp 21 = .ok (.iand, 1) := by decide +kernel
theorem dX3_addUp_22 : decode cX3_addUp 22 = .ok (.ifCond .eq 7, 3) := by decide +kernel
theorem dX3_addUp_25 : decode cX3_addUp 25 = .ok (.iconst 1, 1) := by decide +kernel
theorem dX3_addUp_26 : decode cX3_addUp 26 = .ok (.goto 4, 3) := by decide +kernel
theorem dX3_addUp_29 : decode cX3_addUp 29 = .ok (.iconst 0, 1) := by decide +kernel
theorem dX3_addUp_30 : decode cX3_addUp 30 = .ok (.iastore, 1) := by decide +kernel
theorem dX3_addUp_31 : decode cX3_addUp 31 = .ok (.iload_n 3, 1) := by decide +kernel
theorem dX3_addUp_32 : decode cX3_addUp 32 = .ok (.iconst 1, 1) := by decide +kernel
theorem dX3_addUp_33 : decode cX3_addUp 33 = .ok (.iadd, 1) := by decide +kernel
theorem dX3_addUp_34 : decode cX3_addUp 34 = .ok (.istore 4, 2) := by decide +kernel
theorem dX3_addUp_36 : decode cX3_addUp 36 = .ok (.iload 4, 2) := by decide +kernel
theorem dX3_addUp_38 : decode cX3_addUp 38 = .ok (.bipush 9, 2) := by decide +kernel
theorem dX3_addUp_40 : decode cX3_addUp 40 = .ok (.if_icmp .ge 37, 3) := by decide +kernel
theorem dX3_addUp_43 : decode cX3_addUp 43 = .ok (.aload_n 0, 1) := by decide +kernel
theorem dX3_addUp_44 : decode cX3_addUp 44 = .ok (.getfield 25, 3) := by decide +kernel
theorem dX3_addUp_47 : decode cX3_addUp 47 = .ok (.iload_n 3, 1) := by decide +kernel
theorem dX3_addUp_48 : decode cX3_addUp 48 = .ok (.dup2, 1) := by decide +kernel
theorem dX3_addUp_49 : decode cX3_addUp 49 = .ok (.iaload, 1) := by decide +kernel
theorem dX3_addUp_50 : decode cX3_addUp 50 = .ok (.aload_n 1, 1) := by decide +kernel
theorem dX3_addUp_51 : decode cX3_addUp 51 = .ok (.getfield 50, 3) := by decide +kernel
theorem dX3_addUp_54 : decode cX3_addUp 54 = .ok (.iload_n 3, 1) := by decide +kernel
theorem dX3_addUp_55 : decode cX3_addUp 55 = .ok (.iaload, 1) := by decide +kernel
theorem dX3_addUp_56 : decode cX3_addUp 56 = .ok (.iload 4, 2) := by decide +kernel
theorem dX3_addUp_58 : decode cX3_addUp 58 = .ok (.invokestatic 60, 3) := by decide +kernel
theorem dX3_addUp_61 : decode cX3_addUp 61 = .ok (.aload_n 0, 1) := by decide +kernel
theorem dX3_addUp_62 : decode cX3_addUp 62 = .ok (.getfield 25, 3) := by decide +kernel
theorem dX3_addUp_65 : decode cX3_addUp 65 = .ok (.iload 4, 2) := by decide +kernel
theorem dX3_addUp_67 : decode cX3_addUp 67 = .ok (.iaload, 1) := by decide +kernel
theorem dX3_addUp_68 : decode cX3_addUp 68 = .ok (.imul, 1) := by decide +kernel
theorem dX3_addUp_69 : decode cX3_addUp 69 = .ok (.iadd, 1) := by decide +kernel
theorem dX3_addUp_70 : decode cX3_addUp 70 = .ok (.iastore, 1) := by decide +kernel
theorem dX3_addUp_71 : decode cX3_addUp 71 = .ok (.iinc 4 1, 3) := by decide +kernel
theorem dX3_addUp_74 : decode cX3_addUp 74 = .ok (.goto (-38), 3) := by decide +kernel
theorem dX3_addUp_77 : decode cX3_addUp 77 = .ok (.aload_n 1, 1) := by decide +kernel
theorem dX3_addUp_78 : decode cX3_addUp 78 = .ok (.getfield 40, 3) := by decide +kernel
theorem dX3_addUp_81 : decode cX3_addUp 81 = .ok (.iload_n 3, 1) := by decide +kernel
theorem dX3_addUp_82 : decode cX3_addUp 82 = .ok (.iaload, 1) := by decide +kernel
theorem dX3_addUp_83 : decode cX3_addUp 83 = .ok (.iconst 1, 1) := by decide +kernel
theorem dX3_addUp_84 : decode cX3_addUp 84 = .ok (.iand, 1) := by decide +kernel
theorem dX3_addUp_85 : decode cX3_addUp 85 = .ok (.ifCond .eq 12, 3) := by decide +kernel
theorem dX3_addUp_88 : decode cX3_addUp 88 = .ok (.iload_n 2, 1) := by decide +kernel
theorem dX3_addUp_89 : decode cX3_addUp 89 = .ok (.aload_n 0, 1) := by decide +kernel
theorem dX3_addUp_90 : decode cX3_addUp 90 = .ok (.getfield 25, 3) := by decide +kernel
theorem dX3_addUp_93 : decode cX3_addUp 93 = .ok (.iload_n 3, 1) := by decide +kernel
theorem dX3_addUp_94 : decode cX3_addUp 94 = .ok (.iaload, 1) := by decide +kernel
theorem dX3_addUp_95 : decode cX3_addUp 95 = .ok (.iadd, 1) := by decide +kernel
theorem dX3_addUp_96 : decode cX3_addUp 96 = .ok (.istore_n 2, 1) := by decide +kernel
theorem dX3_addUp_97 : decode cX3_addUp 97 = .ok (.iinc 3 (-1), 3) := by decide +kernel
theorem dX3_addUp_100 : decode cX3_addUp 100 = .ok (.goto (-95), 3) := by decide +kernel
theorem dX3_addUp_103 : decode cX3_addUp 103 = .ok (.iload_n 2, 1) := by decide +kernel
theorem dX3_addUp_104 : decode cX3_addUp 104 = .ok (.ireturn, 1) := by decide +kernel
set_option maxRecDepth 20000 in
theorem ggX4_init_X1_init : GoodIn wsX4_init wsX1_init := goodIn_r _ [27, 28, 2, 3, 29, 30, 31, 32, 33, 34, 35, 36, 56, 57, 58, 59, 60, 61, 62, 63, 64, 65] (by decide +kernel) (by decide +kernel)
set_option maxRecDepth 20000 in
theorem gX4_init_X1_init_n11 : GoodIn wsX4_init (wsX1_init) := ggX4_init_X1_init
set_option maxRecDepth 20000 in
theorem ggX4_init_X2_init : GoodIn wsX4_init wsX2_init := goodIn_r _ [38, 39, 2, 3, 29, 40, 41, 5, 6, 42, 26, 27, 28, 30, 31, 32, 33, 34, 35, 36, 75, 76, 77, 78, 79, 80, 56, 57, 58, 59, 60, 61, 62, 63, 64, 65] (by decide +kernel) (by decide +kernel)
set_option maxRecDepth 20000 in
theorem gX4_init_X2_init_n32 : GoodIn wsX4_init (wsX2_init) := ggX4_init_X2_init
set_option maxRecDepth 20000 in
theorem ggX4_init_X3_init : GoodIn wsX4_init wsX3_init := goodIn_r _ [44, 45, 2, 3, 29, 46, 47, 48, 5, 6, 49, 50, 26, 27, 28, 30, 31, 32, 33, 34, 35, 36, 81, 82, 83, 84, 85, 86, 56, 57, 58, 59, 60, 61, 62, 63, 64, 65] (by decide +kernel) (by decide +kernel)
set_option maxRecDepth 20000 in
theorem gX4_init_X3_init_n39 : GoodIn wsX4_init (wsX3_init) := ggX4_init_X3_init
set_option maxRecDepth 20000 in
theorem ggX4_init_X0_init : GoodIn wsX4_init wsX0_init := goodIn_r _ [52, 53, 2, 3, 29, 54, 55, 87, 88, 89] (by decide +kernel) (by decide +kernel)
set_option maxRecDepth 20000 in
theorem gX4_init_X0_init_n46 : GoodIn wsX4_init (wsX0_init) := ggX4_init_X0_init
theorem dX4_init_0 : decode cX4_init 0 = .ok (.aload_n 0, 1) := by decide +kernel
theorem dX4_init_1 : decode cX4_init 1 = .ok (.invokespecial 3, 3) := by decide +kernel
theorem dX4_init_4 : decode cX4_init 4 = .ok (.aload_n 0, 1) := by decide +kernel
theorem dX4_init_5 : decode cX4_init 5 = .ok (.new 9, 3) := by decide +kernel
theorem dX4_init_8 : decode cX4_init 8 = .ok (.dup, 1) := by decide +kernel
theorem dX4_init_9 : decode cX4_init 9 = .ok (.invokespecial 11, 3) := by decide +kernel
theorem dX4_init_12 : decode cX4_init 12 = .ok (.putfield 12, 3) := by decide +kernel
theorem dX4_init_15 : decode cX4_init 15 = .ok (.aload_n 0, 1) := by decide +kernel
theorem dX4_init_16 : decode cX4_init 16 = .ok (.new 9, 3) := by decide +kernel
theorem dX4_init_19 : decode cX4_init 19 = .ok (.dup, 1) := by decide +kernel
theorem dX4_init_20 : decode cX4_init 20 = .ok (.invokespecial 11, 3) := by decide +kernel
theorem dX4_init_23 : decode cX4_init 23 = .ok (.putfield 16, 3) := by decide +kernel
theorem dX4_init_26 : decode cX4_init 26 = .ok (.aload_n 0, 1) := by decide +kernel
theorem dX4_init_27 : decode cX4_init 27 = .ok (.bipush 6, 2) := by decide +kernel
theorem dX4_init_29 : decode cX4_init 29 = .ok (.anewarray 9, 3) := by decide +kernel
theorem dX4_init_32 : decode cX4_init 32 = .ok (.putfield 19, 3) := by decide +kernel
theorem dX4_init_35 : decode cX4_init 35 = .ok (.aload_n 0, 1) := by decide +kernel
theorem dX4_init_36 : decode cX4_init 36 = .ok (.iconst 2, 1) := by decide +kernel
theorem dX4_init_37 : decode cX4_init 37 = .ok (.anewarray 9, 3) := by decide +kernel
theorem dX4_init_40 : decode cX4_init 40 = .ok (.putfield 23, 3) := by decide +kernel
theorem dX4_init_43 : decode cX4_init 43 = .ok (.aload_n 0, 1) := by decide +kernel
theorem dX4_init_44 : decode cX4_init 44 = .ok (.iconst 2, 1) := by decide +kernel
theorem dX4_init_45 : decode cX4_init 45 = .ok (.newarray .boolean, 2) := by decide +kernel
theorem dX4_init_47 : decode cX4_init 47 = .ok (.putfield 26, 3) := by decide +kernel
theorem dX4_init_50 : decode cX4_init 50 = .ok (.aload_n 0, 1) := by decide +kernel
theorem dX4_init_51 : decode cX4_init 51 = .ok (.new 30, 3) := by decide +kernel
theorem dX4_init_54 : decode cX4_init 54 = .ok (.dup, 1) := by decide +kernel
theorem dX4_init_55 : decode cX4_init 55 = .ok (.invokespecial 32, 3) := by decide +kernel
theorem dX4_init_58 : decode cX4_init 58 = .ok (.putfield 33, 3) := by decide +kernel
theorem dX4_init_61 : decode cX4_init 61 = .ok (.aload_n 0, 1) := by decide +kernel
theorem dX4_init_62 : decode cX4_init 62 = .ok (.new 37, 3) := by decide +kernel
theorem dX4_init_65 : decode cX4_init 65 = .ok (.dup, 1) := by decide +kernel
theorem dX4_init_66 : decode cX4_init 66 = .ok (.invokespecial 39, 3) := by decide +kernel
theorem dX4_init_69 : decode cX4_init 69 = .ok (.putfield 40, 3) := by decide +kernel
theorem dX4_init_72 : decode cX4_init 72 = .ok (.aload_n 0, 1) := by decide +kernel
theorem dX4_init_73 : decode cX4_init 73 = .ok (.new 44, 3) := by decide +kernel
theorem dX4_init_76 : decode cX4_init 76 = .ok (.dup, 1) := by decide +kernel
theorem dX4_init_77 : decode cX4_init 77 = .ok (.invokespecial 46, 3) := by decide +kernel
theorem dX4_init_80 : decode cX4_init 80 = .ok (.putfield 47, 3) := by decide +kernel
theorem dX4_init_83 : decode cX4_init 83 = .ok (.iconst 0, 1) := by decide +kernel
theorem dX4_init_84 : decode cX4_init 84 = .ok (.istore_n 1, 1) := by decide +kernel
theorem dX4_init_85 : decode cX4_init 85 = .ok (.iload_n 1, 1) := by decide +kernel
theorem dX4_init_86 : decode cX4_init 86 = .ok (.bipush 6, 2) := by decide +kernel
theorem dX4_init_88 : decode cX4_init 88 = .ok (.if_icmp .ge 22, 3) := by decide +kernel
theorem dX4_init_91 : decode cX4_init 91 = .ok (.aload_n 0, 1) := by decide +kernel
theorem dX4_init_92 : decode cX4_init 92 = .ok (.getfield 19, 3) := by decide +kernel
theorem dX4_init_95 : decode cX4_init 95 = .ok (.iload_n 1, 1) := by decide +kernel
theorem dX4_init_96 : decode cX4_init 96 = .ok (.new 9, 3) := by decide +kernel
theorem dX4_init_99 : decode cX4_init 99 = .ok (.dup, 1) := by decide +kernel
theorem dX4_init_100 : decode cX4_init 100 = .ok (.invokespecial 11, 3) := by decide +kernel
theorem dX4_init_103 : decode cX4_init 103 = .ok (.aastore, 1) := by decide +kernel
theorem dX4_init_104 : decode cX4_init 104 = .ok (.iinc 1 1, 3) := by decide +kernel
theorem dX4_init_107 : decode cX4_init 107 = .ok (.goto (-22), 3) := by decide +kernel
theorem dX4_init_110 : decode cX4_init 110 = .ok (.iconst 0, 1) := by decide +kernel
theorem dX4_init_111 : decode cX4_init 111 = .ok (.istore_n 1, 1) := by decide +kernel
theorem dX4_init_112 : decode cX4_init 112 = .ok (.iload_n 1, 1) := by decide +kernel
theorem dX4_init_113 : decode cX4_init 113 = .ok (.iconst 2, 1) := by decide +kernel
theorem dX4_init_114 : decode cX4_init 114 = .ok (.if_icmp .ge 22, 3) := by decide +kernel
theorem dX4_init_117 : decode cX4_init 117 = .ok (.aload_n 0, 1) := by decide +kernel
theorem dX4_init_118 : decode cX4_init 118 = .ok (.getfield 23, 3) := by decide +kernel
theorem dX4_init_121 : decode cX4_init 121 = .ok (.iload_n 1, 1) := by decide +kernel
theorem dX4_init_122 : decode cX4_init 122 = .ok (.new 9, 3) := by decide +kernel
theorem dX4_init_125 : decode cX4_init 125 = .ok (.dup, 1) := by decide +kernel
theorem dX4_init_126 : decode cX4_init 126 = .ok (.invokespecial 11, 3) := by decide +kernel
theorem dX4_init_129 : decode cX4_init 129 = .ok (.aastore, 1) := by decide +kernel
theorem dX4_init_130 : decode cX4_init 130 = .ok (.iinc 1 1, 3) := by decide +kernel
theorem dX4_init_133 : decode cX4_init 133 = .ok (.goto (-21), 3) := by decide +kernel
theorem dX4_init_136 : decode cX4_init 136 = .ok (.aload_n 0, 1) := by decide +kernel
theorem dX4_init_137 : decode cX4_init 137 = .ok (.getfield 12, 3) := by decide +kernel
theorem dX4_init_140 : decode cX4_init 140 = .ok (.getfield 51, 3) := by decide +kernel
theorem dX4_init_143 : decode cX4_init 143 = .ok (.iconst 0, 1) := by decide +kernel
theorem dX4_init_144 : decode cX4_init 144 = .ok (.iconst 1, 1) := by decide +kernel
theorem dX4_init_145 : decode cX4_init 145 = .ok (.iastore, 1) := by decide +kernel
theorem dX4_init_146 : decode cX4_init 146 = .ok (.aload_n 0, 1) := by decide +kernel
theorem dX4_init_147 : decode cX4_init 147 = .ok (.getfield 12, 3) := by decide +kernel
theorem dX4_init_150 : decode cX4_init 150 = .ok (.getfield 51, 3) := by decide +kernel
theorem dX4_init_153 : decode cX4_init 153 = .ok (.bipush 8, 2) := by decide +kernel
theorem dX4_init_155 : decode cX4_init 155 = .ok (.iconst 2, 1) := by decide +kernel
theorem dX4_init_156 : decode cX4_init 156 = .ok (.iastore, 1) := by decide +kernel
theorem dX4_init_157 : decode cX4_init 157 = .ok (.return_, 1) := by decide +kernel
set_option maxRecDepth 20000 in
theorem ggX4_cover_X4_isPiece : GoodIn wsX4_cover wsX4_isPiece := goodIn_r _ [10] (by decide +kernel) (by decide +kernel)
set_option maxRecDepth 20000 in
theorem gX4_cover_X4_isPiece : GoodIn wsX4_cover (va_wsS RX4 55 yX4_isPiece wsX4_isPiece) := goodIn_app (goodIn_of _ (by decide +kernel)) ggX4_cover_X4_isPiece
set_option maxRecDepth 20000 in
theorem ggX4_cover_X4_saveState : GoodIn wsX4_cover wsX4_saveState := goodIn_r _ [14, 15, 5, 16, 17, 18, 19, 9, 20, 21, 22, 23, 24, 25, 26, 27, 28, 29, 30, 31, 32, 33, 34, 35, 36, 37, 38, 39, 40, 41, 42, 47, 48, 49, 50, 51, 52, 53, 54, 55, 56, 57, 58, 59, 60, 61, 62, 63, 64, 65] (by decide +kernel) (by decide +kernel)
set_option maxRecDepth 20000 in
theorem gX4_cover_X4_saveState : GoodIn wsX4_cover (wsV RX4 71 RX4 yX4_saveState wsX4_saveState) := goodIn_app (goodIn_of _ (by decide +kernel)) ggX4_cover_X4_saveState
set_option maxRecDepth 20000 in
theorem ggX4_cover_X1_beginAnew : GoodIn wsX4_cover wsX1_beginAnew := goodIn_r _ [46, 40, 37, 29, 56, 57, 58, 59, 60, 61, 62, 63, 64, 65] (by decide +kernel) (by decide +kernel)
set_option maxRecDepth 20000 in
theorem gX4_cover_X1_beginAnew : GoodIn wsX4_cover (wsV RX4 77 RX1 yX1_beginAnew wsX1_beginAnew) := goodIn_app (goodIn_of _ (by decide +kernel)) ggX4_cover_X1_beginAnew
theorem dX4_cover_0 : decode cX4_cover 0 = .ok (.iload_n 1, 1) := by decide +kernel
theorem dX4_cover_1 : decode cX4_cover 1 = .ok (.invokestatic 55, 3) := by decide +kernel
theorem dX4_cover_4 : decode cX4_cover 4 = .ok (.ifCond .ne 13, 3) := by decide +kernel
theorem dX4_cover_7 : decode cX4_cover 7 = .ok (.new 59, 3) := by decide +kernel
theorem dX4_cover_10 : decode cX4_cover 10 = .ok (.dup, 1) := by decide +kernel
theorem dX4_cover_11 : decode cX4_cover 11 = .ok (.ldc 61, 2) := by decide +kernel
theorem dX4_cover_13 : decode cX4_cover 13 = .ok (.invokespecial 63, 3) := by decide +kernel
theorem dX4_cover_16 : decode cX4_cover 16 = .ok (.athrow, 1) := by decide +kernel
theorem dX4_cover_17 : decode cX4_cover 17 = .ok (.iload_n 2, 1) := by decide +kernel
theorem dX4_cover_18 : decode cX4_cover 18 = .ok (.ifCond .lt 10, 3) := by decide +kernel
theorem dX4_cover_21 : decode cX4_cover 21 = .ok (.iload_n 2, 1) := by decide +kernel
theorem dX4_cover_22 : decode cX4_cover 22 = .ok (.sipush 999, 3) := by decide +kernel
theorem dX4_cover_25 : decode cX4_cover 25 = .ok (.if_icmp .le 13, 3) := by decide +kernel
theorem dX4_cover_28 : decode cX4_cover 28 = .ok (.new 66, 3) := by decide +kernel
theorem dX4_cover_31 : decode cX4_cover 31 = .ok (.dup, 1) := by decide +kernel
theorem dX4_cover_32 : decode cX4_cover 32 = .ok (.ldc 68, 2) := by decide +kernel
theorem dX4_cover_34 : decode cX4_cover 34 = .ok (.invokespecial 70, 3) := by decide +kernel
theorem dX4_cover_37 : decode cX4_cover 37 = .ok (.athrow, 1) := by decide +kernel
theorem dX4_cover_38 : decode cX4_cover 38 = .ok (.aload_n 0, 1) := by decide +kernel
theorem dX4_cover_39 : decode cX4_cover 39 = .ok (.invokevirtual 71, 3) := by decide +kernel
theorem dX4_cover_42 : decode cX4_cover 42 = .ok (.aload_n 0, 1) := by decide +kernel
theorem dX4_cover_43 : decode cX4_cover 43 = .ok (.getfield 12, 3) := by decide +kernel
theorem dX4_cover_46 : decode cX4_cover 46 = .ok (.getfield 74, 3) := by decide +kernel
theorem dX4_cover_49 : decode cX4_cover 49 = .ok (.iload_n 1, 1) := by decide +kernel
theorem dX4_cover_50 : decode cX4_cover 50 = .ok (.iaload, 1) := by decide +kernel
theorem dX4_cover_51 : decode cX4_cover 51 = .ok (.istore_n 3, 1) := by decide +kernel
theorem dX4_cover_52 : decode cX4_cover 52 = .ok (.aload_n 0, 1) := by decide +kernel
theorem dX4_cover_53 : decode cX4_cover 53 = .ok (.getfield 12, 3) := by decide +kernel
theorem dX4_cover_56 : decode cX4_cover 56 = .ok (.getfield 74, 3) := by decide +kernel
theorem dX4_cover_59 : decode cX4_cover 59 = .ok (.iload_n 1, 1) := by decide +kernel
theorem dX4_cover_60 : decode cX4_cover 60 = .ok (.iload_n 2, 1) := by decide +kernel
theorem dX4_cover_61 : decode cX4_cover 61 = .ok (.iastore, 1) := by decide +kernel
theorem dX4_cover_62 : decode cX4_cover 62 = .ok (.aload_n 0, 1) := by decide +kernel
theorem dX4_cover_63 : decode cX4_cover 63 = .ok (.getfield 12, 3) := by decide +kernel
theorem dX4_cover_66 : decode cX4_cover 66 = .ok (.invokevirtual 77, 3) := by decide +kernel
theorem dX4_cover_69 : decode cX4_cover 69 = .ok (.iload_n 3, 1) := by decide +kernel
theorem dX4_cover_70 : decode cX4_cover 70 = .ok (.ireturn, 1) := by decide +kernel
set_option maxRecDepth 20000 in
theorem ggX4_join_X4_isPiece : GoodIn wsX4_join wsX4_isPiece := goodIn_r _ [10] (by decide +kernel) (by decide +kernel)
set_option maxRecDepth 20000 in
theorem gX4_join_X4_isPiece : GoodIn wsX4_join (va_wsS RX4 55 yX4_isPiece wsX4_isPiece) := goodIn_app (goodIn_of _ (by decide +kernel)) ggX4_join_X4_isPiece
set_option maxRecDepth 20000 in
theorem ggX4_join_X4_saveState : GoodIn wsX4_join wsX4_saveState := goodIn_r _ [14, 15, 5, 16, 17, 18, 19, 9, 20, 21, 22, 23, 24, 25, 26, 27, 28, 29, 30, 31, 32, 33, 34, 35, 36, 37, 38, 39, 40, 41, 42, 50, 51, 52, 53, 54, 55, 56, 57, 58, 59, 60, 61, 62, 63, 64, 65, 66, 67, 68] (by decide +kernel) (by decide +kernel)
set_option maxRecDepth 20000 in
theorem gX4_join_X4_saveState : GoodIn wsX4_join (wsV RX4 71 RX4 yX4_saveState wsX4_saveState) := goodIn_app (goodIn_of _ (by decide +kernel)) ggX4_join_X4_saveState
set_option maxRecDepth 20000 in
theorem ggX4_join_X1_beginAnew : GoodIn wsX4_join wsX1_beginAnew := goodIn_r _ [46, 40, 37, 29, 59, 60, 61, 62, 63, 64, 65, 66, 67, 68] (by decide +kernel) (by decide +kernel)
set_option maxRecDepth 20000 in
theorem gX4_join_X1_beginAnew : GoodIn wsX4_join (wsV RX4 77 RX1 yX1_beginAnew wsX1_beginAnew) := goodIn_app (goodIn_of _ (by decide +kernel)) ggX4_join_X1_beginAnew
set_option maxRecDepth 20000 in
theorem ggX4_join_X4_bit : GoodIn wsX4_join wsX4_bit := goodIn_r _ [49] (by decide +kernel) (by decide +kernel)
set_option maxRecDepth 20000 in
theorem gX4_join_X4_bit : GoodIn wsX4_join (va_wsS RX4 85 yX4_bit wsX4_bit) := goodIn_app (goodIn_of _ (by decide +kernel)) ggX4_join_X4_bit
theorem dX4_join_0 : decode cX4_join 0 = .ok (.iload_n 1, 1) := by decide +kernel
theorem dX4_join_1 : decode cX4_join 1 = .ok (.invokestatic 55, 3) := by decide +kernel
theorem dX4_join_4 : decode cX4_join 4 = .ok (.ifCond .eq 10, 3) := by decide +kernel
theorem dX4_join_7 : decode cX4_join 7 = .ok (.iload_n 2, 1) := by decide +kernel
theorem dX4_join_8 : decode cX4_join 8 = .ok (.invokestatic 55, 3) := by decide +kernel
theorem dX4_join_11 : decode cX4_join 11 = .ok (.ifCond .ne 13, 3) := by decide +kernel
theorem dX4_join_14 : decode cX4_join 14 = .ok (.new 59, 3) := by decide +kernel
theorem dX4_join_17 : decode cX4_join 17 = .ok (.dup, 1) := by decide +kernel
theorem dX4_join_18 : decode cX4_join 18 = .ok (.ldc 61, 2) := by decide +kernel
theorem dX4_join_20 : decode cX4_join 20 = .ok (.invokespecial 63, 3) := by decide +kernel
theorem dX4_join_23 : decode cX4_join 23 = .ok (.athrow, 1) := by decide +kernel
theorem dX4_join_24 : decode cX4_join 24 = .ok (.iload_n 2, 1) := by decide +kernel
theorem dX4_join_25 : decode cX4_join 25 = .ok (.iload_n 1, 1) := by decide +kernel
theorem dX4_join_26 : decode cX4_join 26 = .ok (.if_icmp .gt 13, 3) := by decide +kernel
theorem dX4_join_29 : decode cX4_join 29 = .ok (.new 66, 3) := by decide +kernel
theorem dX4_join_32 : decode cX4_join 32 = .ok (.dup, 1) := by decide +kernel
theorem dX4_join_33 : decode cX4_join 33 = .ok (.ldc 80, 2) := by decide +kernel
theorem dX4_join_35 : decode cX4_join 35 = .ok (.invokespecial 70, 3) := by decide +kernel
theorem dX4_join_38 : decode cX4_join 38 = .ok (.athrow, 1) := by decide +kernel
theorem dX4_join_39 : decode cX4_join 39 = .ok (.aload_n 0, 1) := by decide +kernel
theorem dX4_join_40 : decode cX4_join 40 = .ok (.invokevirtual 71, 3) := by decide +kernel
theorem dX4_join_43 : decode cX4_join 43 = .ok (.aload_n 0, 1) := by decide +kernel
theorem dX4_join_44 : decode cX4_join 44 = .ok (.getfield 12, 3) := by decide +kernel
theorem dX4_join_47 : decode cX4_join 47 = .ok (.getfield 82, 3) := by decide +kernel
theorem dX4_join_50 : decode cX4_join 50 = .ok (.iload_n 1, 1) := by decide +kernel
theorem dX4_join_51 : decode cX4_join 51 = .ok (.dup2, 1) := by decide +kernel
theorem dX4_join_52 : decode cX4_join 52 = .ok (.iaload, 1) := by decide +kernel
theorem dX4_join_53 : decode cX4_join 53 = .ok (.iconst 1, 1) := by decide +kernel
theorem dX4_join_54 : decode cX4_join 54 = .ok (.iload_n 2, 1) := by decide +kernel
theorem dX4_join_55 : decode cX4_join 55 = .ok (.ishl, 1) := by decide +kernel
theorem dX4_join_56 : decode cX4_join 56 = .ok (.ixor, 1) := by decide +kernel
theorem dX4_join_57 : decode cX4_join 57 = .ok (.iastore, 1) := by decide +kernel
theorem dX4_join_58 : decode cX4_join 58 = .ok (.aload_n 0, 1) := by decide +kernel
theorem dX4_join_59 : decode cX4_join 59 = .ok (.getfield 12, 3) := by decide +kernel
theorem dX4_join_62 : decode cX4_join 62 = .ok (.invokevirtual 77, 3) := by decide +kernel
theorem dX4_join_65 : decode cX4_join 65 = .ok (.aload_n 0, 1) := by decide +kernel
theorem dX4_join_66 : decode cX4_join 66 = .ok (.getfield 12, 3) := by decide +kernel
theorem dX4_join_69 : decode cX4_join 69 = .ok (.getfield 82, 3) := by decide +kernel
theorem dX4_join_72 : decode cX4_join 72 = .ok (.iload_n 1, 1) := by decide +kernel
theorem dX4_join_73 : decode cX4_join 73 = .ok (.iaload, 1) := by decide +kernel
theorem dX4_join_74 : decode cX4_join 74 = .ok (.iload_n 2, 1) := by decide +kernel
theorem dX4_join_75 : decode cX4_join 75 = .ok (.invokestatic 85, 3) := by decide +kernel
theorem dX4_join_78 : decode cX4_join 78 = .ok (.ireturn, 1) := by decide +kernel
set_option maxRecDepth 20000 in
theorem ggX4_mark_X4_isPiece : GoodIn wsX4_mark wsX4_isPiece := goodIn_r _ [10] (by decide +kernel) (by decide +kernel)
set_option maxRecDepth 20000 in
theorem gX4_mark_X4_isPiece : GoodIn wsX4_mark (va_wsS RX4 55 yX4_isPiece wsX4_isPiece) := goodIn_app (goodIn_of _ (by decide +kernel)) ggX4_mark_X4_isPiece
set_option maxRecDepth 20000 in
theorem ggX4_mark_X4_saveState : GoodIn wsX4_mark wsX4_saveState := goodIn_r _ [14, 15, 5, 16, 17, 18, 19, 9, 20, 21, 22, 23, 24, 25, 26, 27, 28, 29, 30, 31, 32, 33, 34, 35, 36, 37, 38, 39, 40, 41, 42, 47, 48, 49, 50, 51, 52, 53, 54, 55, 56, 57, 58, 59, 60, 61, 62, 63, 64, 65] (by decide +kernel) (by decide +kernel)
set_option maxRecDepth 20000 in
theorem gX4_mark_X4_saveState : GoodIn wsX4_mark (wsV RX4 71 RX4 yX4_saveState wsX4_saveState) := goodIn_app (goodIn_of _ (by decide +kernel)) ggX4_mark_X4_saveState
set_option maxRecDepth 20000 in
theorem ggX4_mark_X1_beginAnew : GoodIn wsX4_mark wsX1_beginAnew := goodIn_r _ [46, 40, 37, 29, 56, 57, 58, 59, 60, 61, 62, 63, 64, 65] (by decide +kernel) (by decide +kernel)
set_option maxRecDepth 20000 in
theorem gX4_mark_X1_beginAnew : GoodIn wsX4_mark (wsV RX4 77 RX1 yX1_beginAnew wsX1_beginAnew) := goodIn_app (goodIn_of _ (by decide +kernel)) ggX4_mark_X1_beginAnew
theorem dX4_mark_0 : decode cX4_mark 0 = .ok (.iload_n 1, 1) := by decide +kernel
theorem dX4_mark_1 : decode cX4_mark 1 = .ok (.invokestatic 55, 3) := by decide +kernel
theorem dX4_mark_4 : decode cX4_mark 4 = .ok (.ifCond .ne 13, 3) := by decide +kernel
theorem dX4_mark_7 : decode cX4_mark 7 = .ok (.new 59, 3) := by decide +kernel
theorem dX4_mark_10 : decode cX4_mark 10 = .ok (.dup, 1) := by decide +kernel
theorem dX4_mark_11 : decode cX4_mark 11 = .ok (.ldc 61, 2) := by decide +kernel
theorem dX4_mark_13 : decode cX4_mark 13 = .ok (.invokespecial 63, 3) := by decide +kernel
theorem dX4_mark_16 : decode cX4_mark 16 = .ok (.athrow, 1) := by decide +kernel
theorem dX4_mark_17 : decode cX4_mark 17 = .ok (.iload_n 2, 1) := by decide +kernel
theorem dX4_mark_18 : decode cX4_mark 18 = .ok (.ifCond .lt 8, 3) := by decide +kernel
theorem dX4_mark_21 : decode cX4_mark 21 = .ok (.iload_n 2, 1) := by decide +kernel
theorem dX4_mark_22 : decode cX4_mark 22 = .ok (.iconst 3, 1) := by decide +kernel
theorem dX4_mark_23 : decode cX4_mark 23 = .ok (.if_icmp .le 13, 3) := by decide +kernel
theorem dX4_mark_26 : decode cX4_mark 26 = .ok (.new 66, 3) := by decide +kernel
theorem dX4_mark_29 : decode cX4_mark 29 = .ok (.dup, 1) := by decide +kernel
theorem dX4_mark_30 : decode cX4_mark 30 = .ok (.ldc 89, 2) := by decide +kernel
theorem dX4_mark_32 : decode cX4_mark 32 = .ok (.invokespecial 70, 3) := by decide +kernel
theorem dX4_mark_35 : decode cX4_mark 35 = .ok (.athrow, 1) := by decide +kernel
theorem dX4_mark_36 : decode cX4_mark 36 = .ok (.aload_n 0, 1) := by decide +kernel
theorem dX4_mark_37 : decode cX4_mark 37 = .ok (.invokevirtual 71, 3) := by decide +kernel
theorem dX4_mark_40 : decode cX4_mark 40 = .ok (.aload_n 0, 1) := by decide +kernel
theorem dX4_mark_41 : decode cX4_mark 41 = .ok (.getfield 12, 3) := by decide +kernel
theorem dX4_mark_44 : decode cX4_mark 44 = .ok (.getfield 51, 3) := by decide +kernel
theorem dX4_mark_47 : decode cX4_mark 47 = .ok (.iload_n 1, 1) := by decide +kernel
theorem dX4_mark_48 : decode cX4_mark 48 = .ok (.iaload, 1) := by decide +kernel
theorem dX4_mark_49 : decode cX4_mark 49 = .ok (.istore_n 3, 1) := by decide +kernel
theorem dX4_mark_50 : decode cX4_mark 50 = .ok (.aload_n 0, 1) := by decide +kernel
theorem dX4_mark_51 : decode cX4_mark 51 = .ok (.getfield 12, 3) := by decide +kernel
theorem dX4_mark_54 : decode cX4_mark 54 = .ok (.getfield 51, 3) := by decide +kernel
theorem dX4_mark_57 : decode cX4_mark 57 = .ok (.iload_n 1, 1) := by decide +kernel
theorem dX4_mark_58 : decode cX4_mark 58 = .ok (.iload_n 2, 1) := by decide +kernel
theorem dX4_mark_59 : decode cX4_mark 59 = .ok (.iastore, 1) := by decide +kernel
theorem dX4_mark_60 : decode cX4_mark 60 = .ok (.aload_n 0, 1) := by decide +kernel
theorem dX4_mark_61 : decode cX4_mark 61 = .ok (.getfield 12, 3) := by decide +kernel
theorem dX4_mark_64 : decode cX4_mark 64 = .ok (.invokevirtual 77, 3) := by decide +kernel
theorem dX4_mark_67 : decode cX4_mark 67 = .ok (.iload_n 3, 1) := by decide +kernel
theorem dX4_mark_68 : decode cX4_mark 68 = .ok (.ireturn, 1) := by decide +kernel
set_option maxRecDepth 20000 in
theorem ggX4_bar_X4_isPiece : GoodIn wsX4_bar wsX4_isPiece := goodIn_r _ [10] (by decide +kernel) (by decide +kernel)
set_option maxRecDepth 20000 in
theorem gX4_bar_X4_isPiece : GoodIn wsX4_bar (va_wsS RX4 55 yX4_isPiece wsX4_isPiece) := goodIn_app (goodIn_of _ (by decide +kernel)) ggX4_bar_X4_isPiece
set_option maxRecDepth 20000 in
theorem ggX4_bar_X4_saveState : GoodIn wsX4_bar wsX4_saveState := goodIn_r _ [14, 15, 5, 16, 17, 18, 19, 9, 20, 21, 22, 23, 24, 25, 26, 27, 28, 29, 30, 31, 32, 33, 34, 35, 36, 37, 38, 39, 40, 41, 42, 50, 51, 52, 53, 54, 55, 56, 57, 58, 59, 60, 61, 62, 63, 64, 65, 66, 67, 68] (by decide +kernel) (by decide +kernel)
set_option maxRecDepth 20000 in
theorem gX4_bar_X4_saveState : GoodIn wsX4_bar (wsV RX4 71 RX4 yX4_saveState wsX4_saveState) := goodIn_app (goodIn_of _ (by decide +kernel)) ggX4_bar_X4_saveState
set_option maxRecDepth 20000 in
theorem ggX4_bar_X1_beginAnew : GoodIn wsX4_bar wsX1_beginAnew := goodIn_r _ [46, 40, 37, 29, 59, 60, 61, 62, 63, 64, 65, 66, 67, 68] (by decide +kernel) (by decide +kernel)
set_option maxRecDepth 20000 in
theorem gX4_bar_X1_beginAnew : GoodIn wsX4_bar (wsV RX4 77 RX1 yX1_beginAnew wsX1_beginAnew) := goodIn_app (goodIn_of _ (by decide +kernel)) ggX4_bar_X1_beginAnew
set_option maxRecDepth 20000 in
theorem ggX4_bar_X4_bit : GoodIn wsX4_bar wsX4_bit := goodIn_r _ [49] (by decide +kernel) (by decide +kernel)
set_option maxRecDepth 20000 in
theorem gX4_bar_X4_bit : GoodIn wsX4_bar (va_wsS RX4 85 yX4_bit wsX4_bit) := goodIn_app (goodIn_of _ (by decide +kernel)) ggX4_bar_X4_bit
theorem dX4_bar_0 : decode cX4_bar 0 = .ok (.iload_n 1, 1) := by decide +kernel
theorem dX4_bar_1 : decode cX4_bar 1 = .ok (.invokestatic 55, 3) := by decide +kernel
theorem dX4_bar_4 : decode cX4_bar 4 = .ok (.ifCond .eq 10, 3) := by decide +kernel
theorem dX4_bar_7 : decode cX4_bar 7 = .ok (.iload_n 2, 1) := by decide +kernel
theorem dX4_bar_8 : decode cX4_bar 8 = .ok (.invokestatic 55, 3) := by decide +kernel
theorem dX4_bar_11 : decode cX4_bar 11 = .ok (.ifCond .ne 13, 3) := by decide +kernel
theorem dX4_bar_14 : decode cX4_bar 14 = .ok (.new 59, 3) := by decide +kernel
theorem dX4_bar_17 : decode cX4_bar 17 = .ok (.dup, 1) := by decide +kernel
theorem dX4_bar_18 : decode cX4_bar 18 = .ok (.ldc 61, 2) := by decide +kernel
theorem dX4_bar_20 : decode cX4_bar 20 = .ok (.invokespecial 63, 3) := by decide +kernel
theorem dX4_bar_23 : decode cX4_bar 23 = .ok (.athrow, 1) := by decide +kernel
theorem dX4_bar_24 : decode cX4_bar 24 = .ok (.iload_n 1, 1) := by decide +kernel
theorem dX4_bar_25 : decode cX4_bar 25 = .ok (.iload_n 2, 1) := by decide +kernel
theorem dX4_bar_26 : decode cX4_bar 26 = .ok (.if_icmp .ne 13, 3) := by decide +kernel
theorem dX4_bar_29 : decode cX4_bar 29 = .ok (.new 66, 3) := by decide +kernel
theorem dX4_bar_32 : decode cX4_bar 32 = .ok (.dup, 1) := by decide +kernel
theorem dX4_bar_33 : decode cX4_bar 33 = .ok (.ldc 91, 2) := by decide +kernel
theorem dX4_bar_35 : decode cX4_bar 35 = .ok (.invokespecial 70, 3) := by decide +kernel
theorem dX4_bar_38 : decode cX4_bar 38 = .ok (.athrow, 1) := by decide +kernel
theorem dX4_bar_39 : decode cX4_bar 39 = .ok (.aload_n 0, 1) := by decide +kernel
theorem dX4_bar_40 : decode cX4_bar 40 = .ok (.invokevirtual 71, 3) := by decide +kernel
theorem dX4_bar_43 : decode cX4_bar 43 = .ok (.aload_n 0, 1) := by decide +kernel
theorem dX4_bar_44 : decode cX4_bar 44 = .ok (.getfield 12, 3) := by decide +kernel
theorem dX4_bar_47 : decode cX4_bar 47 = .ok (.getfield 93, 3) := by decide +kernel
theorem dX4_bar_50 : decode cX4_bar 50 = .ok (.iload_n 1, 1) := by decide +kernel
theorem dX4_bar_51 : decode cX4_bar 51 = .ok (.dup2, 1) := by decide +kernel
theorem dX4_bar_52 : decode cX4_bar 52 = .ok (.iaload, 1) := by decide +kernel
theorem dX4_bar_53 : decode cX4_bar 53 = .ok (.iconst 1, 1) := by decide +kernel
theorem dX4_bar_54 : decode cX4_bar 54 = .ok (.iload_n 2, 1) := by decide +kernel
theorem dX4_bar_55 : decode cX4_bar 55 = .ok (.ishl, 1) := by decide +kernel
theorem dX4_bar_56 : decode cX4_bar 56 = .ok (.ixor, 1) := by decide +kernel
theorem dX4_bar_57 : decode cX4_bar 57 = .ok (.iastore, 1) := by decide +kernel
theorem dX4_bar_58 : decode cX4_bar 58 = .ok (.aload_n 0, 1) := by decide +kernel
theorem dX4_bar_59 : decode cX4_bar 59 = .ok (.getfield 12, 3) := by decide +kernel
theorem dX4_bar_62 : decode cX4_bar 62 = .ok (.getfield 93, 3) := by decide +kernel
theorem dX4_bar_65 : decode cX4_bar 65 = .ok (.iload_n 2, 1) := by decide +kernel
theorem dX4_bar_66 : decode cX4_bar 66 = .ok (.dup2, 1) := by decide +kernel
theorem dX4_bar_67 : decode cX4_bar 67 = .ok (.iaload, 1) := by decide +kernel
theorem dX4_bar_68 : decode cX4_bar 68 = .ok (.iconst 1, 1) := by decide +kernel
theorem dX4_bar_69 : decode cX4_bar 69 = .ok (.iload_n 1, 1) := by decide +kernel
theorem dX4_bar_70 : decode cX4_bar 70 = .ok (.ishl, 1) := by decide +kernel
theorem dX4_bar_71 : decode cX4_bar 71 = .ok (.ixor, 1) := by decide +kernel
theorem dX4_bar_72 : decode cX4_bar 72 = .ok (.iastore, 1) := by decide +kernel
theorem dX4_bar_73 : decode cX4_bar 73 = .ok (.aload_n 0, 1) := by decide +kernel
theorem dX4_bar_74 : decode cX4_bar 74 = .ok (.getfield 12, 3) := by decide +kernel
theorem dX4_bar_77 : decode cX4_bar 77 = .ok (.invokevirtual 77, 3) := by decide +kernel
theorem dX4_bar_80 : decode cX4_bar 80 = .ok (.aload_n 0, 1) := by decide +kernel
theorem dX4_bar_81 : decode cX4_bar 81 = .ok (.getfield 12, 3) := by decide +kernel
theorem dX4_bar_84 : decode cX4_bar 84 = .ok (.getfield 93, 3) := by decide +kernel
theorem dX4_bar_87 : decode cX4_bar 87 = .ok (.iload_n 1, 1) := by decide +kernel
theorem dX4_bar_88 : decode cX4_bar 88 = .ok (.iaload, 1) := by decide +kernel
theorem dX4_bar_89 : decode cX4_bar 89 = .ok (.iload_n 2, 1) := by decide +kernel
theorem dX4_bar_90 : decode cX4_bar 90 = .ok (.invokestatic 85, 3) := by decide +kernel
theorem dX4_bar_93 : decode cX4_bar 93 = .ok (.ireturn, 1) := by decide +kernel
set_option maxRecDepth 20000 in
theorem ggX4_step_X4_saveState : GoodIn wsX4_step wsX4_saveState := goodIn_r _ [7, 8, 2, 9, 10, 11, 12, 6, 13, 14, 15, 16, 17, 18, 19, 20, 21, 22, 23, 24, 25, 26, 27, 28, 29, 30, 31, 32, 33, 34, 35, 89, 90, 91, 92, 93, 94, 95, 96, 97, 98, 99, 100, 101, 102, 103, 104, 105, 106, 107] (by decide +kernel) (by decide +kernel)
set_option maxRecDepth 20000 in
theorem gX4_step_X4_saveState : GoodIn wsX4_step (wsV RX4 71 RX4 yX4_saveState wsX4_saveState) := goodIn_app (goodIn_of _ (by decide +kernel)) ggX4_step_X4_saveState
set_option maxRecDepth 20000 in
theorem ggX4_step_X3_list : GoodIn wsX4_step wsX3_list := goodIn_r _ [40, 41, 42, 43, 44, 45, 46, 39, 47, 48, 49, 50, 18, 19, 20, 21, 22, 23, 24, 25, 51, 52, 53, 54, 55, 6, 56, 57, 58, 59, 60, 61, 62, 63, 64, 65, 66, 67, 68, 108, 109, 110, 111, 112, 113, 98, 99, 100, 101, 102, 103, 104, 105, 106, 107] (by decide +kernel) (by decide +kernel)
set_option maxRecDepth 20000 in
theorem gX4_step_X3_list : GoodIn wsX4_step (wsV RX4 96 RX3 yX3_list wsX3_list) := goodIn_app (goodIn_of _ (by decide +kernel)) ggX4_step_X3_list
set_option maxRecDepth 20000 in
theorem ggX4_step_X4_takeHeaviest : GoodIn wsX4_step wsX4_takeHeaviest := goodIn_r _ [72, 73, 74, 75, 76, 77, 6, 78, 1, 79, 80, 81, 82, 83, 20, 84, 30, 57, 58, 85, 86, 87, 88, 33, 31, 32, 34, 98, 99, 100, 101, 102, 103, 104, 105, 106, 107, 89, 90, 91, 92, 93, 94, 95, 96, 97, 108, 109, 110, 111, 112, 113] (by decide +kernel) (by decide +kernel)
set_option maxRecDepth 20000 in
theorem gX4_step_X4_takeHeaviest : GoodIn wsX4_step (wsV RX4 100 RX4 yX4_takeHeaviest wsX4_takeHeaviest) := goodIn_app (goodIn_of _ (by decide +kernel)) ggX4_step_X4_takeHeaviest
theorem dX4_step_0 : decode cX4_step 0 = .ok (.aload_n 0, 1) := by decide +kernel
theorem dX4_step_1 : decode cX4_step 1 = .ok (.invokevirtual 71, 3) := by decide +kernel
theorem dX4_step_4 : decode cX4_step 4 = .ok (.aload_n 0, 1) := by decide +kernel
theorem dX4_step_5 : decode cX4_step 5 = .ok (.getfield 40, 3) := by decide +kernel
theorem dX4_step_8 : decode cX4_step 8 = .ok (.aload_n 0, 1) := by decide +kernel
theorem dX4_step_9 : decode cX4_step 9 = .ok (.getfield 12, 3) := by decide +kernel
theorem dX4_step_12 : decode cX4_step 12 = .ok (.invokevirtual 96, 3) := by decide +kernel
theorem dX4_step_15 : decode cX4_step 15 = .ok (.aload_n 0, 1) := by decide +kernel
theorem dX4_step_16 : decode cX4_step 16 = .ok (.aload_n 0, 1) := by decide +kernel
theorem dX4_step_17 : decode cX4_step 17 = .ok (.getfield 12, 3) := by decide +kernel
theorem dX4_step_20 : decode cX4_step 20 = .ok (.invokevirtual 100, 3) := by decide +kernel
theorem dX4_step_23 : decode cX4_step 23 = .ok (.ireturn, 1) := by decide +kernel
set_option maxRecDepth 20000 in
theorem ggX4_split_X4_saveState : GoodIn wsX4_split wsX4_saveState := goodIn_r _ [7, 8, 2, 9, 10, 11, 12, 6, 13, 14, 15, 16, 17, 18, 19, 20, 21, 22, 23, 24, 25, 26, 27, 28, 29, 30, 31, 32, 33, 34, 35, 93, 94, 95, 96, 97, 98, 99, 100, 101, 102, 103, 104, 105, 106, 107, 108, 109, 110, 111] (by decide +kernel) (by decide +kernel)
set_option maxRecDepth 20000 in
theorem gX4_split_X4_saveState : GoodIn wsX4_split (wsV RX4 71 RX4 yX4_saveState wsX4_saveState) := goodIn_app (goodIn_of _ (by decide +kernel)) ggX4_split_X4_saveState
set_option maxRecDepth 20000 in
theorem ggX4_split_X3_list : GoodIn wsX4_split wsX3_list := goodIn_r _ [40, 41, 42, 43, 44, 45, 46, 39, 47, 48, 49, 50, 18, 19, 20, 21, 22, 23, 24, 25, 51, 52, 53, 54, 55, 6, 56, 57, 58, 59, 60, 61, 62, 63, 64, 65, 66, 67, 68, 112, 113, 114, 115, 116, 117, 102, 103, 104, 105, 106, 107, 108, 109, 110, 111] (by decide +kernel) (by decide +kernel)
set_option maxRecDepth 20000 in
theorem gX4_split_X3_list : GoodIn wsX4_split (wsV RX4 96 RX3 yX3_list wsX3_list) := goodIn_app (goodIn_of _ (by decide +kernel)) ggX4_split_X3_list
set_option maxRecDepth 20000 in
theorem ggX4_split_X4_takeAll : GoodIn wsX4_split wsX4_takeAll := goodIn_r _ [72, 73, 74, 75, 6, 76, 77, 78, 79, 80, 81, 82, 1, 83, 84, 85, 86, 87, 20, 88, 30, 57, 58, 89, 90, 91, 92, 33, 31, 32, 34, 102, 103, 104, 105, 106, 107, 108, 109, 110, 111, 93, 94, 95, 96, 97, 98, 99, 100, 101, 112, 113, 114, 115, 116, 117] (by decide +kernel) (by decide +kernel)
set_option maxRecDepth 20000 in
theorem gX4_split_X4_takeAll : GoodIn wsX4_split (wsV RX4 104 RX4 yX4_takeAll wsX4_takeAll) := goodIn_app (goodIn_of _ (by decide +kernel)) ggX4_split_X4_takeAll
theorem dX4_split_0 : decode cX4_split 0 = .ok (.aload_n 0, 1) := by decide +kernel
theorem dX4_split_1 : decode cX4_split 1 = .ok (.invokevirtual 71, 3) := by decide +kernel
theorem dX4_split_4 : decode cX4_split 4 = .ok (.aload_n 0, 1) := by decide +kernel
theorem dX4_split_5 : decode cX4_split 5 = .ok (.getfield 40, 3) := by decide +kernel
theorem dX4_split_8 : decode cX4_split 8 = .ok (.aload_n 0, 1) := by decide +kernel
theorem dX4_split_9 : decode cX4_split 9 = .ok (.getfield 12, 3) := by decide +kernel
theorem dX4_split_12 : decode cX4_split 12 = .ok (.invokevirtual 96, 3) := by decide +kernel
theorem dX4_split_15 : decode cX4_split 15 = .ok (.aload_n 0, 1) := by decide +kernel
theorem dX4_split_16 : decode cX4_split 16 = .ok (.aload_n 0, 1) := by decide +kernel
theorem dX4_split_17 : decode cX4_split 17 = .ok (.getfield 12, 3) := by decide +kernel
theorem dX4_split_20 : decode cX4_split 20 = .ok (.invokevirtual 104, 3) := by decide +kernel
theorem dX4_split_23 : decode cX4_split 23 = .ok (.ireturn, 1) := by decide +kernel
set_option maxRecDepth 20000 in
theorem ggX4_begin_X4_saveState : GoodIn wsX4_begin wsX4_saveState := goodIn_r _ [7, 8, 1, 9, 10, 11, 12, 6, 13, 14, 15, 16, 17, 18, 19, 20, 21, 22, 23, 24, 25, 26, 27, 28, 29, 30, 31, 32, 33, 34, 35, 40, 41, 42, 43, 44, 45, 46, 47, 48, 49, 50, 51, 52, 53, 54, 55, 56, 57, 58] (by decide +kernel) (by decide +kernel)
set_option maxRecDepth 20000 in
theorem gX4_begin_X4_saveState : GoodIn wsX4_begin (wsV RX4 71 RX4 yX4_saveState wsX4_saveState) := goodIn_app (goodIn_of _ (by decide +kernel)) ggX4_begin_X4_saveState
set_option maxRecDepth 20000 in
theorem ggX4_begin_X1_beginAnew : GoodIn wsX4_begin wsX1_beginAnew := goodIn_r _ [39, 33, 30, 22, 49, 50, 51, 52, 53, 54, 55, 56, 57, 58] (by decide +kernel) (by decide +kernel)
set_option maxRecDepth 20000 in
theorem gX4_begin_X1_beginAnew : GoodIn wsX4_begin (wsV RX4 77 RX1 yX1_beginAnew wsX1_beginAnew) := goodIn_app (goodIn_of _ (by decide +kernel)) ggX4_begin_X1_beginAnew
theorem dX4_begin_0 : decode cX4_begin 0 = .ok (.aload_n 0, 1) := by decide +kernel
theorem dX4_begin_1 : decode cX4_begin 1 = .ok (.invokevirtual 71, 3) := by decide +kernel
theorem dX4_begin_4 : decode cX4_begin 4 = .ok (.aload_n 0, 1) := by decide +kernel
theorem dX4_begin_5 : decode cX4_begin 5 = .ok (.getfield 12, 3) := by decide +kernel
theorem dX4_begin_8 : decode cX4_begin 8 = .ok (.getfield 107, 3) := by decide +kernel
theorem dX4_begin_11 : decode cX4_begin 11 = .ok (.istore_n 1, 1) := by decide +kernel
theorem dX4_begin_12 : decode cX4_begin 12 = .ok (.aload_n 0, 1) := by decide +kernel
theorem dX4_begin_13 : decode cX4_begin 13 = .ok (.getfield 12, 3) := by decide +kernel
theorem dX4_begin_16 : decode cX4_begin 16 = .ok (.invokevirtual 77, 3) := by decide +kernel
theorem dX4_begin_19 : decode cX4_begin 19 = .ok (.iload_n 1, 1) := by decide +kernel
theorem dX4_begin_20 : decode cX4_begin 20 = .ok (.ireturn, 1) := by decide +kernel
theorem dX4_append_0 : decode cX4_append 0 = .ok (.iload_n 1, 1) := by decide +kernel
theorem dX4_append_1 : decode cX4_append 1 = .ok (.bipush 33, 2) := by decide +kernel
theorem dX4_append_3 : decode cX4_append 3 = .ok (.if_icmp .lt 9, 3) := by decide +kernel
theorem dX4_append_6 : decode cX4_append 6 = .ok (.iload_n 1, 1) := by decide +kernel
theorem dX4_append_7 : decode cX4_append 7 = .ok (.bipush 126, 2) := by decide +kernel
theorem dX4_append_9 : decode cX4_append 9 = .ok (.if_icmp .le 13, 3) := by decide +kernel
theorem dX4_append_12 : decode cX4_append 12 = .ok (.new 66, 3) := by decide +kernel
theorem dX4_append_15 : decode cX4_append 15 = .ok (.dup, 1) := by decide +kernel
theorem dX4_append_16 : decode cX4_append 16 = .ok (.ldc 111, 2) := by decide +kernel
theorem dX4_append_18 : decode cX4_append 18 = .ok (.invokespecial 70, 3) := by decide +kernel
theorem dX4_append_21 : decode cX4_append 21 = .ok (.athrow, 1) := by decide +kernel
theorem dX4_append_22 : decode cX4_append 22 = .ok (.aload_n 0, 1) := by decide +kernel
theorem dX4_append_23 : decode cX4_append 23 = .ok (.getfield 33, 3) := by decide +kernel
theorem dX4_append_26 : decode cX4_append 26 = .ok (.getfield 113, 3) := by decide +kernel
theorem dX4_append_29 : decode cX4_append 29 = .ok (.bipush 60, 2) := by decide +kernel
theorem dX4_append_31 : decode cX4_append 31 = .ok (.if_icmp .lt 13, 3) := by decide +kernel
theorem dX4_append_34 : decode cX4_append 34 = .ok (.new 116, 3) := by decide +kernel
theorem dX4_append_37 : decode cX4_append 37 = .ok (.dup, 1) := by decide +kernel
theorem dX4_append_38 : decode cX4_append 38 = .ok (.ldc 118, 2) := by decide +kernel
theorem dX4_append_40 : decode cX4_append 40 = .ok (.invokespecial 120, 3) := by decide +kernel
theorem dX4_append_43 : decode cX4_append 43 = .ok (.athrow, 1) := by decide +kernel
theorem dX4_append_44 : decode cX4_append 44 = .ok (.aload_n 0, 1) := by decide +kernel
theorem dX4_append_45 : decode cX4_append 45 = .ok (.getfield 33, 3) := by decide +kernel
theorem dX4_append_48 : decode cX4_append 48 = .ok (.getfield 121, 3) := by decide +kernel
theorem dX4_append_51 : decode cX4_append 51 = .ok (.aload_n 0, 1) := by decide +kernel
theorem dX4_append_52 : decode cX4_append 52 = .ok (.getfield 33, 3) := by decide +kernel
theorem dX4_append_55 : decode cX4_append 55 = .ok (.getfield 113, 3) := by decide +kernel
theorem dX4_append_58 : decode cX4_append 58 = .ok (.iload_n 1, 1) := by decide +kernel
theorem dX4_append_59 : decode cX4_append 59 = .ok (.iastore, 1) := by decide +kernel
theorem dX4_append_60 : decode cX4_append 60 = .ok (.aload_n 0, 1) := by decide +kernel
theorem dX4_append_61 : decode cX4_append 61 = .ok (.getfield 33, 3) := by decide +kernel
theorem dX4_append_64 : decode cX4_append 64 = .ok (.dup, 1) := by decide +kernel
theorem dX4_append_65 : decode cX4_append 65 = .ok (.getfield 113, 3) := by decide +kernel
theorem dX4_append_68 : decode cX4_append 68 = .ok (.iconst 1, 1) := by decide +kernel
theorem dX4_append_69 : decode cX4_append 69 = .ok (.iadd, 1) := by decide +kernel
theorem dX4_append_70 : decode cX4_append 70 = .ok (.putfield 113, 3) := by decide +kernel
theorem dX4_append_73 : decode cX4_append 73 = .ok (.aload_n 0, 1) := by decide +kernel
theorem dX4_append_74 : decode cX4_append 74 = .ok (.getfield 33, 3) := by decide +kernel
theorem dX4_append_77 : decode cX4_append 77 = .ok (.getfield 113, 3) := by decide +kernel
theorem dX4_append_80 : decode cX4_append 80 = .ok (.ireturn, 1) := by decide +kernel
theorem dX4_clearBuffer_0 : decode cX4_clearBuffer 0 = .ok (.aload_n 0, 1) := by decide +kernel
theorem dX4_clearBuffer_1 : decode cX4_clearBuffer 1 = .ok (.getfield 33, 3) := by decide +kernel
theorem dX4_clearBuffer_4 : decode cX4_clearBuffer 4 = .ok (.getfield 113, 3) := by decide +kernel
theorem dX4_clearBuffer_7 : decode cX4_clearBuffer 7 = .ok (.istore_n 1, 1) := by decide +kernel
theorem dX4_clearBuffer_8 : decode cX4_clearBuffer 8 = .ok (.aload_n 0, 1) := by decide +kernel
theorem dX4_clearBuffer_9 : decode cX4_clearBuffer 9 = .ok (.getfield 33, 3) := by decide +kernel
theorem dX4_clearBuffer_12 : decode cX4_clearBuffer 12 = .ok (.iconst 0, 1) := by decide +kernel
theorem dX4_clearBuffer_13 : decode cX4_clearBuffer 13 = .ok (.putfield 113, 3) := by decide +kernel
theorem dX4_clearBuffer_16 : decode cX4_clearBuffer 16 = .ok (.iload_n 1, 1) := by decide +kernel
theorem dX4_clearBuffer_17 : decode cX4_clearBuffer 17 = .ok (.ireturn, 1) := by decide +kernel
set_option maxRecDepth 20000 in
theorem ggX4_firstError_X2_read : GoodIn wsX4_firstError wsX2_read := goodIn_r _ [6, 7, 8, 9, 10, 11, 12, 13, 14, 15, 16, 17, 18, 19, 20, 21, 22, 5, 23, 24, 25, 26, 27, 28, 29, 30, 31, 32, 33, 34, 35, 36, 37, 38, 39, 40, 41, 42, 43, 44, 45, 46, 47, 48, 49, 50, 51, 52, 62, 63, 64, 65, 66, 67, 68, 69, 70, 71, 72, 73, 74, 75, 76, 77] (by decide +kernel) (by decide +kernel)
set_option maxRecDepth 20000 in
theorem gX4_firstError_X2_read : GoodIn wsX4_firstError (wsV RX4 124 RX2 yX2_read wsX2_read) := goodIn_app (goodIn_of _ (by decide +kernel)) ggX4_firstError_X2_read
theorem dX4_firstError_0 : decode cX4_firstError 0 = .ok (.aload_n 0, 1) := by decide +kernel
theorem dX4_firstError_1 : decode cX4_firstError 1 = .ok (.getfield 33, 3) := by decide +kernel
theorem dX4_firstError_4 : decode cX4_firstError 4 = .ok (.invokevirtual 124, 3) := by decide +kernel
theorem dX4_firstError_7 : decode cX4_firstError 7 = .ok (.ireturn, 1) := by decide +kernel
set_option maxRecDepth 20000 in
theorem ggX4_load_X2_read : GoodIn wsX4_load wsX2_read := goodIn_r _ [11, 12, 13, 14, 15, 16, 17, 18, 19, 20, 21, 22, 23, 24, 25, 26, 27, 10, 28, 29, 30, 31, 32, 33, 34, 35, 36, 37, 38, 39, 40, 41, 42, 43, 44, 45, 46, 47, 48, 49, 50, 51, 52, 53, 54, 55, 56, 57, 113, 114, 115, 116, 117, 118, 119, 120, 121, 122, 123, 124, 125, 126, 127, 128] (by decide +kernel) (by decide +kernel)
set_option maxRecDepth 20000 in
theorem gX4_load_X2_read : GoodIn wsX4_load (wsV RX4 124 RX2 yX2_read wsX2_read) := goodIn_app (goodIn_of _ (by decide +kernel)) ggX4_load_X2_read
set_option maxRecDepth 20000 in
theorem ggX4_load_X2_isWhole : GoodIn wsX4_load wsX2_isWhole := goodIn_r _ [61, 13, 113, 114, 115, 116, 117, 118] (by decide +kernel) (by decide +kernel)
set_option maxRecDepth 20000 in
theorem gX4_load_X2_isWhole : GoodIn wsX4_load (wsV RX4 128 RX2 yX2_isWhole wsX2_isWhole) := goodIn_app (goodIn_of _ (by decide +kernel)) ggX4_load_X2_isWhole
set_option maxRecDepth 20000 in
theorem ggX4_load_X4_saveState : GoodIn wsX4_load wsX4_saveState := goodIn_r _ [65, 66, 5, 67, 68, 69, 70, 38, 71, 72, 73, 74, 75, 76, 77, 19, 78, 21, 22, 23, 24, 79, 80, 81, 82, 83, 84, 85, 86, 87, 88, 104, 105, 106, 107, 108, 109, 110, 111, 112, 119, 120, 121, 122, 123, 124, 125, 126, 127, 128] (by decide +kernel) (by decide +kernel)
set_option maxRecDepth 20000 in
theorem gX4_load_X4_saveState : GoodIn wsX4_load (wsV RX4 71 RX4 yX4_saveState wsX4_saveState) := goodIn_app (goodIn_of _ (by decide +kernel)) ggX4_load_X4_saveState
set_option maxRecDepth 20000 in
theorem ggX4_load_X1_copyGraph : GoodIn wsX4_load wsX1_copyGraph := goodIn_r _ [78, 21, 22, 23, 24, 119, 120, 121, 122, 123, 124, 125, 126, 127, 128] (by decide +kernel) (by decide +kernel)
set_option maxRecDepth 20000 in
theorem gX4_load_X1_copyGraph : GoodIn wsX4_load (wsV RX4 137 RX1 yX1_copyGraph wsX1_copyGraph) := goodIn_app (goodIn_of _ (by decide +kernel)) ggX4_load_X1_copyGraph
set_option maxRecDepth 20000 in
theorem ggX4_load_X1_beginAnew : GoodIn wsX4_load wsX1_beginAnew := goodIn_r _ [92, 86, 83, 21, 119, 120, 121, 122, 123, 124, 125, 126, 127, 128] (by decide +kernel) (by decide +kernel)
set_option maxRecDepth 20000 in
theorem gX4_load_X1_beginAnew : GoodIn wsX4_load (wsV RX4 77 RX1 yX1_beginAnew wsX1_beginAnew) := goodIn_app (goodIn_of _ (by decide +kernel)) ggX4_load_X1_beginAnew
set_option maxRecDepth 20000 in
theorem ggX4_load_X1_countJoins : GoodIn wsX4_load wsX1_countJoins := goodIn_r _ [96, 23, 97, 98, 99, 100, 101, 102, 103, 119, 120, 121, 122, 123, 124, 125, 126, 127, 128] (by decide +kernel) (by decide +kernel)
set_option maxRecDepth 20000 in
theorem gX4_load_X1_countJoins : GoodIn wsX4_load (wsV RX4 140 RX1 yX1_countJoins wsX1_countJoins) := goodIn_app (goodIn_of _ (by decide +kernel)) ggX4_load_X1_countJoins
theorem dX4_load_0 : decode cX4_load 0 = .ok (.aload_n 0, 1) := by decide +kernel
theorem dX4_load_1 : decode cX4_load 1 = .ok (.getfield 33, 3) := by decide +kernel
theorem dX4_load_4 : decode cX4_load 4 = .ok (.invokevirtual 124, 3) := by decide +kernel
theorem dX4_load_7 : decode cX4_load 7 = .ok (.aload_n 0, 1) := by decide +kernel
theorem dX4_load_8 : decode cX4_load 8 = .ok (.getfield 33, 3) := by decide +kernel
theorem dX4_load_11 : decode cX4_load 11 = .ok (.getfield 113, 3) := by decide +kernel
theorem dX4_load_14 : decode cX4_load 14 = .ok (.if_icmp .lt 13, 3) := by decide +kernel
theorem dX4_load_17 : decode cX4_load 17 = .ok (.aload_n 0, 1) := by decide +kernel
theorem dX4_load_18 : decode cX4_load 18 = .ok (.getfield 33, 3) := by decide +kernel
theorem dX4_load_21 : decode cX4_load 21 = .ok (.invokevirtual 128, 3) := by decide +kernel
theorem dX4_load_24 : decode cX4_load 24 = .ok (.ifCond .ne 13, 3) := by decide +kernel
theorem dX4_load_27 : decode cX4_load 27 = .ok (.new 66, 3) := by decide +kernel
theorem dX4_load_30 : decode cX4_load 30 = .ok (.dup, 1) := by decide +kernel
theorem dX4_load_31 : decode cX4_load 31 = .ok (.ldc 132, 2) := by decide +kernel
theorem dX4_load_33 : decode cX4_load 33 = .ok (.invokespecial 70, 3) := by decide +kernel
theorem dX4_load_36 : decode cX4_load 36 = .ok (.athrow, 1) := by decide +kernel
theorem dX4_load_37 : decode cX4_load 37 = .ok (.aload_n 0, 1) := by decide +kernel
theorem dX4_load_38 : decode cX4_load 38 = .ok (.invokevirtual 71, 3) := by decide +kernel
theorem dX4_load_41 : decode cX4_load 41 = .ok (.aload_n 0, 1) := by decide +kernel
theorem dX4_load_42 : decode cX4_load 42 = .ok (.getfield 12, 3) := by decide +kernel
theorem dX4_load_45 : decode cX4_load 45 = .ok (.aload_n 0, 1) := by decide +kernel
theorem dX4_load_46 : decode cX4_load 46 = .ok (.getfield 33, 3) := by decide +kernel
theorem dX4_load_49 : decode cX4_load 49 = .ok (.getfield 134, 3) := by decide +kernel
theorem dX4_load_52 : decode cX4_load 52 = .ok (.invokevirtual 137, 3) := by decide +kernel
theorem dX4_load_55 : decode cX4_load 55 = .ok (.aload_n 0, 1) := by decide +kernel
theorem dX4_load_56 : decode cX4_load 56 = .ok (.getfield 12, 3) := by decide +kernel
theorem dX4_load_59 : decode cX4_load 59 = .ok (.invokevirtual 77, 3) := by decide +kernel
theorem dX4_load_62 : decode cX4_load 62 = .ok (.aload_n 0, 1) := by decide +kernel
theorem dX4_load_63 : decode cX4_load 63 = .ok (.getfield 33, 3) := by decide +kernel
theorem dX4_load_66 : decode cX4_load 66 = .ok (.iconst 0, 1) := by decide +kernel
theorem dX4_load_67 : decode cX4_load 67 = .ok (.putfield 113, 3) := by decide +kernel
theorem dX4_load_70 : decode cX4_load 70 = .ok (.aload_n 0, 1) := by decide +kernel
theorem dX4_load_71 : decode cX4_load 71 = .ok (.getfield 12, 3) := by decide +kernel
theorem dX4_load_74 : decode cX4_load 74 = .ok (.invokevirtual 140, 3) := by decide +kernel
theorem dX4_load_77 : decode cX4_load 77 = .ok (.ireturn, 1) := by decide +kernel
set_option maxRecDepth 20000 in
theorem ggX4_keep_X4_isSlot : GoodIn wsX4_keep wsX4_isSlot := goodIn_r _ [9] (by decide +kernel) (by decide +kernel)
set_option maxRecDepth 20000 in
theorem gX4_keep_X4_isSlot : GoodIn wsX4_keep (va_wsS RX4 143 yX4_isSlot wsX4_isSlot) := goodIn_app (goodIn_of _ (by decide +kernel)) ggX4_keep_X4_isSlot
set_option maxRecDepth 20000 in
theorem ggX4_keep_X4_copyState : GoodIn wsX4_keep wsX4_copyState := goodIn_r _ [12, 13, 14, 15, 16, 17, 18, 19, 20, 21, 22, 23, 24, 25, 26, 27, 28, 29, 30, 31, 52, 53, 54, 55, 56, 57, 58, 59, 60, 61] (by decide +kernel) (by decide +kernel)
set_option maxRecDepth 20000 in
theorem gX4_keep_X4_copyState : GoodIn wsX4_keep (va_wsS RX4 148 yX4_copyState wsX4_copyState) := goodIn_app (goodIn_of _ (by decide +kernel)) ggX4_keep_X4_copyState
set_option maxRecDepth 20000 in
theorem ggX4_keep_X1_countJoins : GoodIn wsX4_keep wsX1_countJoins := goodIn_r _ [35, 20, 36, 37, 38, 39, 40, 41, 42, 52, 53, 54, 55, 56, 57, 58, 59, 60, 61] (by decide +kernel) (by decide +kernel)
set_option maxRecDepth 20000 in
theorem gX4_keep_X1_countJoins : GoodIn wsX4_keep (wsV RX4 140 RX1 yX1_countJoins wsX1_countJoins) := goodIn_app (goodIn_of _ (by decide +kernel)) ggX4_keep_X1_countJoins
theorem dX4_keep_0 : decode cX4_keep 0 = .ok (.iload_n 1, 1) := by decide +kernel
theorem dX4_keep_1 : decode cX4_keep 1 = .ok (.invokestatic 143, 3) := by decide +kernel
theorem dX4_keep_4 : decode cX4_keep 4 = .ok (.ifCond .ne 13, 3) := by decide +kernel
theorem dX4_keep_7 : decode cX4_keep 7 = .ok (.new 66, 3) := by decide +kernel
theorem dX4_keep_10 : decode cX4_keep 10 = .ok (.dup, 1) := by decide +kernel
theorem dX4_keep_11 : decode cX4_keep 11 = .ok (.ldc 146, 2) := by decide +kernel
theorem dX4_keep_13 : decode cX4_keep 13 = .ok (.invokespecial 70, 3) := by decide +kernel
theorem dX4_keep_16 : decode cX4_keep 16 = .ok (.athrow, 1) := by decide +kernel
theorem dX4_keep_17 : decode cX4_keep 17 = .ok (.aload_n 0, 1) := by decide +kernel
theorem dX4_keep_18 : decode cX4_keep 18 = .ok (.getfield 12, 3) := by decide +kernel
theorem dX4_keep_21 : decode cX4_keep 21 = .ok (.aload_n 0, 1) := by decide +kernel
theorem dX4_keep_22 : decode cX4_keep 22 = .ok (.getfield 23, 3) := by decide +kernel
theorem dX4_keep_25 : decode cX4_keep 25 = .ok (.iload_n 1, 1) := by decide +kernel
theorem dX4_keep_26 : decode cX4_keep 26 = .ok (.aaload, 1) := by decide +kernel
theorem dX4_keep_27 : decode cX4_keep 27 = .ok (.invokestatic 148, 3) := by decide +kernel
theorem dX4_keep_30 : decode cX4_keep 30 = .ok (.aload_n 0, 1) := by decide +kernel
theorem dX4_keep_31 : decode cX4_keep 31 = .ok (.getfield 26, 3) := by decide +kernel
theorem dX4_keep_34 : decode cX4_keep 34 = .ok (.iload_n 1, 1) := by decide +kernel
theorem dX4_keep_35 : decode cX4_keep 35 = .ok (.iconst 1, 1) := by decide +kernel
theorem dX4_keep_36 : decode cX4_keep 36 = .ok (.bastore, 1) := by decide +kernel
theorem dX4_keep_37 : decode cX4_keep 37 = .ok (.aload_n 0, 1) := by decide +kernel
theorem dX4_keep_38 : decode cX4_keep 38 = .ok (.getfield 12, 3) := by decide +kernel
theorem dX4_keep_41 : decode cX4_keep 41 = .ok (.invokevirtual 140, 3) := by decide +kernel
theorem dX4_keep_44 : decode cX4_keep 44 = .ok (.ireturn, 1) := by decide +kernel
set_option maxRecDepth 20000 in
theorem ggX4_goBack_X4_isSlot : GoodIn wsX4_goBack wsX4_isSlot := goodIn_r _ [11] (by decide +kernel) (by decide +kernel)
set_option maxRecDepth 20000 in
theorem gX4_goBack_X4_isSlot : GoodIn wsX4_goBack (va_wsS RX4 143 yX4_isSlot wsX4_isSlot) := goodIn_app (goodIn_of _ (by decide +kernel)) ggX4_goBack_X4_isSlot
set_option maxRecDepth 20000 in
theorem ggX4_goBack_X4_saveState : GoodIn wsX4_goBack wsX4_saveState := goodIn_r _ [15, 16, 7, 17, 18, 19, 20, 10, 21, 22, 23, 24, 25, 26, 27, 28, 29, 30, 31, 32, 33, 34, 35, 36, 37, 38, 39, 40, 41, 42, 43, 55, 56, 57, 58, 59, 60, 61, 62, 63, 64, 65, 66, 67, 68, 69, 70, 71, 72, 73] (by decide +kernel) (by decide +kernel)
set_option maxRecDepth 20000 in
theorem gX4_goBack_X4_saveState : GoodIn wsX4_goBack (wsV RX4 71 RX4 yX4_saveState wsX4_saveState) := goodIn_app (goodIn_of _ (by decide +kernel)) ggX4_goBack_X4_saveState
set_option maxRecDepth 20000 in
theorem ggX4_goBack_X4_copyState : GoodIn wsX4_goBack wsX4_copyState := goodIn_r _ [24, 25, 26, 27, 28, 29, 30, 31, 32, 33, 34, 35, 36, 37, 38, 39, 40, 41, 42, 43, 64, 65, 66, 67, 68, 69, 70, 71, 72, 73] (by decide +kernel) (by decide +kernel)
set_option maxRecDepth 20000 in
theorem gX4_goBack_X4_copyState : GoodIn wsX4_goBack (va_wsS RX4 148 yX4_copyState wsX4_copyState) := goodIn_app (goodIn_of _ (by decide +kernel)) ggX4_goBack_X4_copyState
set_option maxRecDepth 20000 in
theorem ggX4_goBack_X1_countJoins : GoodIn wsX4_goBack wsX1_countJoins := goodIn_r _ [47, 32, 48, 49, 50, 51, 52, 53, 54, 64, 65, 66, 67, 68, 69, 70, 71, 72, 73] (by decide +kernel) (by decide +kernel)
set_option maxRecDepth 20000 in
theorem gX4_goBack_X1_countJoins : GoodIn wsX4_goBack (wsV RX4 140 RX1 yX1_countJoins wsX1_countJoins) := goodIn_app (goodIn_of _ (by decide +kernel)) ggX4_goBack_X1_countJoins
theorem dX4_goBack_0 : decode cX4_goBack 0 = .ok (.iload_n 1, 1) := by decide +kernel
theorem dX4_goBack_1 : decode cX4_goBack 1 = .ok (.invokestatic 143, 3) := by decide +kernel
theorem dX4_goBack_4 : decode cX4_goBack 4 = .ok (.ifCond .ne 13, 3) := by decide +kernel
theorem dX4_goBack_7 : decode cX4_goBack 7 = .ok (.new 66, 3) := by decide +kernel
theorem dX4_goBack_10 : decode cX4_goBack 10 = .ok (.dup, 1) := by decide +kernel
theorem dX4_goBack_11 : decode cX4_goBack 11 = .ok (.ldc 146, 2) := by decide +kernel
theorem dX4_goBack_13 : decode cX4_goBack 13 = .ok (.invokespecial 70, 3) := by decide +kernel
theorem dX4_goBack_16 : decode cX4_goBack 16 = .ok (.athrow, 1) := by decide +kernel
theorem dX4_goBack_17 : decode cX4_goBack 17 = .ok (.aload_n 0, 1) := by decide +kernel
theorem dX4_goBack_18 : decode cX4_goBack 18 = .ok (.getfield 26, 3) := by decide +kernel
theorem dX4_goBack_21 : decode cX4_goBack 21 = .ok (.iload_n 1, 1) := by decide +kernel
theorem dX4_goBack_22 : decode cX4_goBack 22 = .ok (.baload, 1) := by decide +kernel
theorem dX4_goBack_23 : decode cX4_goBack 23 = .ok (.ifCond .ne 13, 3) := by decide +kernel
theorem dX4_goBack_26 : decode cX4_goBack 26 = .ok (.new 116, 3) := by decide +kernel
theorem dX4_goBack_29 : decode cX4_goBack 29 = .ok (.dup, 1) := by decide +kernel
theorem dX4_goBack_30 : decode cX4_goBack 30 = .ok (.ldc 152, 2) := by decide +kernel
theorem dX4_goBack_32 : decode cX4_goBack 32 = .ok (.invokespecial 120, 3) := by decide +kernel
theorem dX4_goBack_35 : decode cX4_goBack 35 = .ok (.athrow, 1) := by decide +kernel
theorem dX4_goBack_36 : decode cX4_goBack 36 = .ok (.aload_n 0, 1) := by decide +kernel
theorem dX4_goBack_37 : decode cX4_goBack 37 = .ok (.invokevirtual 71, 3) := by decide +kernel
theorem dX4_goBack_40 : decode cX4_goBack 40 = .ok (.aload_n 0, 1) := by decide +kernel
theorem dX4_goBack_41 : decode cX4_goBack 41 = .ok (.getfield 23, 3) := by decide +kernel
theorem dX4_goBack_44 : decode cX4_goBack 44 = .ok (.iload_n 1, 1) := by decide +kernel
theorem dX4_goBack_45 : decode cX4_goBack 45 = .ok (.aaload, 1) := by decide +kernel
theorem dX4_goBack_46 : decode cX4_goBack 46 = .ok (.aload_n 0, 1) := by decide +kernel
theorem dX4_goBack_47 : decode cX4_goBack 47 = .ok (.getfield 12, 3) := by decide +kernel
theorem dX4_goBack_50 : decode cX4_goBack 50 = .ok (.invokestatic 148, 3) := by decide +kernel
theorem dX4_goBack_53 : decode cX4_goBack 53 = .ok (.aload_n 0, 1) := by decide +kernel
theorem dX4_goBack_54 : decode cX4_goBack 54 = .ok (.getfield 12, 3) := by decide +kernel
theorem dX4_goBack_57 : decode cX4_goBack 57 = .ok (.invokevirtual 140, 3) := by decide +kernel
theorem dX4_goBack_60 : decode cX4_goBack 60 = .ok (.ireturn, 1) := by decide +kernel
set_option maxRecDepth 20000 in
theorem ggX4_undo_X4_copyState : GoodIn wsX4_undo wsX4_copyState := goodIn_r _ [9, 10, 11, 12, 13, 14, 15, 16, 17, 18, 19, 20, 21, 22, 23, 24, 25, 26, 27, 28, 38, 39, 40, 41, 42, 43, 44, 45, 46, 47] (by decide +kernel) (by decide +kernel)
set_option maxRecDepth 20000 in
theorem gX4_undo_X4_copyState : GoodIn wsX4_undo (va_wsS RX4 148 yX4_copyState wsX4_copyState) := goodIn_app (goodIn_of _ (by decide +kernel)) ggX4_undo_X4_copyState
theorem dX4_undo_0 : decode cX4_undo 0 = .ok (.aload_n 0, 1) := by decide +kernel
theorem dX4_undo_1 : decode cX4_undo 1 = .ok (.getfield 154, 3) := by decide +kernel
theorem dX4_undo_4 : decode cX4_undo 4 = .ok (.iconst 1, 1) := by decide +kernel
theorem dX4_undo_5 : decode cX4_undo 5 = .ok (.if_icmp .lt 12, 3) := by decide +kernel
theorem dX4_undo_8 : decode cX4_undo 8 = .ok (.aload_n 0, 1) := by decide +kernel
theorem dX4_undo_9 : decode cX4_undo 9 = .ok (.getfield 154, 3) := by decide +kernel
theorem dX4_undo_12 : decode cX4_undo 12 = .ok (.bipush 6, 2) := by decide +kernel
theorem dX4_undo_14 : decode cX4_undo 14 = .ok (.if_icmp .le 13, 3) := by decide +kernel
theorem dX4_undo_17 : decode cX4_undo 17 = .ok (.new 116, 3) := by decide +kernel
theorem dX4_undo_20 : decode cX4_undo 20 = .ok (.dup, 1) := by decide +kernel
theorem dX4_undo_21 : decode cX4_undo 21 = .ok (.ldc 157, 2) := by decide +kernel
theorem dX4_undo_23 : decode cX4_undo 23 = .ok (.invokespecial 120, 3) := by decide +kernel
theorem dX4_undo_26 : decode cX4_undo 26 = .ok (.athrow, 1) := by decide +kernel
theorem dX4_undo_27 : decode cX4_undo 27 = .ok (.aload_n 0, 1) := by decide +kernel
theorem dX4_undo_28 : decode cX4_undo 28 = .ok (.dup, 1) := by decide +kernel
theorem dX4_undo_29 : decode cX4_undo 29 = .ok (.getfield 154, 3) := by decide +kernel
theorem dX4_undo_32 : decode cX4_undo 32 = .ok (.iconst 1, 1) := by decide +kernel
theorem dX4_undo_33 : decode cX4_undo 33 = .ok (.isub, 1) := by decide +kernel
theorem dX4_undo_34 : decode cX4_undo 34 = .ok (.putfield 154, 3) := by decide +kernel
theorem dX4_undo_37 : decode cX4_undo 37 = .ok (.aload_n 0, 1) := by decide +kernel
theorem dX4_undo_38 : decode cX4_undo 38 = .ok (.getfield 19, 3) := by decide +kernel
theorem dX4_undo_41 : decode cX4_undo 41 = .ok (.aload_n 0, 1) := by decide +kernel
theorem dX4_undo_42 : decode cX4_undo 42 = .ok (.getfield 154, 3) := by decide +kernel
theorem dX4_undo_45 : decode cX4_undo 45 = .ok (.aaload, 1) := by decide +kernel
theorem dX4_undo_46 : decode cX4_undo 46 = .ok (.aload_n 0, 1) := by decide +kernel
theorem dX4_undo_47 : decode cX4_undo 47 = .ok (.getfield 12, 3) := by decide +kernel
theorem dX4_undo_50 : decode cX4_undo 50 = .ok (.invokestatic 148, 3) := by decide +kernel
theorem dX4_undo_53 : decode cX4_undo 53 = .ok (.aload_n 0, 1) := by decide +kernel
theorem dX4_undo_54 : decode cX4_undo 54 = .ok (.getfield 154, 3) := by decide +kernel
theorem dX4_undo_57 : decode cX4_undo 57 = .ok (.ireturn, 1) := by decide +kernel
set_option maxRecDepth 20000 in
theorem ggX4_pieceOf_X4_isPiece : GoodIn wsX4_pieceOf wsX4_isPiece := goodIn_r _ [19] (by decide +kernel) (by decide +kernel)
set_option maxRecDepth 20000 in
theorem gX4_pieceOf_X4_isPiece : GoodIn wsX4_pieceOf (va_wsS RX4 55 yX4_isPiece wsX4_isPiece) := goodIn_app (goodIn_of _ (by decide +kernel)) ggX4_pieceOf_X4_isPiece
set_option maxRecDepth 20000 in
theorem ggX4_pieceOf_X1_countJoinsTo : GoodIn wsX4_pieceOf wsX1_countJoinsTo := goodIn_r _ [24, 25, 26, 18, 27, 90, 91, 92, 93, 94, 95, 96, 97, 98, 99] (by decide +kernel) (by decide +kernel)
set_option maxRecDepth 20000 in
theorem gX4_pieceOf_X1_countJoinsTo : GoodIn wsX4_pieceOf (wsV RX4 162 RX1 yX1_countJoinsTo wsX1_countJoinsTo) := goodIn_app (goodIn_of _ (by decide +kernel)) ggX4_pieceOf_X1_countJoinsTo
set_option maxRecDepth 20000 in
theorem ggX4_pieceOf_J6_bitCount_0f7a4 : GoodIn wsX4_pieceOf wsJ6_bitCount_0f7a4 := goodIn_r _ [31, 32, 33, 34] (by decide +kernel) (by decide +kernel)
set_option maxRecDepth 20000 in
theorem gX4_pieceOf_J6_bitCount_0f7a4 : GoodIn wsX4_pieceOf (va_wsS RX4 166 yJ6_bitCount_0f7a4 wsJ6_bitCount_0f7a4) := goodIn_app (goodIn_of _ (by decide +kernel)) ggX4_pieceOf_J6_bitCount_0f7a4
set_option maxRecDepth 20000 in
theorem ggX4_pieceOf_X0_findBehind : GoodIn wsX4_pieceOf wsX0_findBehind := goodIn_r _ [39, 40, 41, 26, 18, 27, 100, 101, 102, 90, 91, 92, 93, 94, 95, 96, 97, 98, 99] (by decide +kernel) (by decide +kernel)
set_option maxRecDepth 20000 in
theorem gX4_pieceOf_X0_findBehind : GoodIn wsX4_pieceOf (wsV RX4 171 RX0 yX0_findBehind wsX0_findBehind) := goodIn_app (goodIn_of _ (by decide +kernel)) ggX4_pieceOf_X0_findBehind
set_option maxRecDepth 20000 in
theorem ggX4_pieceOf_X3_list : GoodIn wsX4_pieceOf wsX3_list := goodIn_r _ [46, 47, 48, 49, 50, 51, 52, 45, 53, 54, 55, 56, 57, 58, 23, 59, 60, 61, 25, 62, 63, 64, 65, 66, 17, 18, 19, 26, 27, 67, 68, 69, 70, 71, 72, 73, 74, 75, 76, 103, 104, 105, 106, 107, 108, 90, 91, 92, 93, 94, 95, 96, 97, 98, 99] (by decide +kernel) (by decide +kernel)
set_option maxRecDepth 20000 in
theorem gX4_pieceOf_X3_list : GoodIn wsX4_pieceOf (wsV RX4 96 RX3 yX3_list wsX3_list) := goodIn_app (goodIn_of _ (by decide +kernel)) ggX4_pieceOf_X3_list
set_option maxRecDepth 20000 in
theorem ggX4_pieceOf_X4_countWith : GoodIn wsX4_pieceOf wsX4_countWith := goodIn_r _ [79, 80, 26, 18, 27] (by decide +kernel) (by decide +kernel)
set_option maxRecDepth 20000 in
theorem gX4_pieceOf_X4_countWith : GoodIn wsX4_pieceOf (va_wsS RX4 183 yX4_countWith wsX4_countWith) := goodIn_app (goodIn_of _ (by decide +kernel)) ggX4_pieceOf_X4_countWith
theorem dX4_pieceOf_0 : decode cX4_pieceOf 0 = .ok (.iload_n 1, 1) := by decide +kernel
theorem dX4_pieceOf_1 : decode cX4_pieceOf 1 = .ok (.invokestatic 55, 3) := by decide +kernel
theorem dX4_pieceOf_4 : decode cX4_pieceOf 4 = .ok (.ifCond .ne 13, 3) := by decide +kernel
theorem dX4_pieceOf_7 : decode cX4_pieceOf 7 = .ok (.new 59, 3) := by decide +kernel
theorem dX4_pieceOf_10 : decode cX4_pieceOf 10 = .ok (.dup, 1) := by decide +kernel
theorem dX4_pieceOf_11 : decode cX4_pieceOf 11 = .ok (.ldc 61, 2) := by decide +kernel
theorem dX4_pieceOf_13 : decode cX4_pieceOf 13 = .ok (.invokespecial 63, 3) := by decide +kernel
theorem dX4_pieceOf_16 : decode cX4_pieceOf 16 = .ok (.athrow, 1) := by decide +kernel
theorem dX4_pieceOf_17 : decode cX4_pieceOf 17 = .ok (.iload_n 2, 1) := by decide +kernel
theorem dX4_pieceOf_18 : decode cX4_pieceOf 18 = .ok (.tableswitch 162 0 7 #[46, 56, 66, 76, 85, 98, 122, 152], 46) := by decide +kernel
theorem dX4_pieceOf_64 : decode cX4_pieceOf 64 = .ok (.aload_n 0, 1) := by decide +kernel
theorem dX4_pieceOf_65 : decode cX4_pieceOf 65 = .ok (.getfield 12, 3) := by decide +kernel
theorem dX4_pieceOf_68 : decode cX4_pieceOf 68 = .ok (.getfield 74, 3) := by decide +kernel
theorem dX4_pieceOf_71 : decode cX4_pieceOf 71 = .ok (.iload_n 1, 1) := by decide +kernel
theorem dX4_pieceOf_72 : decode cX4_pieceOf 72 = .ok (.iaload, 1) := by decide +kernel
theorem dX4_pieceOf_73 : decode cX4_pieceOf 73 = .ok (.ireturn, 1) := by decide +kernel
theorem dX4_pieceOf_74 : decode cX4_pieceOf 74 = .ok (.aload_n 0, 1) := by decide +kernel
theorem dX4_pieceOf_75 : decode cX4_pieceOf 75 = .ok (.getfield 12, 3) := by decide +kernel
theorem dX4_pieceOf_78 : decode cX4_pieceOf 78 = .ok (.getfield 159, 3) := by decide +kernel
theorem dX4_pieceOf_81 : decode cX4_pieceOf 81 = .ok (.iload_n 1, 1) := by decide +kernel
theorem dX4_pieceOf_82 : decode cX4_pieceOf 82 = .ok (.iaload, 1) := by decide +kernel
theorem dX4_pieceOf_83 : decode cX4_pieceOf 83 = .ok (.ireturn, 1) := by decide +kernel
theorem dX4_pieceOf_84 : decode cX4_pieceOf 84 = .ok (.aload_n 0, 1) := by decide +kernel
theorem dX4_pieceOf_85 : decode cX4_pieceOf 85 = .ok (.getfield 12, 3) := by decide +kernel
theorem dX4_pieceOf_88 : decode cX4_pieceOf 88 = .ok (.getfield 51, 3) := by decide +kernel
theorem dX4_pieceOf_91 : decode cX4_pieceOf 91 = .ok (.iload_n 1, 1) := by decide +kernel
theorem dX4_pieceOf_92 : decode cX4_pieceOf 92 = .ok (.iaload, 1) := by decide +kernel
theorem dX4_pieceOf_93 : decode cX4_pieceOf 93 = .ok (.ireturn, 1) := by decide +kernel
theorem dX4_pieceOf_94 : decode cX4_pieceOf 94 = .ok (.aload_n 0, 1) := by decide +kernel
theorem dX4_pieceOf_95 : decode cX4_pieceOf 95 = .ok (.getfield 12, 3) := by decide +kernel
theorem dX4_pieceOf_98 : decode cX4_pieceOf 98 = .ok (.iload_n 1, 1) := by decide +kernel
theorem dX4_pieceOf_99 : decode cX4_pieceOf 99 = .ok (.invokevirtual 162, 3) := by decide +kernel
theorem dX4_pieceOf_102 : decode cX4_pieceOf 102 = .ok (.ireturn, 1) := by decide +kernel
theorem dX4_pieceOf_103 : decode cX4_pieceOf 103 = .ok (.aload_n 0, 1) := by decide +kernel
theorem dX4_pieceOf_104 : decode cX4_pieceOf 104 = .ok (.getfield 12, 3) := by decide +kernel
theorem dX4_pieceOf_107 : decode cX4_pieceOf 107 = .ok (.getfield 82, 3) := by decide +kernel
theorem dX4_pieceOf_110 : decode cX4_pieceOf 110 = .ok (.iload_n 1, 1) := by decide +kernel
theorem dX4_pieceOf_111 : decode cX4_pieceOf 111 = .ok (.iaload, 1) := by decide +kernel
theorem dX4_pieceOf_112 : decode cX4_pieceOf 112 = .ok (.invokestatic 166, 3) := by decide +kernel
theorem dX4_pieceOf_115 : decode cX4_pieceOf 115 = .ok (.ireturn, 1) := by decide +kernel
theorem dX4_pieceOf_116 : decode cX4_pieceOf 116 = .ok (.aload_n 0, 1) := by decide +kernel
theorem dX4_pieceOf_117 : decode cX4_pieceOf 117 = .ok (.getfield 47, 3) := by decide +kernel
theorem dX4_pieceOf_120 : decode cX4_pieceOf 120 = .ok (.aload_n 0, 1) := by decide +kernel
theorem dX4_pieceOf_121 : decode cX4_pieceOf 121 = .ok (.getfield 12, 3) := by decide +kernel
theorem dX4_pieceOf_124 : decode cX4_pieceOf 124 = .ok (.invokevirtual 171, 3) := by decide +kernel
theorem dX4_pieceOf_127 : decode cX4_pieceOf 127 = .ok (.aload_n 0, 1) := by decide +kernel
theorem dX4_pieceOf_128 : decode cX4_pieceOf 128 = .ok (.getfield 47, 3) := by decide +kernel
theorem dX4_pieceOf_131 : decode cX4_pieceOf 131 = .ok (.getfield 174, 3) := by decide +kernel
theorem dX4_pieceOf_134 : decode cX4_pieceOf 134 = .ok (.iload_n 1, 1) := by decide +kernel
theorem dX4_pieceOf_135 : decode cX4_pieceOf 135 = .ok (.iaload, 1) := by decide +kernel
theorem dX4_pieceOf_136 : decode cX4_pieceOf 136 = .ok (.invokestatic 166, 3) := by decide +kernel
theorem dX4_pieceOf_139 : decode cX4_pieceOf 139 = .ok (.ireturn, 1) := by decide +kernel
theorem dX4_pieceOf_140 : decode cX4_pieceOf 140 = .ok (.aload_n 0, 1) := by decide +kernel
theorem dX4_pieceOf_141 : decode cX4_pieceOf 141 = .ok (.getfield 40, 3) := by decide +kernel
theorem dX4_pieceOf_144 : decode cX4_pieceOf 144 = .ok (.aload_n 0, 1) := by decide +kernel
theorem dX4_pieceOf_145 : decode cX4_pieceOf 145 = .ok (.getfield 12, 3) := by decide +kernel
theorem dX4_pieceOf_148 : decode cX4_pieceOf 148 = .ok (.invokevirtual 96, 3) := by decide +kernel
theorem dX4_pieceOf_151 : decode cX4_pieceOf 151 = .ok (.aload_n 0, 1) := by decide +kernel
theorem dX4_pieceOf_152 : decode cX4_pieceOf 152 = .ok (.getfield 40, 3) := by decide +kernel
theorem dX4_pieceOf_155 : decode cX4_pieceOf 155 = .ok (.getfield 177, 3) := by decide +kernel
theorem dX4_pieceOf_158 : decode cX4_pieceOf 158 = .ok (.aload_n 0, 1) := by decide +kernel
theorem dX4_pieceOf_159 : decode cX4_pieceOf 159 = .ok (.getfield 40, 3) := by decide +kernel
theorem dX4_pieceOf_162 : decode cX4_pieceOf 162 = .ok (.getfield 180, 3) := by decide +kernel
theorem dX4_pieceOf_165 : decode cX4_pieceOf 165 = .ok (.iload_n 1, 1) := by decide +kernel
theorem dX4_pieceOf_166 : decode cX4_pieceOf 166 = .ok (.invokestatic 183, 3) := by decide +kernel
theorem dX4_pieceOf_169 : decode cX4_pieceOf 169 = .ok (.ireturn, 1) := by decide +kernel
theorem dX4_pieceOf_170 : decode cX4_pieceOf 170 = .ok (.aload_n 0, 1) := by decide +kernel
theorem dX4_pieceOf_171 : decode cX4_pieceOf 171 = .ok (.getfield 12, 3) := by decide +kernel
theorem dX4_pieceOf_174 : decode cX4_pieceOf 174 = .ok (.getfield 93, 3) := by decide +kernel
theorem dX4_pieceOf_177 : decode cX4_pieceOf 177 = .ok (.iload_n 1, 1) := by decide +kernel
theorem dX4_pieceOf_178 : decode cX4_pieceOf 178 = .ok (.iaload, 1) := by decide +kernel
theorem dX4_pieceOf_179 : decode cX4_pieceOf 179 = .ok (.ireturn, 1) := by decide +kernel
theorem dX4_pieceOf_180 : decode cX4_pieceOf 180 = .ok (.new 66, 3) := by decide +kernel
theorem dX4_pieceOf_183 : decode cX4_pieceOf 183 = .ok (.dup, 1) := by decide +kernel
theorem dX4_pieceOf_184 : decode cX4_pieceOf 184 = .ok (.ldc 187, 2) := by decide +kernel
theorem dX4_pieceOf_186 : decode cX4_pieceOf 186 = .ok (.invokespecial 70, 3) := by decide +kernel
theorem dX4_pieceOf_189 : decode cX4_pieceOf 189 = .ok (.athrow, 1) := by decide +kernel
set_option maxRecDepth 20000 in
theorem ggX4_isJoined_X4_isPiece : GoodIn wsX4_isJoined wsX4_isPiece := goodIn_r _ [8] (by decide +kernel) (by decide +kernel)
set_option maxRecDepth 20000 in
theorem gX4_isJoined_X4_isPiece : GoodIn wsX4_isJoined (va_wsS RX4 55 yX4_isPiece wsX4_isPiece) := goodIn_app (goodIn_of _ (by decide +kernel)) ggX4_isJoined_X4_isPiece
set_option maxRecDepth 20000 in
theorem ggX4_isJoined_X4_bit : GoodIn wsX4_isJoined wsX4_bit := goodIn_r _ [11] (by decide +kernel) (by decide +kernel)
set_option maxRecDepth 20000 in
theorem gX4_isJoined_X4_bit : GoodIn wsX4_isJoined (va_wsS RX4 85 yX4_bit wsX4_bit) := goodIn_app (goodIn_of _ (by decide +kernel)) ggX4_isJoined_X4_bit
theorem dX4_isJoined_0 : decode cX4_isJoined 0 = .ok (.iload_n 1, 1) := by decide +kernel
theorem dX4_isJoined_1 : decode cX4_isJoined 1 = .ok (.invokestatic 55, 3) := by decide +kernel
theorem dX4_isJoined_4 : decode cX4_isJoined 4 = .ok (.ifCond .eq 10, 3) := by decide +kernel
theorem dX4_isJoined_7 : decode cX4_isJoined 7 = .ok (.iload_n 2, 1) := by decide +kernel
theorem dX4_isJoined_8 : decode cX4_isJoined 8 = .ok (.invokestatic 55, 3) := by decide +kernel
theorem dX4_isJoined_11 : decode cX4_isJoined 11 = .ok (.ifCond .ne 13, 3) := by decide +kernel
theorem dX4_isJoined_14 : decode cX4_isJoined 14 = .ok (.new 59, 3) := by decide +kernel
theorem dX4_isJoined_17 : decode cX4_isJoined 17 = .ok (.dup, 1) := by decide +kernel
theorem dX4_isJoined_18 : decode cX4_isJoined 18 = .ok (.ldc 61, 2) := by decide +kernel
theorem dX4_isJoined_20 : decode cX4_isJoined 20 = .ok (.invokespecial 63, 3) := by decide +kernel
theorem dX4_isJoined_23 : decode cX4_isJoined 23 = .ok (.athrow, 1) := by decide +kernel
theorem dX4_isJoined_24 : decode cX4_isJoined 24 = .ok (.aload_n 0, 1) := by decide +kernel
theorem dX4_isJoined_25 : decode cX4_isJoined 25 = .ok (.getfield 12, 3) := by decide +kernel
theorem dX4_isJoined_28 : decode cX4_isJoined 28 = .ok (.getfield 82, 3) := by decide +kernel
theorem dX4_isJoined_31 : decode cX4_isJoined 31 = .ok (.iload_n 1, 1) := by decide +kernel
theorem dX4_isJoined_32 : decode cX4_isJoined 32 = .ok (.iaload, 1) := by decide +kernel
theorem dX4_isJoined_33 : decode cX4_isJoined 33 = .ok (.iload_n 2, 1) := by decide +kernel
theorem dX4_isJoined_34 : decode cX4_isJoined 34 = .ok (.invokestatic 85, 3) := by decide +kernel
theorem dX4_isJoined_37 : decode cX4_isJoined 37 = .ok (.ireturn, 1) := by decide +kernel
set_option maxRecDepth 20000 in
theorem ggX4_noted_J6_bitCount_0f7a4 : GoodIn wsX4_noted wsJ6_bitCount_0f7a4 := goodIn_r _ [10, 11, 12, 13] (by decide +kernel) (by decide +kernel)
set_option maxRecDepth 20000 in
theorem gX4_noted_J6_bitCount_0f7a4 : GoodIn wsX4_noted (va_wsS RX4 166 yJ6_bitCount_0f7a4 wsJ6_bitCount_0f7a4) := goodIn_app (goodIn_of _ (by decide +kernel)) ggX4_noted_J6_bitCount_0f7a4
theorem dX4_noted_0 : decode cX4_noted 0 = .ok (.iload_n 1, 1) := by decide +kernel
theorem dX4_noted_1 : decode cX4_noted 1 = .ok (.ifCond .lt 12, 3) := by decide +kernel
theorem dX4_noted_4 : decode cX4_noted 4 = .ok (.iload_n 2, 1) := by decide +kernel
theorem dX4_noted_5 : decode cX4_noted 5 = .ok (.ifCond .lt 8, 3) := by decide +kernel
theorem dX4_noted_8 : decode cX4_noted 8 = .ok (.iload_n 2, 1) := by decide +kernel
theorem dX4_noted_9 : decode cX4_noted 9 = .ok (.iconst 3, 1) := by decide +kernel
theorem dX4_noted_10 : decode cX4_noted 10 = .ok (.if_icmp .lt 13, 3) := by decide +kernel
theorem dX4_noted_13 : decode cX4_noted 13 = .ok (.new 66, 3) := by decide +kernel
theorem dX4_noted_16 : decode cX4_noted 16 = .ok (.dup, 1) := by decide +kernel
theorem dX4_noted_17 : decode cX4_noted 17 = .ok (.ldc 189, 2) := by decide +kernel
theorem dX4_noted_19 : decode cX4_noted 19 = .ok (.invokespecial 70, 3) := by decide +kernel
theorem dX4_noted_22 : decode cX4_noted 22 = .ok (.athrow, 1) := by decide +kernel
theorem dX4_noted_23 : decode cX4_noted 23 = .ok (.iload_n 1, 1) := by decide +kernel
theorem dX4_noted_24 : decode cX4_noted 24 = .ok (.aload_n 0, 1) := by decide +kernel
theorem dX4_noted_25 : decode cX4_noted 25 = .ok (.getfield 12, 3) := by decide +kernel
theorem dX4_noted_28 : decode cX4_noted 28 = .ok (.getfield 107, 3) := by decide +kernel
theorem dX4_noted_31 : decode cX4_noted 31 = .ok (.if_icmp .ge 9, 3) := by decide +kernel
theorem dX4_noted_34 : decode cX4_noted 34 = .ok (.iload_n 1, 1) := by decide +kernel
theorem dX4_noted_35 : decode cX4_noted 35 = .ok (.bipush 12, 2) := by decide +kernel
theorem dX4_noted_37 : decode cX4_noted 37 = .ok (.if_icmp .lt 5, 3) := by decide +kernel
theorem dX4_noted_40 : decode cX4_noted 40 = .ok (.iconst (-1), 1) := by decide +kernel
theorem dX4_noted_41 : decode cX4_noted 41 = .ok (.ireturn, 1) := by decide +kernel
theorem dX4_noted_42 : decode cX4_noted 42 = .ok (.iload_n 2, 1) := by decide +kernel
theorem dX4_noted_43 : decode cX4_noted 43 = .ok (.ifCond .ne 13, 3) := by decide +kernel
theorem dX4_noted_46 : decode cX4_noted 46 = .ok (.aload_n 0, 1) := by decide +kernel
theorem dX4_noted_47 : decode cX4_noted 47 = .ok (.getfield 12, 3) := by decide +kernel
theorem dX4_noted_50 : decode cX4_noted 50 = .ok (.getfield 191, 3) := by decide +kernel
theorem dX4_noted_53 : decode cX4_noted 53 = .ok (.iload_n 1, 1) := by decide +kernel
theorem dX4_noted_54 : decode cX4_noted 54 = .ok (.iaload, 1) := by decide +kernel
theorem dX4_noted_55 : decode cX4_noted 55 = .ok (.ireturn, 1) := by decide +kernel
theorem dX4_noted_56 : decode cX4_noted 56 = .ok (.iload_n 2, 1) := by decide +kernel
theorem dX4_noted_57 : decode cX4_noted 57 = .ok (.iconst 1, 1) := by decide +kernel
theorem dX4_noted_58 : decode cX4_noted 58 = .ok (.if_icmp .ne 15, 3) := by decide +kernel
theorem dX4_noted_61 : decode cX4_noted 61 = .ok (.aload_n 0, 1) := by decide +kernel
theorem dX4_noted_62 : decode cX4_noted 62 = .ok (.getfield 12, 3) := by decide +kernel
theorem dX4_noted_65 : decode cX4_noted 65 = .ok (.getfield 194, 3) := by decide +kernel
theorem dX4_noted_68 : decode cX4_noted 68 = .ok (.iload_n 1, 1) := by decide +kernel
theorem dX4_noted_69 : decode cX4_noted 69 = .ok (.iaload, 1) := by decide +kernel
theorem dX4_noted_70 : decode cX4_noted 70 = .ok (.goto 15, 3) := by decide +kernel
theorem dX4_noted_73 : decode cX4_noted 73 = .ok (.aload_n 0, 1) := by decide +kernel
theorem dX4_noted_74 : decode cX4_noted 74 = .ok (.getfield 12, 3) := by decide +kernel
theorem dX4_noted_77 : decode cX4_noted 77 = .ok (.getfield 194, 3) := by decide +kernel
theorem dX4_noted_80 : decode cX4_noted 80 = .ok (.iload_n 1, 1) := by decide +kernel
theorem dX4_noted_81 : decode cX4_noted 81 = .ok (.iaload, 1) := by decide +kernel
theorem dX4_noted_82 : decode cX4_noted 82 = .ok (.invokestatic 166, 3) := by decide +kernel
theorem dX4_noted_85 : decode cX4_noted 85 = .ok (.ireturn, 1) := by decide +kernel
set_option maxRecDepth 20000 in
theorem ggX4_count_X1_countJoins : GoodIn wsX4_count wsX1_countJoins := goodIn_r _ [18, 19, 20, 21, 22, 23, 24, 25, 26, 109, 110, 111, 112, 113, 114, 115, 116, 117, 118] (by decide +kernel) (by decide +kernel)
set_option maxRecDepth 20000 in
theorem gX4_count_X1_countJoins : GoodIn wsX4_count (wsV RX4 140 RX1 yX1_countJoins wsX1_countJoins) := goodIn_app (goodIn_of _ (by decide +kernel)) ggX4_count_X1_countJoins
set_option maxRecDepth 20000 in
theorem ggX4_count_X4_sum : GoodIn wsX4_count wsX4_sum := goodIn_r _ [30] (by decide +kernel) (by decide +kernel)
set_option maxRecDepth 20000 in
theorem gX4_count_X4_sum : GoodIn wsX4_count (va_wsS RX4 197 yX4_sum wsX4_sum) := goodIn_app (goodIn_of _ (by decide +kernel)) ggX4_count_X4_sum
set_option maxRecDepth 20000 in
theorem ggX4_count_X3_addUp : GoodIn wsX4_count wsX3_addUp := goodIn_r _ [35, 36, 37, 38, 39, 29, 40, 119, 120, 121, 122, 123, 124, 109, 110, 111, 112, 113, 114, 115, 116, 117, 118] (by decide +kernel) (by decide +kernel)
set_option maxRecDepth 20000 in
theorem gX4_count_X3_addUp : GoodIn wsX4_count (wsV RX4 201 RX3 yX3_addUp wsX3_addUp) := goodIn_app (goodIn_of _ (by decide +kernel)) ggX4_count_X3_addUp
set_option maxRecDepth 20000 in
theorem ggX4_count_X3_list : GoodIn wsX4_count wsX3_list := goodIn_r _ [44, 45, 46, 37, 47, 48, 49, 34, 50, 38, 51, 52, 53, 54, 17, 55, 56, 57, 19, 58, 59, 60, 61, 62, 63, 29, 64, 39, 40, 65, 66, 67, 68, 69, 70, 71, 72, 73, 74, 119, 120, 121, 122, 123, 124, 109, 110, 111, 112, 113, 114, 115, 116, 117, 118] (by decide +kernel) (by decide +kernel)
set_option maxRecDepth 20000 in
theorem gX4_count_X3_list : GoodIn wsX4_count (wsV RX4 96 RX3 yX3_list wsX3_list) := goodIn_app (goodIn_of _ (by decide +kernel)) ggX4_count_X3_list
set_option maxRecDepth 20000 in
theorem ggX4_count_X0_findBehind : GoodIn wsX4_count wsX0_findBehind := goodIn_r _ [79, 80, 81, 39, 29, 40, 125, 126, 127, 109, 110, 111, 112, 113, 114, 115, 116, 117, 118] (by decide +kernel) (by decide +kernel)
set_option maxRecDepth 20000 in
theorem gX4_count_X0_findBehind : GoodIn wsX4_count (wsV RX4 171 RX0 yX0_findBehind wsX0_findBehind) := goodIn_app (goodIn_of _ (by decide +kernel)) ggX4_count_X0_findBehind
set_option maxRecDepth 20000 in
theorem ggX4_count_X0_countByPairing : GoodIn wsX4_count wsX0_countByPairing := goodIn_r _ [85, 86, 87, 88, 89, 78, 90, 80, 63, 29, 64, 39, 40, 125, 126, 127] (by decide +kernel) (by decide +kernel)
set_option maxRecDepth 20000 in
theorem gX4_count_X0_countByPairing : GoodIn wsX4_count (wsV RX4 207 RX0 yX0_countByPairing wsX0_countByPairing) := goodIn_app (goodIn_of _ (by decide +kernel)) ggX4_count_X0_countByPairing
set_option maxRecDepth 20000 in
theorem ggX4_count_X0_countBySets : GoodIn wsX4_count wsX0_countBySets := goodIn_r _ [94, 95, 21, 22, 23, 24, 25, 26, 96, 97, 98, 78, 99, 80, 39, 29, 40, 125, 126, 127] (by decide +kernel) (by decide +kernel)
set_option maxRecDepth 20000 in
theorem gX4_count_X0_countBySets : GoodIn wsX4_count (wsV RX4 210 RX0 yX0_countBySets wsX0_countBySets) := goodIn_app (goodIn_of _ (by decide +kernel)) ggX4_count_X0_countBySets
theorem dX4_count_0 : decode cX4_count 0 = .ok (.iload_n 1, 1) := by decide +kernel
theorem dX4_count_1 : decode cX4_count 1 = .ok (.tableswitch 210 0 11 #[63, 71, 82, 93, 101, 113, 132, 151, 170, 189, 197, 205], 63) := by decide +kernel
theorem dX4_count_64 : decode cX4_count 64 = .ok (.aload_n 0, 1) := by decide +kernel
theorem dX4_count_65 : decode cX4_count 65 = .ok (.getfield 12, 3) := by decide +kernel
theorem dX4_count_68 : decode cX4_count 68 = .ok (.invokevirtual 140, 3) := by decide +kernel
theorem dX4_count_71 : decode cX4_count 71 = .ok (.ireturn, 1) := by decide +kernel
theorem dX4_count_72 : decode cX4_count 72 = .ok (.aload_n 0, 1) := by decide +kernel
theorem dX4_count_73 : decode cX4_count 73 = .ok (.getfield 12, 3) := by decide +kernel
theorem dX4_count_76 : decode cX4_count 76 = .ok (.getfield 74, 3) := by decide +kernel
theorem dX4_count_79 : decode cX4_count 79 = .ok (.invokestatic 197, 3) := by decide +kernel
theorem dX4_count_82 : decode cX4_count 82 = .ok (.ireturn, 1) := by decide +kernel
theorem dX4_count_83 : decode cX4_count 83 = .ok (.aload_n 0, 1) := by decide +kernel
theorem dX4_count_84 : decode cX4_count 84 = .ok (.getfield 12, 3) := by decide +kernel
theorem dX4_count_87 : decode cX4_count 87 = .ok (.getfield 159, 3) := by decide +kernel
theorem dX4_count_90 : decode cX4_count 90 = .ok (.invokestatic 197, 3) := by decide +kernel
theorem dX4_count_93 : decode cX4_count 93 = .ok (.ireturn, 1) := by decide +kernel
theorem dX4_count_94 : decode cX4_count 94 = .ok (.aload_n 0, 1) := by decide +kernel
theorem dX4_count_95 : decode cX4_count 95 = .ok (.getfield 12, 3) := by decide +kernel
theorem dX4_count_98 : decode cX4_count 98 = .ok (.getfield 107, 3) := by decide +kernel
theorem dX4_count_101 : decode cX4_count 101 = .ok (.ireturn, 1) := by decide +kernel
theorem dX4_count_102 : decode cX4_count 102 = .ok (.aload_n 0, 1) := by decide +kernel
theorem dX4_count_103 : decode cX4_count 103 = .ok (.getfield 40, 3) := by decide +kernel
theorem dX4_count_106 : decode cX4_count 106 = .ok (.aload_n 0, 1) := by decide +kernel
theorem dX4_count_107 : decode cX4_count 107 = .ok (.getfield 12, 3) := by decide +kernel
theorem dX4_count_110 : decode cX4_count 110 = .ok (.invokevirtual 201, 3) := by decide +kernel
theorem dX4_count_113 : decode cX4_count 113 = .ok (.ireturn, 1) := by decide +kernel
theorem dX4_count_114 : decode cX4_count 114 = .ok (.aload_n 0, 1) := by decide +kernel
theorem dX4_count_115 : decode cX4_count 115 = .ok (.getfield 40, 3) := by decide +kernel
theorem dX4_count_118 : decode cX4_count 118 = .ok (.aload_n 0, 1) := by decide +kernel
theorem dX4_count_119 : decode cX4_count 119 = .ok (.getfield 12, 3) := by decide +kernel
theorem dX4_count_122 : decode cX4_count 122 = .ok (.invokevirtual 96, 3) := by decide +kernel
theorem dX4_count_125 : decode cX4_count 125 = .ok (.aload_n 0, 1) := by decide +kernel
theorem dX4_count_126 : decode cX4_count 126 = .ok (.getfield 40, 3) := by decide +kernel
theorem dX4_count_129 : decode cX4_count 129 = .ok (.getfield 180, 3) := by decide +kernel
theorem dX4_count_132 : decode cX4_count 132 = .ok (.ireturn, 1) := by decide +kernel
theorem dX4_count_133 : decode cX4_count 133 = .ok (.aload_n 0, 1) := by decide +kernel
theorem dX4_count_134 : decode cX4_count 134 = .ok (.getfield 40, 3) := by decide +kernel
theorem dX4_count_137 : decode cX4_count 137 = .ok (.aload_n 0, 1) := by decide +kernel
theorem dX4_count_138 : decode cX4_count 138 = .ok (.getfield 12, 3) := by decide +kernel
theorem dX4_count_141 : decode cX4_count 141 = .ok (.invokevirtual 96, 3) := by decide +kernel
theorem dX4_count_144 : decode cX4_count 144 = .ok (.aload_n 0, 1) := by decide +kernel
theorem dX4_count_145 : decode cX4_count 145 = .ok (.getfield 40, 3) := by decide +kernel
theorem dX4_count_148 : decode cX4_count 148 = .ok (.getfield 204, 3) := by decide +kernel
theorem dX4_count_151 : decode cX4_count 151 = .ok (.ireturn, 1) := by decide +kernel
theorem dX4_count_152 : decode cX4_count 152 = .ok (.aload_n 0, 1) := by decide +kernel
theorem dX4_count_153 : decode cX4_count 153 = .ok (.getfield 47, 3) := by decide +kernel
theorem dX4_count_156 : decode cX4_count 156 = .ok (.aload_n 0, 1) := by decide +kernel
theorem dX4_count_157 : decode cX4_count 157 = .ok (.getfield 12, 3) := by decide +kernel
theorem dX4_count_160 : decode cX4_count 160 = .ok (.invokevirtual 171, 3) := by decide +kernel
theorem dX4_count_163 : decode cX4_count 163 = .ok (.aload_n 0, 1) := by decide +kernel
theorem dX4_count_164 : decode cX4_count 164 = .ok (.getfield 47, 3) := by decide +kernel
theorem dX4_count_167 : decode cX4_count 167 = .ok (.invokevirtual 207, 3) := by decide +kernel
theorem dX4_count_170 : decode cX4_count 170 = .ok (.ireturn, 1) := by decide +kernel
theorem dX4_count_171 : decode cX4_count 171 = .ok (.aload_n 0, 1) := by decide +kernel
theorem dX4_count_172 : decode cX4_count 172 = .ok (.getfield 47, 3) := by decide +kernel
theorem dX4_count_175 : decode cX4_count 175 = .ok (.aload_n 0, 1) := by decide +kernel
theorem dX4_count_176 : decode cX4_count 176 = .ok (.getfield 12, 3) := by decide +kernel
theorem dX4_count_179 : decode cX4_count 179 = .ok (.invokevirtual 171, 3) := by decide +kernel
theorem dX4_count_182 : decode cX4_count 182 = .ok (.aload_n 0, 1) := by decide +kernel
theorem dX4_count_183 : decode cX4_count 183 = .ok (.getfield 47, 3) := by decide +kernel
theorem dX4_count_186 : decode cX4_count 186 = .ok (.invokevirtual 210, 3) := by decide +kernel
theorem dX4_count_189 : decode cX4_count 189 = .ok (.ireturn, 1) := by decide +kernel
theorem dX4_count_190 : decode cX4_count 190 = .ok (.aload_n 0, 1) := by decide +kernel
theorem dX4_count_191 : decode cX4_count 191 = .ok (.getfield 12, 3) := by decide +kernel
theorem dX4_count_194 : decode cX4_count 194 = .ok (.getfield 213, 3) := by decide +kernel
theorem dX4_count_197 : decode cX4_count 197 = .ok (.ireturn, 1) := by decide +kernel
theorem dX4_count_198 : decode cX4_count 198 = .ok (.aload_n 0, 1) := by decide +kernel
theorem dX4_count_199 : decode cX4_count 199 = .ok (.getfield 12, 3) := by decide +kernel
theorem dX4_count_202 : decode cX4_count 202 = .ok (.getfield 216, 3) := by decide +kernel
theorem dX4_count_205 : decode cX4_count 205 = .ok (.ireturn, 1) := by decide +kernel
theorem dX4_count_206 : decode cX4_count 206 = .ok (.aload_n 0, 1) := by decide +kernel
theorem dX4_count_207 : decode cX4_count 207 = .ok (.getfield 154, 3) := by decide +kernel
theorem dX4_count_210 : decode cX4_count 210 = .ok (.ireturn, 1) := by decide +kernel
theorem dX4_count_211 : decode cX4_count 211 = .ok (.new 66, 3) := by decide +kernel
theorem dX4_count_214 : decode cX4_count 214 = .ok (.dup, 1) := by decide +kernel
theorem dX4_count_215 : decode cX4_count 215 = .ok (.ldc 219, 2) := by decide +kernel
theorem dX4_count_217 : decode cX4_count 217 = .ok (.invokespecial 70, 3) := by decide +kernel
theorem dX4_count_220 : decode cX4_count 220 = .ok (.athrow, 1) := by decide +kernel
set_option maxRecDepth 20000 in
theorem ggX4_heaviest_X3_list : GoodIn wsX4_heaviest wsX3_list := goodIn_r _ [9, 10, 11, 12, 13, 14, 15, 8, 16, 17, 18, 19, 20, 21, 22, 23, 24, 25, 26, 27, 28, 29, 30, 31, 32, 33, 34, 35, 36, 37, 38, 39, 40, 41, 42, 43, 44, 45, 46, 67, 68, 69, 70, 71, 72, 73, 74, 75, 76, 77, 78, 79, 80, 81, 82] (by decide +kernel) (by decide +kernel)
set_option maxRecDepth 20000 in
theorem gX4_heaviest_X3_list : GoodIn wsX4_heaviest (wsV RX4 96 RX3 yX3_list wsX3_list) := goodIn_app (goodIn_of _ (by decide +kernel)) ggX4_heaviest_X3_list
set_option maxRecDepth 20000 in
theorem ggX4_heaviest_X4_findHeaviest : GoodIn wsX4_heaviest wsX4_findHeaviest := goodIn_r _ [50, 3, 51, 52, 53, 54, 55, 22, 56, 57, 35, 33, 36, 58, 59, 60, 61, 62, 63, 64, 65, 66, 67, 68, 69, 70, 71, 72, 73, 74, 75, 76, 77, 78, 79, 80, 81, 82] (by decide +kernel) (by decide +kernel)
set_option maxRecDepth 20000 in
theorem gX4_heaviest_X4_findHeaviest : GoodIn wsX4_heaviest (wsV RX4 223 RX4 yX4_findHeaviest wsX4_findHeaviest) := goodIn_app (goodIn_of _ (by decide +kernel)) ggX4_heaviest_X4_findHeaviest
set_option maxRecDepth 20000 in
theorem ggX4_heaviest_X1_weightOf : GoodIn wsX4_heaviest wsX1_weightOf := goodIn_r _ [56, 57, 35, 33, 36, 73, 74, 75, 76, 77, 78, 79, 80, 81, 82] (by decide +kernel) (by decide +kernel)
set_option maxRecDepth 20000 in
theorem gX4_heaviest_X1_weightOf : GoodIn wsX4_heaviest (wsV RX4 226 RX1 yX1_weightOf wsX1_weightOf) := goodIn_app (goodIn_of _ (by decide +kernel)) ggX4_heaviest_X1_weightOf
theorem dX4_heaviest_0 : decode cX4_heaviest 0 = .ok (.iload_n 1, 1) := by decide +kernel
theorem dX4_heaviest_1 : decode cX4_heaviest 1 = .ok (.ifCond .eq 18, 3) := by decide +kernel
theorem dX4_heaviest_4 : decode cX4_heaviest 4 = .ok (.iload_n 1, 1) := by decide +kernel
theorem dX4_heaviest_5 : decode cX4_heaviest 5 = .ok (.iconst 1, 1) := by decide +kernel
theorem dX4_heaviest_6 : decode cX4_heaviest 6 = .ok (.if_icmp .eq 13, 3) := by decide +kernel
theorem dX4_heaviest_9 : decode cX4_heaviest 9 = .ok (.new 66, 3) := by decide +kernel
theorem dX4_heaviest_12 : decode cX4_heaviest 12 = .ok (.dup, 1) := by decide +kernel
theorem dX4_heaviest_13 : decode cX4_heaviest 13 = .ok (.ldc 221, 2) := by decide +kernel
theorem dX4_heaviest_15 : decode cX4_heaviest 15 = .ok (.invokespecial 70, 3) := by decide +kernel
theorem dX4_heaviest_18 : decode cX4_heaviest 18 = .ok (.athrow, 1) := by decide +kernel
theorem dX4_heaviest_19 : decode cX4_heaviest 19 = .ok (.aload_n 0, 1) := by decide +kernel
theorem dX4_heaviest_20 : decode cX4_heaviest 20 = .ok (.getfield 40, 3) := by decide +kernel
theorem dX4_heaviest_23 : decode cX4_heaviest 23 = .ok (.aload_n 0, 1) := by decide +kernel
theorem dX4_heaviest_24 : decode cX4_heaviest 24 = .ok (.getfield 12, 3) := by decide +kernel
theorem dX4_heaviest_27 : decode cX4_heaviest 27 = .ok (.invokevirtual 96, 3) := by decide +kernel
theorem dX4_heaviest_30 : decode cX4_heaviest 30 = .ok (.aload_n 0, 1) := by decide +kernel
theorem dX4_heaviest_31 : decode cX4_heaviest 31 = .ok (.aload_n 0, 1) := by decide +kernel
theorem dX4_heaviest_32 : decode cX4_heaviest 32 = .ok (.getfield 12, 3) := by decide +kernel
theorem dX4_heaviest_35 : decode cX4_heaviest 35 = .ok (.invokevirtual 223, 3) := by decide +kernel
theorem dX4_heaviest_38 : decode cX4_heaviest 38 = .ok (.istore_n 2, 1) := by decide +kernel
theorem dX4_heaviest_39 : decode cX4_heaviest 39 = .ok (.iload_n 2, 1) := by decide +kernel
theorem dX4_heaviest_40 : decode cX4_heaviest 40 = .ok (.iconst (-1), 1) := by decide +kernel
theorem dX4_heaviest_41 : decode cX4_heaviest 41 = .ok (.if_icmp .eq 8, 3) := by decide +kernel
theorem dX4_heaviest_44 : decode cX4_heaviest 44 = .ok (.iload_n 1, 1) := by decide +kernel
theorem dX4_heaviest_45 : decode cX4_heaviest 45 = .ok (.iconst 1, 1) := by decide +kernel
theorem dX4_heaviest_46 : decode cX4_heaviest 46 = .ok (.if_icmp .ne 5, 3) := by decide +kernel
theorem dX4_heaviest_49 : decode cX4_heaviest 49 = .ok (.iload_n 2, 1) := by decide +kernel
theorem dX4_heaviest_50 : decode cX4_heaviest 50 = .ok (.ireturn, 1) := by decide +kernel
theorem dX4_heaviest_51 : decode cX4_heaviest 51 = .ok (.aload_n 0, 1) := by decide +kernel
theorem dX4_heaviest_52 : decode cX4_heaviest 52 = .ok (.getfield 12, 3) := by decide +kernel
theorem dX4_heaviest_55 : decode cX4_heaviest 55 = .ok (.iload_n 2, 1) := by decide +kernel
theorem dX4_heaviest_56 : decode cX4_heaviest 56 = .ok (.invokevirtual 226, 3) := by decide +kernel
theorem dX4_heaviest_59 : decode cX4_heaviest 59 = .ok (.ireturn, 1) := by decide +kernel
set_option maxRecDepth 20000 in
theorem ggX4_openWay_X3_list : GoodIn wsX4_openWay wsX3_list := goodIn_r _ [11, 12, 13, 14, 15, 16, 17, 10, 18, 19, 20, 21, 22, 23, 24, 25, 26, 27, 28, 29, 30, 31, 32, 33, 34, 35, 36, 37, 38, 39, 40, 41, 42, 43, 44, 45, 46, 47, 48, 58, 59, 60, 61, 62, 63, 64, 65, 66, 67, 68, 69, 70, 71, 72, 73] (by decide +kernel) (by decide +kernel)
set_option maxRecDepth 20000 in
theorem gX4_openWay_X3_list : GoodIn wsX4_openWay (wsV RX4 96 RX3 yX3_list wsX3_list) := goodIn_app (goodIn_of _ (by decide +kernel)) ggX4_openWay_X3_list
theorem dX4_openWay_0 : decode cX4_openWay 0 = .ok (.iload_n 1, 1) := by decide +kernel
theorem dX4_openWay_1 : decode cX4_openWay 1 = .ok (.ifCond .ge 13, 3) := by decide +kernel
theorem dX4_openWay_4 : decode cX4_openWay 4 = .ok (.new 66, 3) := by decide +kernel
theorem dX4_openWay_7 : decode cX4_openWay 7 = .ok (.dup, 1) := by decide +kernel
theorem dX4_openWay_8 : decode cX4_openWay 8 = .ok (.ldc 229, 2) := by decide +kernel
theorem dX4_openWay_10 : decode cX4_openWay 10 = .ok (.invokespecial 70, 3) := by decide +kernel
theorem dX4_openWay_13 : decode cX4_openWay 13 = .ok (.athrow, 1) := by decide +kernel
theorem dX4_openWay_14 : decode cX4_openWay 14 = .ok (.aload_n 0, 1) := by decide +kernel
theorem dX4_openWay_15 : decode cX4_openWay 15 = .ok (.getfield 40, 3) := by decide +kernel
theorem dX4_openWay_18 : decode cX4_openWay 18 = .ok (.aload_n 0, 1) := by decide +kernel
theorem dX4_openWay_19 : decode cX4_openWay 19 = .ok (.getfield 12, 3) := by decide +kernel
theorem dX4_openWay_22 : decode cX4_openWay 22 = .ok (.invokevirtual 96, 3) := by decide +kernel
theorem dX4_openWay_25 : decode cX4_openWay 25 = .ok (.iload_n 1, 1) := by decide +kernel
theorem dX4_openWay_26 : decode cX4_openWay 26 = .ok (.aload_n 0, 1) := by decide +kernel
theorem dX4_openWay_27 : decode cX4_openWay 27 = .ok (.getfield 40, 3) := by decide +kernel
theorem dX4_openWay_30 : decode cX4_openWay 30 = .ok (.getfield 204, 3) := by decide +kernel
theorem dX4_openWay_33 : decode cX4_openWay 33 = .ok (.if_icmp .ge 22, 3) := by decide +kernel
theorem dX4_openWay_36 : decode cX4_openWay 36 = .ok (.iload_n 1, 1) := by decide +kernel
theorem dX4_openWay_37 : decode cX4_openWay 37 = .ok (.sipush 512, 3) := by decide +kernel
theorem dX4_openWay_40 : decode cX4_openWay 40 = .ok (.if_icmp .ge 15, 3) := by decide +kernel
theorem dX4_openWay_43 : decode cX4_openWay 43 = .ok (.aload_n 0, 1) := by decide +kernel
theorem dX4_openWay_44 : decode cX4_openWay 44 = .ok (.getfield 40, 3) := by decide +kernel
theorem dX4_openWay_47 : decode cX4_openWay 47 = .ok (.getfield 231, 3) := by decide +kernel
theorem dX4_openWay_50 : decode cX4_openWay 50 = .ok (.iload_n 1, 1) := by decide +kernel
theorem dX4_openWay_51 : decode cX4_openWay 51 = .ok (.iaload, 1) := by decide +kernel
theorem dX4_openWay_52 : decode cX4_openWay 52 = .ok (.goto 4, 3) := by decide +kernel
theorem dX4_openWay_55 : decode cX4_openWay 55 = .ok (.iconst (-1), 1) := by decide +kernel
theorem dX4_openWay_56 : decode cX4_openWay 56 = .ok (.ireturn, 1) := by decide +kernel
set_option maxRecDepth 20000 in
theorem ggX4_ifSplit_X4_copyState : GoodIn wsX4_ifSplit wsX4_copyState := goodIn_r _ [8, 9, 10, 11, 12, 13, 14, 15, 16, 17, 18, 19, 20, 21, 22, 23, 24, 25, 26, 27, 97, 98, 99, 100, 101, 102, 103, 104, 105, 106] (by decide +kernel) (by decide +kernel)
set_option maxRecDepth 20000 in
theorem gX4_ifSplit_X4_copyState : GoodIn wsX4_ifSplit (va_wsS RX4 148 yX4_copyState wsX4_copyState) := goodIn_app (goodIn_of _ (by decide +kernel)) ggX4_ifSplit_X4_copyState
set_option maxRecDepth 20000 in
theorem ggX4_ifSplit_X3_list : GoodIn wsX4_ifSplit wsX3_list := goodIn_r _ [32, 33, 34, 35, 36, 37, 38, 31, 39, 40, 41, 42, 10, 11, 12, 13, 14, 15, 16, 17, 43, 44, 45, 46, 47, 7, 48, 49, 50, 51, 52, 53, 54, 55, 56, 57, 58, 59, 60, 107, 108, 109, 110, 111, 112, 97, 98, 99, 100, 101, 102, 103, 104, 105, 106] (by decide +kernel) (by decide +kernel)
set_option maxRecDepth 20000 in
theorem gX4_ifSplit_X3_list : GoodIn wsX4_ifSplit (wsV RX4 96 RX3 yX3_list wsX3_list) := goodIn_app (goodIn_of _ (by decide +kernel)) ggX4_ifSplit_X3_list
set_option maxRecDepth 20000 in
theorem ggX4_ifSplit_X4_takeAll : GoodIn wsX4_ifSplit wsX4_takeAll := goodIn_r _ [64, 65, 66, 67, 7, 68, 69, 70, 71, 72, 73, 74, 3, 75, 76, 77, 78, 79, 12, 80, 22, 49, 50, 81, 82, 83, 84, 25, 23, 24, 26, 97, 98, 99, 100, 101, 102, 103, 104, 105, 106, 88, 89, 90, 91, 92, 93, 94, 95, 96, 107, 108, 109, 110, 111, 112] (by decide +kernel) (by decide +kernel)
set_option maxRecDepth 20000 in
theorem gX4_ifSplit_X4_takeAll : GoodIn wsX4_ifSplit (wsV RX4 104 RX4 yX4_takeAll wsX4_takeAll) := goodIn_app (goodIn_of _ (by decide +kernel)) ggX4_ifSplit_X4_takeAll
set_option maxRecDepth 20000 in
theorem ggX4_ifSplit_X4_sum : GoodIn wsX4_ifSplit wsX4_sum := goodIn_r _ [87] (by decide +kernel) (by decide +kernel)
set_option maxRecDepth 20000 in
theorem gX4_ifSplit_X4_sum : GoodIn wsX4_ifSplit (va_wsS RX4 197 yX4_sum wsX4_sum) := goodIn_app (goodIn_of _ (by decide +kernel)) ggX4_ifSplit_X4_sum
theorem dX4_ifSplit_0 : decode cX4_ifSplit 0 = .ok (.aload_n 0, 1) := by decide +kernel
theorem dX4_ifSplit_1 : decode cX4_ifSplit 1 = .ok (.getfield 12, 3) := by decide +kernel
theorem dX4_ifSplit_4 : decode cX4_ifSplit 4 = .ok (.aload_n 0, 1) := by decide +kernel
theorem dX4_ifSplit_5 : decode cX4_ifSplit 5 = .ok (.getfield 16, 3) := by decide +kernel
theorem dX4_ifSplit_8 : decode cX4_ifSplit 8 = .ok (.invokestatic 148, 3) := by decide +kernel
theorem dX4_ifSplit_11 : decode cX4_ifSplit 11 = .ok (.aload_n 0, 1) := by decide +kernel
theorem dX4_ifSplit_12 : decode cX4_ifSplit 12 = .ok (.getfield 40, 3) := by decide +kernel
theorem dX4_ifSplit_15 : decode cX4_ifSplit 15 = .ok (.aload_n 0, 1) := by decide +kernel
theorem dX4_ifSplit_16 : decode cX4_ifSplit 16 = .ok (.getfield 16, 3) := by decide +kernel
theorem dX4_ifSplit_19 : decode cX4_ifSplit 19 = .ok (.invokevirtual 96, 3) := by decide +kernel
theorem dX4_ifSplit_22 : decode cX4_ifSplit 22 = .ok (.aload_n 0, 1) := by decide +kernel
theorem dX4_ifSplit_23 : decode cX4_ifSplit 23 = .ok (.aload_n 0, 1) := by decide +kernel
theorem dX4_ifSplit_24 : decode cX4_ifSplit 24 = .ok (.getfield 16, 3) := by decide +kernel
theorem dX4_ifSplit_27 : decode cX4_ifSplit 27 = .ok (.invokevirtual 104, 3) := by decide +kernel
theorem dX4_ifSplit_30 : decode cX4_ifSplit 30 = .ok (.pop, 1) := by decide +kernel
theorem dX4_ifSplit_31 : decode cX4_ifSplit 31 = .ok (.aload_n 0, 1) := by decide +kernel
theorem dX4_ifSplit_32 : decode cX4_ifSplit 32 = .ok (.getfield 16, 3) := by decide +kernel
theorem dX4_ifSplit_35 : decode cX4_ifSplit 35 = .ok (.getfield 159, 3) := by decide +kernel
theorem dX4_ifSplit_38 : decode cX4_ifSplit 38 = .ok (.invokestatic 197, 3) := by decide +kernel
theorem dX4_ifSplit_41 : decode cX4_ifSplit 41 = .ok (.ireturn, 1) := by decide +kernel
set_option maxRecDepth 20000 in
theorem ggX4_mainPiece_X3_list : GoodIn wsX4_mainPiece wsX3_list := goodIn_r _ [9, 10, 11, 12, 13, 14, 15, 8, 16, 17, 18, 19, 20, 21, 22, 23, 24, 25, 26, 27, 28, 29, 30, 31, 32, 33, 34, 35, 36, 37, 38, 39, 40, 41, 42, 43, 44, 45, 46, 60, 61, 62, 63, 64, 65, 66, 67, 68, 69, 70, 71, 72, 73, 74, 75] (by decide +kernel) (by decide +kernel)
set_option maxRecDepth 20000 in
theorem gX4_mainPiece_X3_list : GoodIn wsX4_mainPiece (wsV RX4 96 RX3 yX3_list wsX3_list) := goodIn_app (goodIn_of _ (by decide +kernel)) ggX4_mainPiece_X3_list
set_option maxRecDepth 20000 in
theorem ggX4_mainPiece_X4_countWith : GoodIn wsX4_mainPiece wsX4_countWith := goodIn_r _ [49, 50, 35, 33, 36] (by decide +kernel) (by decide +kernel)
set_option maxRecDepth 20000 in
theorem gX4_mainPiece_X4_countWith : GoodIn wsX4_mainPiece (va_wsS RX4 183 yX4_countWith wsX4_countWith) := goodIn_app (goodIn_of _ (by decide +kernel)) ggX4_mainPiece_X4_countWith
theorem dX4_mainPiece_0 : decode cX4_mainPiece 0 = .ok (.aload_n 0, 1) := by decide +kernel
theorem dX4_mainPiece_1 : decode cX4_mainPiece 1 = .ok (.getfield 40, 3) := by decide +kernel
theorem dX4_mainPiece_4 : decode cX4_mainPiece 4 = .ok (.aload_n 0, 1) := by decide +kernel
theorem dX4_mainPiece_5 : decode cX4_mainPiece 5 = .ok (.getfield 12, 3) := by decide +kernel
theorem dX4_mainPiece_8 : decode cX4_mainPiece 8 = .ok (.invokevirtual 96, 3) := by decide +kernel
theorem dX4_mainPiece_11 : decode cX4_mainPiece 11 = .ok (.iconst (-1), 1) := by decide +kernel
theorem dX4_mainPiece_12 : decode cX4_mainPiece 12 = .ok (.istore_n 1, 1) := by decide +kernel
theorem dX4_mainPiece_13 : decode cX4_mainPiece 13 = .ok (.iconst 0, 1) := by decide +kernel
theorem dX4_mainPiece_14 : decode cX4_mainPiece 14 = .ok (.istore_n 2, 1) := by decide +kernel
theorem dX4_mainPiece_15 : decode cX4_mainPiece 15 = .ok (.iconst 0, 1) := by decide +kernel
theorem dX4_mainPiece_16 : decode cX4_mainPiece 16 = .ok (.istore_n 3, 1) := by decide +kernel
theorem dX4_mainPiece_17 : decode cX4_mainPiece 17 = .ok (.iload_n 3, 1) := by decide +kernel
theorem dX4_mainPiece_18 : decode cX4_mainPiece 18 = .ok (.bipush 9, 2) := by decide +kernel
theorem dX4_mainPiece_20 : decode cX4_mainPiece 20 = .ok (.if_icmp .ge 40, 3) := by decide +kernel
theorem dX4_mainPiece_23 : decode cX4_mainPiece 23 = .ok (.aload_n 0, 1) := by decide +kernel
theorem dX4_mainPiece_24 : decode cX4_mainPiece 24 = .ok (.getfield 40, 3) := by decide +kernel
theorem dX4_mainPiece_27 : decode cX4_mainPiece 27 = .ok (.getfield 231, 3) := by decide +kernel
theorem dX4_mainPiece_30 : decode cX4_mainPiece 30 = .ok (.aload_n 0, 1) := by decide +kernel
theorem dX4_mainPiece_31 : decode cX4_mainPiece 31 = .ok (.getfield 40, 3) := by decide +kernel
theorem dX4_mainPiece_34 : decode cX4_mainPiece 34 = .ok (.getfield 204, 3) := by decide +kernel
theorem dX4_mainPiece_37 : decode cX4_mainPiece 37 = .ok (.iload_n 3, 1) := by decide +kernel
theorem dX4_mainPiece_38 : decode cX4_mainPiece 38 = .ok (.invokestatic 183, 3) := by decide +kernel
theorem dX4_mainPiece_41 : decode cX4_mainPiece 41 = .ok (.istore 4, 2) := by decide +kernel
theorem dX4_mainPiece_43 : decode cX4_mainPiece 43 = .ok (.iload 4, 2) := by decide +kernel
theorem dX4_mainPiece_45 : decode cX4_mainPiece 45 = .ok (.iload_n 2, 1) := by decide +kernel
theorem dX4_mainPiece_46 : decode cX4_mainPiece 46 = .ok (.if_icmp .le 8, 3) := by decide +kernel
theorem dX4_mainPiece_49 : decode cX4_mainPiece 49 = .ok (.iload 4, 2) := by decide +kernel
theorem dX4_mainPiece_51 : decode cX4_mainPiece 51 = .ok (.istore_n 2, 1) := by decide +kernel
theorem dX4_mainPiece_52 : decode cX4_mainPiece 52 = .ok (.iload_n 3, 1) := by decide +kernel
theorem dX4_mainPiece_53 : decode cX4_mainPiece 53 = .ok (.istore_n 1, 1) := by decide +kernel
theorem dX4_mainPiece_54 : decode cX4_mainPiece 54 = .ok (.iinc 3 1, 3) := by decide +kernel
theorem dX4_mainPiece_57 : decode cX4_mainPiece 57 = .ok (.goto (-40), 3) := by decide +kernel
theorem dX4_mainPiece_60 : decode cX4_mainPiece 60 = .ok (.iload_n 1, 1) := by decide +kernel
theorem dX4_mainPiece_61 : decode cX4_mainPiece 61 = .ok (.ireturn, 1) := by decide +kernel
set_option maxRecDepth 20000 in
theorem ggX4_explained_X4_sum : GoodIn wsX4_explained wsX4_sum := goodIn_r _ [7] (by decide +kernel) (by decide +kernel)
set_option maxRecDepth 20000 in
theorem gX4_explained_X4_sum : GoodIn wsX4_explained (va_wsS RX4 197 yX4_sum wsX4_sum) := goodIn_app (goodIn_of _ (by decide +kernel)) ggX4_explained_X4_sum
theorem dX4_explained_0 : decode cX4_explained 0 = .ok (.aload_n 0, 1) := by decide +kernel
theorem dX4_explained_1 : decode cX4_explained 1 = .ok (.getfield 12, 3) := by decide +kernel
theorem dX4_explained_4 : decode cX4_explained 4 = .ok (.getfield 74, 3) := by decide +kernel
theorem dX4_explained_7 : decode cX4_explained 7 = .ok (.invokestatic 197, 3) := by decide +kernel
theorem dX4_explained_10 : decode cX4_explained 10 = .ok (.istore_n 1, 1) := by decide +kernel
theorem dX4_explained_11 : decode cX4_explained 11 = .ok (.iload_n 1, 1) := by decide +kernel
theorem dX4_explained_12 : decode cX4_explained 12 = .ok (.ifCond .gt 5, 3) := by decide +kernel
theorem dX4_explained_15 : decode cX4_explained 15 = .ok (.dconst 1, 1) := by decide +kernel
theorem dX4_explained_16 : decode cX4_explained 16 = .ok (.dreturn, 1) := by decide +kernel
theorem dX4_explained_17 : decode cX4_explained 17 = .ok (.iload_n 1, 1) := by decide +kernel
theorem dX4_explained_18 : decode cX4_explained 18 = .ok (.aload_n 0, 1) := by decide +kernel
theorem dX4_explained_19 : decode cX4_explained 19 = .ok (.getfield 12, 3) := by decide +kernel
theorem dX4_explained_22 : decode cX4_explained 22 = .ok (.getfield 159, 3) := by decide +kernel
theorem dX4_explained_25 : decode cX4_explained 25 = .ok (.invokestatic 197, 3) := by decide +kernel
theorem dX4_explained_28 : decode cX4_explained 28 = .ok (.isub, 1) := by decide +kernel
theorem dX4_explained_29 : decode cX4_explained 29 = .ok (.i2d, 1) := by decide +kernel
theorem dX4_explained_30 : decode cX4_explained 30 = .ok (.iload_n 1, 1) := by decide +kernel
theorem dX4_explained_31 : decode cX4_explained 31 = .ok (.i2d, 1) := by decide +kernel
theorem dX4_explained_32 : decode cX4_explained 32 = .ok (.ddiv, 1) := by decide +kernel
theorem dX4_explained_33 : decode cX4_explained 33 = .ok (.dreturn, 1) := by decide +kernel
set_option maxRecDepth 20000 in
theorem ggX4_digest_X4_count : GoodIn wsX4_digest wsX4_count := goodIn_ca (goodIn_r _ [9, 10, 11, 2, 12, 13, 3, 14, 15, 16, 17, 18, 19, 20, 21, 22, 23, 24, 25, 26, 27, 28, 29, 30, 31, 32, 33, 34, 35, 8, 36, 37, 38, 39, 40, 41, 42, 43, 44, 45, 46, 47, 48, 49, 50, 51, 52, 53, 54, 55, 56, 57, 58, 59, 60, 61, 62, 63, 64, 65, 66, 67, 68, 69, 70, 71, 72, 73, 74, 75, 76, 77, 78, 79, 80, 81, 82, 83, 84, 85, 86, 87, 88, 89, 90, 91, 92, 93, 94, 95, 96, 97, 98, 99, 100, 101, 102, 103, 104, 105, 214, 215, 216, 217, 218, 219, 220, 221, 222, 223, 224, 225, 226, 227, 228, 229, 230, 231, 232, 233, 234, 235, 236, 237, 238, 239, 240, 241] (by decide +kernel) (by decide +kernel)) (goodIn_sub (fun _ h => List.mem_cons_of_mem _ (List.mem_append_left _ (List.mem_append_right _ h))) (by decide +kernel))
set_option maxRecDepth 20000 in
theorem gX4_digest_X4_count : GoodIn wsX4_digest (wsV RX4 236 RX4 yX4_count wsX4_count) := goodIn_app (goodIn_of _ (by decide +kernel)) ggX4_digest_X4_count
set_option maxRecDepth 20000 in
theorem ggX4_digest_X4_mix : GoodIn wsX4_digest wsX4_mix := goodIn_r _ [108, 109] (by decide +kernel) (by decide +kernel)
set_option maxRecDepth 20000 in
theorem gX4_digest_X4_mix : GoodIn wsX4_digest (va_wsS RX4 239 yX4_mix wsX4_mix) := goodIn_app (goodIn_of _ (by decide +kernel)) ggX4_digest_X4_mix
set_option maxRecDepth 20000 in
theorem ggX4_digest_X4_mixPiece : GoodIn wsX4_digest wsX4_mixPiece := goodIn_ca (goodIn_ca (goodIn_r _ [113, 114, 115, 116, 8, 117, 118, 119, 10, 11, 2, 12, 13, 120, 121, 17, 122, 14, 123, 15, 124, 125, 69, 70, 126, 127, 128, 24, 129, 26, 45, 46, 130, 28, 29, 30, 31, 32, 33, 81, 82, 83, 84, 85, 86, 87, 47, 48, 49, 40, 50, 51, 52, 43, 53, 54, 55, 56, 44, 57, 58, 59, 60, 61, 62, 63, 64, 65, 66, 67, 68, 71, 72, 73, 74, 75, 76, 77, 78, 79, 80, 131, 132, 133, 134, 106, 107, 108, 109, 135, 136, 137, 138, 214, 215, 216, 217, 218, 219, 220, 221, 222, 223, 224, 225, 226, 227, 228, 229, 230, 231, 232, 239, 240, 241, 233, 234, 235, 236, 237, 238] (by decide +kernel) (by decide +kernel)) (goodIn_sub (fun _ h => List.mem_cons_of_mem _ (List.mem_append_right _ h)) (by decide +kernel))) (goodIn_sub (fun _ h => List.mem_cons_of_mem _ (List.mem_append_left _ (List.mem_append_right _ h))) (by decide +kernel))
set_option maxRecDepth 20000 in
theorem gX4_digest_X4_mixPiece : GoodIn wsX4_digest (wsV RX4 243 RX4 yX4_mixPiece wsX4_mixPiece) := goodIn_app (goodIn_of _ (by decide +kernel)) ggX4_digest_X4_mixPiece
set_option maxRecDepth 20000 in
theorem ggX4_digest_X4_noted : GoodIn wsX4_digest wsX4_noted := goodIn_ca (goodIn_r _ [142, 10, 11, 2, 3, 143, 144, 130, 28, 29, 30, 31, 32, 33, 214, 215, 216, 217, 218, 219, 220, 221, 222, 223, 224, 225, 226, 227, 228, 229, 230, 231, 232] (by decide +kernel) (by decide +kernel)) (goodIn_sub (fun _ h => List.mem_cons_of_mem _ (List.mem_append_left _ (List.mem_append_right _ h))) (by decide +kernel))
set_option maxRecDepth 20000 in
theorem gX4_digest_X4_noted : GoodIn wsX4_digest (wsV RX4 247 RX4 yX4_noted wsX4_noted) := goodIn_app (goodIn_of _ (by decide +kernel)) ggX4_digest_X4_noted
set_option maxRecDepth 20000 in
theorem ggX4_digest_X4_heaviest : GoodIn wsX4_digest wsX4_heaviest := goodIn_ca (goodIn_r _ [148, 10, 11, 14, 2, 47, 48, 49, 40, 50, 51, 52, 43, 53, 54, 55, 56, 44, 57, 58, 59, 60, 24, 61, 62, 63, 26, 64, 65, 66, 67, 68, 69, 8, 70, 45, 46, 71, 72, 73, 74, 75, 76, 77, 78, 79, 80, 149, 150, 151, 152, 16, 153, 154, 155, 156, 157, 158, 214, 215, 216, 217, 218, 219, 220, 221, 222, 233, 234, 235, 236, 237, 238, 223, 224, 225, 226, 227, 228, 229, 230, 231, 232] (by decide +kernel) (by decide +kernel)) (goodIn_sub (fun _ h => List.mem_cons_of_mem _ (List.mem_append_left _ (List.mem_append_right _ h))) (by decide +kernel))
set_option maxRecDepth 20000 in
theorem gX4_digest_X4_heaviest : GoodIn wsX4_digest (wsV RX4 250 RX4 yX4_heaviest wsX4_heaviest) := goodIn_app (goodIn_of _ (by decide +kernel)) ggX4_digest_X4_heaviest
set_option maxRecDepth 20000 in
theorem ggX4_digest_X4_openWay : GoodIn wsX4_digest wsX4_openWay := goodIn_ca (goodIn_r _ [162, 10, 11, 14, 2, 16, 153, 47, 48, 49, 40, 50, 51, 52, 43, 53, 54, 55, 56, 44, 57, 58, 59, 60, 24, 61, 62, 63, 26, 64, 65, 66, 67, 68, 69, 8, 70, 45, 46, 71, 72, 73, 74, 75, 76, 77, 78, 79, 80, 214, 215, 216, 217, 218, 219, 220, 221, 222, 233, 234, 235, 236, 237, 238, 223, 224, 225, 226, 227, 228, 229, 230, 231, 232] (by decide +kernel) (by decide +kernel)) (goodIn_sub (fun _ h => List.mem_cons_of_mem _ (List.mem_append_left _ (List.mem_append_right _ h))) (by decide +kernel))
set_option maxRecDepth 20000 in
theorem gX4_digest_X4_openWay : GoodIn wsX4_digest (wsV RX4 253 RX4 yX4_openWay wsX4_openWay) := goodIn_app (goodIn_of _ (by decide +kernel)) ggX4_digest_X4_openWay
set_option maxRecDepth 20000 in
theorem ggX4_digest_X4_ifSplit : GoodIn wsX4_digest wsX4_ifSplit := goodIn_r _ [166, 2, 167, 14, 13, 168, 169, 8, 170, 171, 59, 60, 24, 61, 62, 63, 26, 64, 172, 173, 174, 175, 158, 176, 177, 178, 179, 180, 47, 48, 49, 40, 50, 51, 52, 43, 53, 54, 55, 56, 44, 57, 58, 65, 66, 67, 68, 69, 70, 45, 46, 71, 72, 73, 74, 75, 76, 77, 78, 79, 80, 181, 182, 183, 184, 185, 186, 187, 188, 3, 19, 149, 150, 151, 152, 16, 153, 154, 155, 156, 157, 189, 190, 191, 192, 34, 35, 36, 214, 215, 216, 217, 218, 219, 220, 221, 222, 223, 224, 225, 226, 227, 228, 229, 230, 231, 232, 233, 234, 235, 236, 237, 238] (by decide +kernel) (by decide +kernel)
set_option maxRecDepth 20000 in
theorem gX4_digest_X4_ifSplit : GoodIn wsX4_digest (wsV RX4 256 RX4 yX4_ifSplit wsX4_ifSplit) := goodIn_app (goodIn_of _ (by decide +kernel)) ggX4_digest_X4_ifSplit
set_option maxRecDepth 20000 in
theorem ggX4_digest_X4_mainPiece : GoodIn wsX4_digest wsX4_mainPiece := goodIn_r _ [196, 14, 2, 153, 16, 47, 48, 49, 40, 50, 51, 52, 43, 53, 54, 55, 56, 44, 57, 58, 59, 60, 24, 61, 62, 63, 26, 64, 65, 66, 67, 68, 69, 8, 70, 45, 46, 71, 72, 73, 74, 75, 76, 77, 78, 79, 80, 131, 132, 133, 134, 214, 215, 216, 217, 218, 219, 220, 221, 222, 233, 234, 235, 236, 237, 238, 223, 224, 225, 226, 227, 228, 229, 230, 231, 232] (by decide +kernel) (by decide +kernel)
set_option maxRecDepth 20000 in
theorem gX4_digest_X4_mainPiece : GoodIn wsX4_digest (wsV RX4 259 RX4 yX4_mainPiece wsX4_mainPiece) := goodIn_app (goodIn_of _ (by decide +kernel)) ggX4_digest_X4_mainPiece
set_option maxRecDepth 20000 in
theorem ggX4_digest_X4_explained : GoodIn wsX4_digest wsX4_explained := goodIn_r _ [200, 2, 12, 13, 34, 35, 8, 36, 214, 215, 216, 217, 218, 219, 220, 221, 222, 223, 224, 225, 226, 227, 228, 229, 230, 231, 232] (by decide +kernel) (by decide +kernel)
set_option maxRecDepth 20000 in
theorem gX4_digest_X4_explained : GoodIn wsX4_digest (wsV RX4 262 RX4 yX4_explained wsX4_explained) := goodIn_app (goodIn_of _ (by decide +kernel)) ggX4_digest_X4_explained
set_option maxRecDepth 20000 in
theorem ggX4_digest_X4_bitsOf : GoodIn wsX4_digest wsX4_bitsOf := goodIn_r _ [203, 204, 205, 206] (by decide +kernel) (by decide +kernel)
set_option maxRecDepth 20000 in
theorem gX4_digest_X4_bitsOf : GoodIn wsX4_digest (va_wsS RX4 266 yX4_bitsOf wsX4_bitsOf) := goodIn_app (goodIn_of _ (by decide +kernel)) ggX4_digest_X4_bitsOf
set_option maxRecDepth 20000 in
theorem ggX4_digest_X4_mixBuffer : GoodIn wsX4_digest wsX4_mixBuffer := goodIn_r _ [210, 211, 212, 213, 106, 107, 8, 108, 109, 214, 215, 216, 217, 218, 219, 220, 221, 222, 242, 243, 244, 245, 246, 247] (by decide +kernel) (by decide +kernel)
set_option maxRecDepth 20000 in
theorem gX4_digest_X4_mixBuffer : GoodIn wsX4_digest (wsV RX4 270 RX4 yX4_mixBuffer wsX4_mixBuffer) := goodIn_app (goodIn_of _ (by decide +kernel)) ggX4_digest_X4_mixBuffer
theorem dX4_digest_0 : decode cX4_digest 0 = .ok (.ldc2_w 234, 3) := by decide +kernel
theorem dX4_digest_3 : decode cX4_digest 3 = .ok (.lstore_n 1, 1) := by decide +kernel
theorem dX4_digest_4 : decode cX4_digest 4 = .ok (.iconst 0, 1) := by decide +kernel
theorem dX4_digest_5 : decode cX4_digest 5 = .ok (.istore_n 3, 1) := by decide +kernel
theorem dX4_digest_6 : decode cX4_digest 6 = .ok (.iload_n 3, 1) := by decide +kernel
theorem dX4_digest_7 : decode cX4_digest 7 = .ok (.bipush 12, 2) := by decide +kernel
theorem dX4_digest_9 : decode cX4_digest 9 = .ok (.if_icmp .ge 20, 3) := by decide +kernel
theorem dX4_digest_12 : decode cX4_digest 12 = .ok (.lload_n 1, 1) := by decide +kernel
theorem dX4_digest_13 : decode cX4_digest 13 = .ok (.aload_n 0, 1) := by decide +kernel
theorem dX4_digest_14 : decode cX4_digest 14 = .ok (.iload_n 3, 1) := by decide +kernel
theorem dX4_digest_15 : decode cX4_digest 15 = .ok (.invokevirtual 236, 3) := by decide +kernel
theorem dX4_digest_18 : decode cX4_digest 18 = .ok (.i2l, 1) := by decide +kernel
theorem dX4_digest_19 : decode cX4_digest 19 = .ok (.invokestatic 239, 3) := by decide +kernel
theorem dX4_digest_22 : decode cX4_digest 22 = .ok (.lstore_n 1, 1) := by decide +kernel
theorem dX4_digest_23 : decode cX4_digest 23 = .ok (.iinc 3 1, 3) := by decide +kernel
theorem dX4_digest_26 : decode cX4_digest 26 = .ok (.goto (-20), 3) := by decide +kernel
theorem dX4_digest_29 : decode cX4_digest 29 = .ok (.iconst 0, 1) := by decide +kernel
theorem dX4_digest_30 : decode cX4_digest 30 = .ok (.istore_n 3, 1) := by decide +kernel
theorem dX4_digest_31 : decode cX4_digest 31 = .ok (.iload_n 3, 1) := by decide +kernel
theorem dX4_digest_32 : decode cX4_digest 32 = .ok (.bipush 9, 2) := by decide +kernel
theorem dX4_digest_34 : decode cX4_digest 34 = .ok (.if_icmp .ge 16, 3) := by decide +kernel
theorem dX4_digest_37 : decode cX4_digest 37 = .ok (.aload_n 0, 1) := by decide +kernel
theorem dX4_digest_38 : decode cX4_digest 38 = .ok (.lload_n 1, 1) := by decide +kernel
theorem dX4_digest_39 : decode cX4_digest 39 = .ok (.iload_n 3, 1) := by decide +kernel
theorem dX4_digest_40 : decode cX4_digest 40 = .ok (.invokevirtual 243, 3) := by decide +kernel
theorem dX4_digest_43 : decode cX4_digest 43 = .ok (.lstore_n 1, 1) := by decide +kernel
theorem dX4_digest_44 : decode cX4_digest 44 = .ok (.iinc 3 1, 3) := by decide +kernel
theorem dX4_digest_47 : decode cX4_digest 47 = .ok (.goto (-16), 3) := by decide +kernel
theorem dX4_digest_50 : decode cX4_digest 50 = .ok (.iconst 0, 1) := by decide +kernel
theorem dX4_digest_51 : decode cX4_digest 51 = .ok (.istore_n 3, 1) := by decide +kernel
theorem dX4_digest_52 : decode cX4_digest 52 = .ok (.iload_n 3, 1) := by decide +kernel
theorem dX4_digest_53 : decode cX4_digest 53 = .ok (.aload_n 0, 1) := by decide +kernel
theorem dX4_digest_54 : decode cX4_digest 54 = .ok (.getfield 12, 3) := by decide +kernel
theorem dX4_digest_57 : decode cX4_digest 57 = .ok (.getfield 107, 3) := by decide +kernel
theorem dX4_digest_60 : decode cX4_digest 60 = .ok (.if_icmp .ge 37, 3) := by decide +kernel
theorem dX4_digest_63 : decode cX4_digest 63 = .ok (.iconst 0, 1) := by decide +kernel
theorem dX4_digest_64 : decode cX4_digest 64 = .ok (.istore 4, 2) := by decide +kernel
theorem dX4_digest_66 : decode cX4_digest 66 = .ok (.iload 4, 2) := by decide +kernel
theorem dX4_digest_68 : decode cX4_digest 68 = .ok (.iconst 3, 1) := by decide +kernel
theorem dX4_digest_69 : decode cX4_digest 69 = .ok (.if_icmp .ge 22, 3) := by decide +kernel
theorem dX4_digest_72 : decode cX4_digest 72 = .ok (.lload_n 1, 1) := by decide +kernel
theorem dX4_digest_73 : decode cX4_digest 73 = .ok (.aload_n 0, 1) := by decide +kernel
theorem dX4_digest_74 : decode cX4_digest 74 = .ok (.iload_n 3, 1) := by decide +kernel
theorem dX4_digest_75 : decode cX4_digest 75 = .ok (.iload 4, 2) := by decide +kernel
theorem dX4_digest_77 : decode cX4_digest 77 = .ok (.invokevirtual 247, 3) := by decide +kernel
theorem dX4_digest_80 : decode cX4_digest 80 = .ok (.i2l, 1) := by decide +kernel
theorem dX4_digest_81 : decode cX4_digest 81 = .ok (.invokestatic 239, 3) := by decide +kernel
theorem dX4_digest_84 : decode cX4_digest 84 = .ok (.lstore_n 1, 1) := by decide +kernel
theorem dX4_digest_85 : decode cX4_digest 85 = .ok (.iinc 4 1, 3) := by decide +kernel
theorem dX4_digest_88 : decode cX4_digest 88 = .ok (.goto (-22), 3) := by decide +kernel
theorem dX4_digest_91 : decode cX4_digest 91 = .ok (.iinc 3 1, 3) := by decide +kernel
theorem dX4_digest_94 : decode cX4_digest 94 = .ok (.goto (-42), 3) := by decide +kernel
theorem dX4_digest_97 : decode cX4_digest 97 = .ok (.lload_n 1, 1) := by decide +kernel
theorem dX4_digest_98 : decode cX4_digest 98 = .ok (.aload_n 0, 1) := by decide +kernel
theorem dX4_digest_99 : decode cX4_digest 99 = .ok (.iconst 0, 1) := by decide +kernel
theorem dX4_digest_100 : decode cX4_digest 100 = .ok (.invokevirtual 250, 3) := by decide +kernel
theorem dX4_digest_103 : decode cX4_digest 103 = .ok (.i2l, 1) := by decide +kernel
theorem dX4_digest_104 : decode cX4_digest 104 = .ok (.invokestatic 239, 3) := by decide +kernel
theorem dX4_digest_107 : decode cX4_digest 107 = .ok (.lstore_n 1, 1) := by decide +kernel
theorem dX4_digest_108 : decode cX4_digest 108 = .ok (.lload_n 1, 1) := by decide +kernel
theorem dX4_digest_109 : decode cX4_digest 109 = .ok (.aload_n 0, 1) := by decide +kernel
theorem dX4_digest_110 : decode cX4_digest 110 = .ok (.iconst 1, 1) := by decide +kernel
theorem dX4_digest_111 : decode cX4_digest 111 = .ok (.invokevirtual 250, 3) := by decide +kernel
theorem dX4_digest_114 : decode cX4_digest 114 = .ok (.i2l, 1) := by decide +kernel
theorem dX4_digest_115 : decode cX4_digest 115 = .ok (.invokestatic 239, 3) := by decide +kernel
theorem dX4_digest_118 : decode cX4_digest 118 = .ok (.lstore_n 1, 1) := by decide +kernel
theorem dX4_digest_119 : decode cX4_digest 119 = .ok (.iconst 0, 1) := by decide +kernel
theorem dX4_digest_120 : decode cX4_digest 120 = .ok (.istore_n 3, 1) := by decide +kernel
theorem dX4_digest_121 : decode cX4_digest 121 = .ok (.iload_n 3, 1) := by decide +kernel
theorem dX4_digest_122 : decode cX4_digest 122 = .ok (.iconst 5, 1) := by decide +kernel
theorem dX4_digest_123 : decode cX4_digest 123 = .ok (.if_icmp .ge 20, 3) := by decide +kernel
theorem dX4_digest_126 : decode cX4_digest 126 = .ok (.lload_n 1, 1) := by decide +kernel
theorem dX4_digest_127 : decode cX4_digest 127 = .ok (.aload_n 0, 1) := by decide +kernel
theorem dX4_digest_128 : decode cX4_digest 128 = .ok (.iload_n 3, 1) := by decide +kernel
theorem dX4_digest_129 : decode cX4_digest 129 = .ok (.invokevirtual 253, 3) := by decide +kernel
theorem dX4_digest_132 : decode cX4_digest 132 = .ok (.i2l, 1) := by decide +kernel
theorem dX4_digest_133 : decode cX4_digest 133 = .ok (.invokestatic 239, 3) := by decide +kernel
theorem dX4_digest_136 : decode cX4_digest 136 = .ok (.lstore_n 1, 1) := by decide +kernel
theorem dX4_digest_137 : decode cX4_digest 137 = .ok (.iinc 3 1, 3) := by decide +kernel
theorem dX4_digest_140 : decode cX4_digest 140 = .ok (.goto (-19), 3) := by decide +kernel
theorem dX4_digest_143 : decode cX4_digest 143 = .ok (.lload_n 1, 1) := by decide +kernel
theorem dX4_digest_144 : decode cX4_digest 144 = .ok (.aload_n 0, 1) := by decide +kernel
theorem dX4_digest_145 : decode cX4_digest 145 = .ok (.invokevirtual 256, 3) := by decide +kernel
theorem dX4_digest_148 : decode cX4_digest 148 = .ok (.i2l, 1) := by decide +kernel
theorem dX4_digest_149 : decode cX4_digest 149 = .ok (.invokestatic 239, 3) := by decide +kernel
theorem dX4_digest_152 : decode cX4_digest 152 = .ok (.lstore_n 1, 1) := by decide +kernel
theorem dX4_digest_153 : decode cX4_digest 153 = .ok (.lload_n 1, 1) := by decide +kernel
theorem dX4_digest_154 : decode cX4_digest 154 = .ok (.aload_n 0, 1) := by decide +kernel
theorem dX4_digest_155 : decode cX4_digest 155 = .ok (.invokevirtual 259, 3) := by decide +kernel
theorem dX4_digest_158 : decode cX4_digest 158 = .ok (.i2l, 1) := by decide +kernel
theorem dX4_digest_159 : decode cX4_digest 159 = .ok (.invokestatic 239, 3) := by decide +kernel
theorem dX4_digest_162 : decode cX4_digest 162 = .ok (.lstore_n 1, 1) := by decide +kernel
theorem dX4_digest_163 : decode cX4_digest 163 = .ok (.lload_n 1, 1) := by decide +kernel
theorem dX4_digest_164 : decode cX4_digest 164 = .ok (.aload_n 0, 1) := by decide +kernel
theorem dX4_digest_165 : decode cX4_digest 165 = .ok (.invokevirtual 262, 3) := by decide +kernel
theorem dX4_digest_168 : decode cX4_digest 168 = .ok (.invokestatic 266, 3) := by decide +kernel
theorem dX4_digest_171 : decode cX4_digest 171 = .ok (.invokestatic 239, 3) := by decide +kernel
theorem dX4_digest_174 : decode cX4_digest 174 = .ok (.lstore_n 1, 1) := by decide +kernel
theorem dX4_digest_175 : decode cX4_digest 175 = .ok (.iconst 0, 1) := by decide +kernel
theorem dX4_digest_176 : decode cX4_digest 176 = .ok (.istore_n 3, 1) := by decide +kernel
theorem dX4_digest_177 : decode cX4_digest 177 = .ok (.iload_n 3, 1) := by decide +kernel
theorem dX4_digest_178 : decode cX4_digest 178 = .ok (.iconst 2, 1) := by decide +kernel
theorem dX4_digest_179 : decode cX4_digest 179 = .ok (.if_icmp .ge 28, 3) := by decide +kernel
theorem dX4_digest_182 : decode cX4_digest 182 = .ok (.lload_n 1, 1) := by decide +kernel
theorem dX4_digest_183 : decode cX4_digest 183 = .ok (.aload_n 0, 1) := by decide +kernel
theorem dX4_digest_184 : decode cX4_digest 184 = .ok (.getfield 26, 3) := by decide +kernel
theorem dX4_digest_187 : decode cX4_digest 187 = .ok (.iload_n 3, 1) := by decide +kernel
theorem dX4_digest_188 : decode cX4_digest 188 = .ok (.baload, 1) := by decide +kernel
theorem dX4_digest_189 : decode cX4_digest 189 = .ok (.ifCond .eq 7, 3) := by decide +kernel
theorem dX4_digest_192 : decode cX4_digest 192 = .ok (.lconst 1, 1) := by decide +kernel
theorem dX4_digest_193 : decode cX4_digest 193 = .ok (.goto 4, 3) := by decide +kernel
theorem dX4_digest_196 : decode cX4_digest 196 = .ok (.lconst 0, 1) := by decide +kernel
theorem dX4_digest_197 : decode cX4_digest 197 = .ok (.invokestatic 239, 3) := by decide +kernel
theorem dX4_digest_200 : decode cX4_digest 200 = .ok (.lstore_n 1, 1) := by decide +kernel
theorem dX4_digest_201 : decode cX4_digest 201 = .ok (.iinc 3 1, 3) := by decide +kernel
theorem dX4_digest_204 : decode cX4_digest 204 = .ok (.goto (-27), 3) := by decide +kernel
theorem dX4_digest_207 : decode cX4_digest 207 = .ok (.aload_n 0, 1) := by decide +kernel
theorem dX4_digest_208 : decode cX4_digest 208 = .ok (.lload_n 1, 1) := by decide +kernel
theorem dX4_digest_209 : decode cX4_digest 209 = .ok (.invokevirtual 270, 3) := by decide +kernel
theorem dX4_digest_212 : decode cX4_digest 212 = .ok (.lreturn, 1) := by decide +kernel
set_option maxRecDepth 20000 in
theorem ggX4_mixPiece_X4_pieceOf : GoodIn wsX4_mixPiece wsX4_pieceOf := goodIn_ca (goodIn_ca (goodIn_r _ [5, 6, 7, 8, 9, 10, 11, 12, 13, 14, 15, 16, 17, 18, 19, 20, 21, 22, 4, 23, 24, 25, 26, 27, 28, 29, 30, 31, 32, 33, 34, 35, 36, 37, 38, 39, 40, 41, 42, 43, 44, 45, 46, 47, 48, 49, 50, 51, 52, 53, 54, 55, 56, 57, 58, 59, 60, 61, 62, 63, 64, 65, 66, 67, 68, 69, 70, 71, 72, 73, 74, 75, 76, 77, 78, 79, 80, 81, 82, 83, 84, 93, 94, 95, 96, 97, 98, 99, 100, 101, 102, 103, 104, 105, 106, 107, 108, 109, 110, 111, 112, 113, 114, 115, 116, 117, 118, 119, 120] (by decide +kernel) (by decide +kernel)) (goodIn_sub (fun _ h => List.mem_cons_of_mem _ (List.mem_append_left _ (List.mem_append_right _ h))) (by decide +kernel))) (goodIn_sub (fun _ h => List.mem_cons_of_mem _ (List.mem_append_right _ h)) (by decide +kernel))
set_option maxRecDepth 20000 in
theorem gX4_mixPiece_X4_pieceOf : GoodIn wsX4_mixPiece (wsV RX4 274 RX4 yX4_pieceOf wsX4_pieceOf) := goodIn_app (goodIn_of _ (by decide +kernel)) ggX4_mixPiece_X4_pieceOf
set_option maxRecDepth 20000 in
theorem ggX4_mixPiece_X4_mix : GoodIn wsX4_mixPiece wsX4_mix := goodIn_r _ [87, 88] (by decide +kernel) (by decide +kernel)
set_option maxRecDepth 20000 in
theorem gX4_mixPiece_X4_mix : GoodIn wsX4_mixPiece (va_wsS RX4 239 yX4_mix wsX4_mix) := goodIn_app (goodIn_of _ (by decide +kernel)) ggX4_mixPiece_X4_mix
set_option maxRecDepth 20000 in
theorem ggX4_mixPiece_X4_isJoined : GoodIn wsX4_mixPiece wsX4_isJoined := goodIn_ca (goodIn_r _ [92, 6, 7, 10, 14, 21, 22, 4, 23, 84, 30, 31, 93, 94, 95, 96, 97, 98, 99, 100, 101, 102, 103, 104, 105, 106, 107, 108, 109, 110, 111] (by decide +kernel) (by decide +kernel)) (goodIn_sub (fun _ h => List.mem_cons_of_mem _ (List.mem_append_left _ (List.mem_append_right _ h))) (by decide +kernel))
set_option maxRecDepth 20000 in
theorem gX4_mixPiece_X4_isJoined : GoodIn wsX4_mixPiece (wsV RX4 277 RX4 yX4_isJoined wsX4_isJoined) := goodIn_app (goodIn_of _ (by decide +kernel)) ggX4_mixPiece_X4_isJoined
theorem dX4_mixPiece_0 : decode cX4_mixPiece 0 = .ok (.lload_n 1, 1) := by decide +kernel
theorem dX4_mixPiece_1 : decode cX4_mixPiece 1 = .ok (.lstore 4, 2) := by decide +kernel
theorem dX4_mixPiece_3 : decode cX4_mixPiece 3 = .ok (.iconst 0, 1) := by decide +kernel
theorem dX4_mixPiece_4 : decode cX4_mixPiece 4 = .ok (.istore 6, 2) := by decide +kernel
theorem dX4_mixPiece_6 : decode cX4_mixPiece 6 = .ok (.iload 6, 2) := by decide +kernel
theorem dX4_mixPiece_8 : decode cX4_mixPiece 8 = .ok (.bipush 8, 2) := by decide +kernel
theorem dX4_mixPiece_10 : decode cX4_mixPiece 10 = .ok (.if_icmp .ge 24, 3) := by decide +kernel
theorem dX4_mixPiece_13 : decode cX4_mixPiece 13 = .ok (.lload 4, 2) := by decide +kernel
theorem dX4_mixPiece_15 : decode cX4_mixPiece 15 = .ok (.aload_n 0, 1) := by decide +kernel
theorem dX4_mixPiece_16 : decode cX4_mixPiece 16 = .ok (.iload_n 3, 1) := by decide +kernel
theorem dX4_mixPiece_17 : decode cX4_mixPiece 17 = .ok (.iload 6, 2) := by decide +kernel
theorem dX4_mixPiece_19 : decode cX4_mixPiece 19 = .ok (.invokevirtual 274, 3) := by decide +kernel
theorem dX4_mixPiece_22 : decode cX4_mixPiece 22 = .ok (.i2l, 1) := by decide +kernel
theorem dX4_mixPiece_23 : decode cX4_mixPiece 23 = .ok (.invokestatic 239, 3) := by decide +kernel
theorem dX4_mixPiece_26 : decode cX4_mixPiece 26 = .ok (.lstore 4, 2) := by decide +kernel
theorem dX4_mixPiece_28 : decode cX4_mixPiece 28 = .ok (.iinc 6 1, 3) := by decide +kernel
theorem dX4_mixPiece_31 : decode cX4_mixPiece 31 = .ok (.goto (-25), 3) := by decide +kernel
theorem dX4_mixPiece_34 : decode cX4_mixPiece 34 = .ok (.iconst 0, 1) := by decide +kernel
theorem dX4_mixPiece_35 : decode cX4_mixPiece 35 = .ok (.istore 6, 2) := by decide +kernel
theorem dX4_mixPiece_37 : decode cX4_mixPiece 37 = .ok (.iload 6, 2) := by decide +kernel
theorem dX4_mixPiece_39 : decode cX4_mixPiece 39 = .ok (.bipush 9, 2) := by decide +kernel
theorem dX4_mixPiece_41 : decode cX4_mixPiece 41 = .ok (.if_icmp .ge 24, 3) := by decide +kernel
theorem dX4_mixPiece_44 : decode cX4_mixPiece 44 = .ok (.lload 4, 2) := by decide +kernel
theorem dX4_mixPiece_46 : decode cX4_mixPiece 46 = .ok (.aload_n 0, 1) := by decide +kernel
theorem dX4_mixPiece_47 : decode cX4_mixPiece 47 = .ok (.iload_n 3, 1) := by decide +kernel
theorem dX4_mixPiece_48 : decode cX4_mixPiece 48 = .ok (.iload 6, 2) := by decide +kernel
theorem dX4_mixPiece_50 : decode cX4_mixPiece 50 = .ok (.invokevirtual 277, 3) := by decide +kernel
theorem dX4_mixPiece_53 : decode cX4_mixPiece 53 = .ok (.i2l, 1) := by decide +kernel
theorem dX4_mixPiece_54 : decode cX4_mixPiece 54 = .ok (.invokestatic 239, 3) := by decide +kernel
theorem dX4_mixPiece_57 : decode cX4_mixPiece 57 = .ok (.lstore 4, 2) := by decide +kernel
theorem dX4_mixPiece_59 : decode cX4_mixPiece 59 = .ok (.iinc 6 1, 3) := by decide +kernel
theorem dX4_mixPiece_62 : decode cX4_mixPiece 62 = .ok (.goto (-25), 3) := by decide +kernel
theorem dX4_mixPiece_65 : decode cX4_mixPiece 65 = .ok (.lload 4, 2) := by decide +kernel
theorem dX4_mixPiece_67 : decode cX4_mixPiece 67 = .ok (.lreturn, 1) := by decide +kernel
set_option maxRecDepth 20000 in
theorem ggX4_mixBuffer_X4_mix : GoodIn wsX4_mixBuffer wsX4_mix := goodIn_r _ [7, 8] (by decide +kernel) (by decide +kernel)
set_option maxRecDepth 20000 in
theorem gX4_mixBuffer_X4_mix : GoodIn wsX4_mixBuffer (va_wsS RX4 239 yX4_mix wsX4_mix) := goodIn_app (goodIn_of _ (by decide +kernel)) ggX4_mixBuffer_X4_mix
theorem dX4_mixBuffer_0 : decode cX4_mixBuffer 0 = .ok (.lload_n 1, 1) := by decide +kernel
theorem dX4_mixBuffer_1 : decode cX4_mixBuffer 1 = .ok (.aload_n 0, 1) := by decide +kernel
theorem dX4_mixBuffer_2 : decode cX4_mixBuffer 2 = .ok (.getfield 33, 3) := by decide +kernel
theorem dX4_mixBuffer_5 : decode cX4_mixBuffer 5 = .ok (.getfield 113, 3) := by decide +kernel
theorem dX4_mixBuffer_8 : decode cX4_mixBuffer 8 = .ok (.i2l, 1) := by decide +kernel
theorem dX4_mixBuffer_9 : decode cX4_mixBuffer 9 = .ok (.invokestatic 239, 3) := by decide +kernel
theorem dX4_mixBuffer_12 : decode cX4_mixBuffer 12 = .ok (.lstore_n 3, 1) := by decide +kernel
theorem dX4_mixBuffer_13 : decode cX4_mixBuffer 13 = .ok (.iconst 0, 1) := by decide +kernel
theorem dX4_mixBuffer_14 : decode cX4_mixBuffer 14 = .ok (.istore 5, 2) := by decide +kernel
theorem dX4_mixBuffer_16 : decode cX4_mixBuffer 16 = .ok (.iload 5, 2) := by decide +kernel
theorem dX4_mixBuffer_18 : decode cX4_mixBuffer 18 = .ok (.aload_n 0, 1) := by decide +kernel
theorem dX4_mixBuffer_19 : decode cX4_mixBuffer 19 = .ok (.getfield 33, 3) := by decide +kernel
theorem dX4_mixBuffer_22 : decode cX4_mixBuffer 22 = .ok (.getfield 113, 3) := by decide +kernel
theorem dX4_mixBuffer_25 : decode cX4_mixBuffer 25 = .ok (.if_icmp .ge 32, 3) := by decide +kernel
theorem dX4_mixBuffer_28 : decode cX4_mixBuffer 28 = .ok (.iload 5, 2) := by decide +kernel
theorem dX4_mixBuffer_30 : decode cX4_mixBuffer 30 = .ok (.bipush 60, 2) := by decide +kernel
theorem dX4_mixBuffer_32 : decode cX4_mixBuffer 32 = .ok (.if_icmp .ge 25, 3) := by decide +kernel
theorem dX4_mixBuffer_35 : decode cX4_mixBuffer 35 = .ok (.lload_n 3, 1) := by decide +kernel
theorem dX4_mixBuffer_36 : decode cX4_mixBuffer 36 = .ok (.aload_n 0, 1) := by decide +kernel
theorem dX4_mixBuffer_37 : decode cX4_mixBuffer 37 = .ok (.getfield 33, 3) := by decide +kernel
theorem dX4_mixBuffer_40 : decode cX4_mixBuffer 40 = .ok (.getfield 121, 3) := by decide +kernel
theorem dX4_mixBuffer_43 : decode cX4_mixBuffer 43 = .ok (.iload 5, 2) := by decide +kernel
theorem dX4_mixBuffer_45 : decode cX4_mixBuffer 45 = .ok (.iaload, 1) := by decide +kernel
theorem dX4_mixBuffer_46 : decode cX4_mixBuffer 46 = .ok (.i2l, 1) := by decide +kernel
theorem dX4_mixBuffer_47 : decode cX4_mixBuffer 47 = .ok (.invokestatic 239, 3) := by decide +kernel
theorem dX4_mixBuffer_50 : decode cX4_mixBuffer 50 = .ok (.lstore_n 3, 1) := by decide +kernel
theorem dX4_mixBuffer_51 : decode cX4_mixBuffer 51 = .ok (.iinc 5 1, 3) := by decide +kernel
theorem dX4_mixBuffer_54 : decode cX4_mixBuffer 54 = .ok (.goto (-38), 3) := by decide +kernel
theorem dX4_mixBuffer_57 : decode cX4_mixBuffer 57 = .ok (.lload_n 3, 1) := by decide +kernel
theorem dX4_mixBuffer_58 : decode cX4_mixBuffer 58 = .ok (.lreturn, 1) := by decide +kernel
theorem dX4_mix_0 : decode cX4_mix 0 = .ok (.ldc2_w 280, 3) := by decide +kernel
theorem dX4_mix_3 : decode cX4_mix 3 = .ok (.lload_n 0, 1) := by decide +kernel
theorem dX4_mix_4 : decode cX4_mix 4 = .ok (.lmul, 1) := by decide +kernel
theorem dX4_mix_5 : decode cX4_mix 5 = .ok (.lload_n 2, 1) := by decide +kernel
theorem dX4_mix_6 : decode cX4_mix 6 = .ok (.ladd, 1) := by decide +kernel
theorem dX4_mix_7 : decode cX4_mix 7 = .ok (.lreturn, 1) := by decide +kernel
theorem dX4_bitsOf_0 : decode cX4_bitsOf 0 = .ok (.dload_n 0, 1) := by decide +kernel
theorem dX4_bitsOf_1 : decode cX4_bitsOf 1 = .ok (.dconst 0, 1) := by decide +kernel
theorem dX4_bitsOf_2 : decode cX4_bitsOf 2 = .ok (.dcmp .g, 1) := by decide +kernel
theorem dX4_bitsOf_3 : decode cX4_bitsOf 3 = .ok (.ifCond .gt 5, 3) := by decide +kernel
theorem dX4_bitsOf_6 : decode cX4_bitsOf 6 = .ok (.lconst 0, 1) := by decide +kernel
theorem dX4_bitsOf_7 : decode cX4_bitsOf 7 = .ok (.lreturn, 1) := by decide +kernel
theorem dX4_bitsOf_8 : decode cX4_bitsOf 8 = .ok (.dload_n 0, 1) := by decide +kernel
theorem dX4_bitsOf_9 : decode cX4_bitsOf 9 = .ok (.dstore_n 2, 1) := by decide +kernel
theorem dX4_bitsOf_10 : decode cX4_bitsOf 10 = .ok (.ldc2_w 282, 3) := by decide +kernel
theorem dX4_bitsOf_13 : decode cX4_bitsOf 13 = .ok (.lstore 4, 2) := by decide +kernel
theorem dX4_bitsOf_15 : decode cX4_bitsOf 15 = .ok (.iconst 0, 1) := by decide +kernel
theorem dX4_bitsOf_16 : decode cX4_bitsOf 16 = .ok (.istore 6, 2) := by decide +kernel
theorem dX4_bitsOf_18 : decode cX4_bitsOf 18 = .ok (.iload 6, 2) := by decide +kernel
theorem dX4_bitsOf_20 : decode cX4_bitsOf 20 = .ok (.sipush 1022, 3) := by decide +kernel
theorem dX4_bitsOf_23 : decode cX4_bitsOf 23 = .ok (.if_icmp .ge 27, 3) := by decide +kernel
theorem dX4_bitsOf_26 : decode cX4_bitsOf 26 = .ok (.dload_n 2, 1) := by decide +kernel
theorem dX4_bitsOf_27 : decode cX4_bitsOf 27 = .ok (.dconst 1, 1) := by decide +kernel
theorem dX4_bitsOf_28 : decode cX4_bitsOf 28 = .ok (.dcmp .g, 1) := by decide +kernel
theorem dX4_bitsOf_29 : decode cX4_bitsOf 29 = .ok (.ifCond .ge 21, 3) := by decide +kernel
theorem dX4_bitsOf_32 : decode cX4_bitsOf 32 = .ok (.dload_n 2, 1) := by decide +kernel
theorem dX4_bitsOf_33 : decode cX4_bitsOf 33 = .ok (.ldc2_w 284, 3) := by decide +kernel
theorem dX4_bitsOf_36 : decode cX4_bitsOf 36 = .ok (.dmul, 1) := by decide +kernel
theorem dX4_bitsOf_37 : decode cX4_bitsOf 37 = .ok (.dstore_n 2, 1) := by decide +kernel
theorem dX4_bitsOf_38 : decode cX4_bitsOf 38 = .ok (.lload 4, 2) := by decide +kernel
theorem dX4_bitsOf_40 : decode cX4_bitsOf 40 = .ok (.lconst 1, 1) := by decide +kernel
theorem dX4_bitsOf_41 : decode cX4_bitsOf 41 = .ok (.lsub, 1) := by decide +kernel
theorem dX4_bitsOf_42 : decode cX4_bitsOf 42 = .ok (.lstore 4, 2) := by decide +kernel
theorem dX4_bitsOf_44 : decode cX4_bitsOf 44 = .ok (.iinc 6 1, 3) := by decide +kernel
theorem dX4_bitsOf_47 : decode cX4_bitsOf 47 = .ok (.goto (-29), 3) := by decide +kernel
theorem dX4_bitsOf_50 : decode cX4_bitsOf 50 = .ok (.dload_n 2, 1) := by decide +kernel
theorem dX4_bitsOf_51 : decode cX4_bitsOf 51 = .ok (.dconst 1, 1) := by decide +kernel
theorem dX4_bitsOf_52 : decode cX4_bitsOf 52 = .ok (.dsub, 1) := by decide +kernel
theorem dX4_bitsOf_53 : decode cX4_bitsOf 53 = .ok (.ldc2_w 286, 3) := by decide +kernel
theorem dX4_bitsOf_56 : decode cX4_bitsOf 56 = .ok (.dmul, 1) := by decide +kernel
theorem dX4_bitsOf_57 : decode cX4_bitsOf 57 = .ok (.d2l, 1) := by decide +kernel
theorem dX4_bitsOf_58 : decode cX4_bitsOf 58 = .ok (.lstore 6, 2) := by decide +kernel
theorem dX4_bitsOf_60 : decode cX4_bitsOf 60 = .ok (.lload 4, 2) := by decide +kernel
theorem dX4_bitsOf_62 : decode cX4_bitsOf 62 = .ok (.bipush 52, 2) := by decide +kernel
theorem dX4_bitsOf_64 : decode cX4_bitsOf 64 = .ok (.lshl, 1) := by decide +kernel
theorem dX4_bitsOf_65 : decode cX4_bitsOf 65 = .ok (.lload 6, 2) := by decide +kernel
theorem dX4_bitsOf_67 : decode cX4_bitsOf 67 = .ok (.lor, 1) := by decide +kernel
theorem dX4_bitsOf_68 : decode cX4_bitsOf 68 = .ok (.lreturn, 1) := by decide +kernel
theorem dX4_isPiece_0 : decode cX4_isPiece 0 = .ok (.iload_n 0, 1) := by decide +kernel
theorem dX4_isPiece_1 : decode cX4_isPiece 1 = .ok (.ifCond .lt 13, 3) := by decide +kernel
theorem dX4_isPiece_4 : decode cX4_isPiece 4 = .ok (.iload_n 0, 1) := by decide +kernel
theorem dX4_isPiece_5 : decode cX4_isPiece 5 = .ok (.bipush 9, 2) := by decide +kernel
theorem dX4_isPiece_7 : decode cX4_isPiece 7 = .ok (.if_icmp .ge 7, 3) := by decide +kernel
theorem dX4_isPiece_10 : decode cX4_isPiece 10 = .ok (.iconst 1, 1) := by decide +kernel
theorem dX4_isPiece_11 : decode cX4_isPiece 11 = .ok (.goto 4, 3) := by decide +kernel
theorem dX4_isPiece_14 : decode cX4_isPiece 14 = .ok (.iconst 0, 1) := by decide +kernel
theorem dX4_isPiece_15 : decode cX4_isPiece 15 = .ok (.ireturn, 1) := by decide +kernel
theorem dX4_isSlot_0 : decode cX4_isSlot 0 = .ok (.iload_n 0, 1) := by decide +kernel
theorem dX4_isSlot_1 : decode cX4_isSlot 1 = .ok (.ifCond .lt 12, 3) := by decide +kernel
theorem dX4_isSlot_4 : decode cX4_isSlot 4 = .ok (.iload_n 0, 1) := by decide +kernel
theorem dX4_isSlot_5 : decode cX4_isSlot 5 = .ok (.iconst 2, 1) := by decide +kernel
theorem dX4_isSlot_6 : decode cX4_isSlot 6 = .ok (.if_icmp .ge 7, 3) := by decide +kernel
theorem dX4_isSlot_9 : decode cX4_isSlot 9 = .ok (.iconst 1, 1) := by decide +kernel
theorem dX4_isSlot_10 : decode cX4_isSlot 10 = .ok (.goto 4, 3) := by decide +kernel
theorem dX4_isSlot_13 : decode cX4_isSlot 13 = .ok (.iconst 0, 1) := by decide +kernel
theorem dX4_isSlot_14 : decode cX4_isSlot 14 = .ok (.ireturn, 1) := by decide +kernel
theorem dX4_bit_0 : decode cX4_bit 0 = .ok (.iload_n 0, 1) := by decide +kernel
theorem dX4_bit_1 : decode cX4_bit 1 = .ok (.iload_n 1, 1) := by decide +kernel
theorem dX4_bit_2 : decode cX4_bit 2 = .ok (.ishr, 1) := by decide +kernel
theorem dX4_bit_3 : decode cX4_bit 3 = .ok (.iconst 1, 1) := by decide +kernel
theorem dX4_bit_4 : decode cX4_bit 4 = .ok (.iand, 1) := by decide +kernel
theorem dX4_bit_5 : decode cX4_bit 5 = .ok (.ireturn, 1) := by decide +kernel
theorem dX4_sum_0 : decode cX4_sum 0 = .ok (.iconst 0, 1) := by decide +kernel
theorem dX4_sum_1 : decode cX4_sum 1 = .ok (.istore_n 1, 1) := by decide +kernel
theorem dX4_sum_2 : decode cX4_sum 2 = .ok (.aload_n 0, 1) := by decide +kernel
theorem dX4_sum_3 : decode cX4_sum 3 = .ok (.astore_n 2, 1) := by decide +kernel
theorem dX4_sum_4 : decode cX4_sum 4 = .ok (.aload_n 2, 1) := by decide +kernel
theorem dX4_sum_5 : decode cX4_sum 5 = .ok (.arraylength, 1) := by decide +kernel
theorem dX4_sum_6 : decode cX4_sum 6 = .ok (.istore_n 3, 1) := by decide +kernel
theorem dX4_sum_7 : decode cX4_sum 7 = .ok (.iconst 0, 1) := by decide +kernel
theorem dX4_sum_8 : decode cX4_sum 8 = .ok (.istore 4, 2) := by decide +kernel
theorem dX4_sum_10 : decode cX4_sum 10 = .ok (.iload 4, 2) := by decide +kernel
theorem dX4_sum_12 : decode cX4_sum 12 = .ok (.iload_n 3, 1) := by decide +kernel
theorem dX4_sum_13 : decode cX4_sum 13 = .ok (.if_icmp .ge 20, 3) := by decide +kernel
theorem dX4_sum_16 : decode cX4_sum 16 = .ok (.aload_n 2, 1) := by decide +kernel
theorem dX4_sum_17 : decode cX4_sum 17 = .ok (.iload 4, 2) := by decide +kernel
theorem dX4_sum_19 : decode cX4_sum 19 = .ok (.iaload, 1) := by decide +kernel
theorem dX4_sum_20 : decode cX4_sum 20 = .ok (.istore 5, 2) := by decide +kernel
theorem dX4_sum_22 : decode cX4_sum 22 = .ok (.iload_n 1, 1) := by decide +kernel
theorem dX4_sum_23 : decode cX4_sum 23 = .ok (.iload 5, 2) := by decide +kernel
theorem dX4_sum_25 : decode cX4_sum 25 = .ok (.iadd, 1) := by decide +kernel
theorem dX4_sum_26 : decode cX4_sum 26 = .ok (.istore_n 1, 1) := by decide +kernel
theorem dX4_sum_27 : decode cX4_sum 27 = .ok (.iinc 4 1, 3) := by decide +kernel
theorem dX4_sum_30 : decode cX4_sum 30 = .ok (.goto (-20), 3) := by decide +kernel
theorem dX4_sum_33 : decode cX4_sum 33 = .ok (.iload_n 1, 1) := by decide +kernel
theorem dX4_sum_34 : decode cX4_sum 34 = .ok (.ireturn, 1) := by decide +kernel
set_option maxRecDepth 20000 in
theorem ggX4_countWith_X4_bit : GoodIn wsX4_countWith wsX4_bit := goodIn_r _ [4] (by decide +kernel) (by decide +kernel)
set_option maxRecDepth 20000 in
theorem gX4_countWith_X4_bit : GoodIn wsX4_countWith (va_wsS RX4 85 yX4_bit wsX4_bit) := goodIn_app (goodIn_of _ (by decide +kernel)) ggX4_countWith_X4_bit
theorem dX4_countWith_0 : decode cX4_countWith 0 = .ok (.iconst 0, 1) := by decide +kernel
theorem dX4_countWith_1 : decode cX4_countWith 1 = .ok (.istore_n 3, 1) := by decide +kernel
theorem dX4_countWith_2 : decode cX4_countWith 2 = .ok (.iconst 0, 1) := by decide +kernel
theorem dX4_countWith_3 : decode cX4_countWith 3 = .ok (.istore 4, 2) := by decide +kernel
theorem dX4_countWith_5 : decode cX4_countWith 5 = .ok (.iload 4, 2) := by decide +kernel
theorem dX4_countWith_7 : decode cX4_countWith 7 = .ok (.iload_n 1, 1) := by decide +kernel
theorem dX4_countWith_8 : decode cX4_countWith 8 = .ok (.if_icmp .ge 27, 3) := by decide +kernel
theorem dX4_countWith_11 : decode cX4_countWith 11 = .ok (.iload 4, 2) := by decide +kernel
theorem dX4_countWith_13 : decode cX4_countWith 13 = .ok (.aload_n 0, 1) := by decide +kernel
theorem dX4_countWith_14 : decode cX4_countWith 14 = .ok (.arraylength, 1) := by decide +kernel
theorem dX4_countWith_15 : decode cX4_countWith 15 = .ok (.if_icmp .ge 20, 3) := by decide +kernel
theorem dX4_countWith_18 : decode cX4_countWith 18 = .ok (.iload_n 3, 1) := by decide +kernel
theorem dX4_countWith_19 : decode cX4_countWith 19 = .ok (.aload_n 0, 1) := by decide +kernel
theorem dX4_countWith_20 : decode cX4_countWith 20 = .ok (.iload 4, 2) := by decide +kernel
theorem dX4_countWith_22 : decode cX4_countWith 22 = .ok (.iaload, 1) := by decide +kernel
theorem dX4_countWith_23 : decode cX4_countWith 23 = .ok (.iload_n 2, 1) := by decide +kernel
theorem dX4_countWith_24 : decode cX4_countWith 24 = .ok (.invokestatic 85, 3) := by decide +kernel
theorem dX4_countWith_27 : decode cX4_countWith 27 = .ok (.iadd, 1) := by decide +kernel
theorem dX4_countWith_28 : decode cX4_countWith 28 = .ok (.istore_n 3, 1) := by decide +kernel
theorem dX4_countWith_29 : decode cX4_countWith 29 = .ok (.iinc 4 1, 3) := by decide +kernel
theorem dX4_countWith_32 : decode cX4_countWith 32 = .ok (.goto (-27), 3) := by decide +kernel
theorem dX4_countWith_35 : decode cX4_countWith 35 = .ok (.iload_n 3, 1) := by decide +kernel
theorem dX4_countWith_36 : decode cX4_countWith 36 = .ok (.ireturn, 1) := by decide +kernel
set_option maxRecDepth 20000 in
theorem ggX4_saveState_X4_dropOldest : GoodIn wsX4_saveState wsX4_dropOldest := goodIn_r _ [8, 3, 1, 31, 32, 33, 34, 35, 36, 37, 38, 39] (by decide +kernel) (by decide +kernel)
set_option maxRecDepth 20000 in
theorem gX4_saveState_X4_dropOldest : GoodIn wsX4_saveState (wsV RX4 288 RX4 yX4_dropOldest wsX4_dropOldest) := goodIn_app (goodIn_of _ (by decide +kernel)) ggX4_saveState_X4_dropOldest
set_option maxRecDepth 20000 in
theorem ggX4_saveState_X4_copyState : GoodIn wsX4_saveState wsX4_copyState := goodIn_r _ [11, 12, 13, 14, 15, 16, 17, 18, 19, 20, 21, 22, 23, 24, 25, 26, 27, 28, 29, 30, 40, 41, 42, 43, 44, 45, 46, 47, 48, 49] (by decide +kernel) (by decide +kernel)
set_option maxRecDepth 20000 in
theorem gX4_saveState_X4_copyState : GoodIn wsX4_saveState (va_wsS RX4 148 yX4_copyState wsX4_copyState) := goodIn_app (goodIn_of _ (by decide +kernel)) ggX4_saveState_X4_copyState
theorem dX4_saveState_0 : decode cX4_saveState 0 = .ok (.aload_n 0, 1) := by decide +kernel
theorem dX4_saveState_1 : decode cX4_saveState 1 = .ok (.getfield 154, 3) := by decide +kernel
theorem dX4_saveState_4 : decode cX4_saveState 4 = .ok (.bipush 6, 2) := by decide +kernel
theorem dX4_saveState_6 : decode cX4_saveState 6 = .ok (.if_icmp .lt 7, 3) := by decide +kernel
theorem dX4_saveState_9 : decode cX4_saveState 9 = .ok (.aload_n 0, 1) := by decide +kernel
theorem dX4_saveState_10 : decode cX4_saveState 10 = .ok (.invokevirtual 288, 3) := by decide +kernel
theorem dX4_saveState_13 : decode cX4_saveState 13 = .ok (.aload_n 0, 1) := by decide +kernel
theorem dX4_saveState_14 : decode cX4_saveState 14 = .ok (.getfield 12, 3) := by decide +kernel
theorem dX4_saveState_17 : decode cX4_saveState 17 = .ok (.aload_n 0, 1) := by decide +kernel
theorem dX4_saveState_18 : decode cX4_saveState 18 = .ok (.getfield 19, 3) := by decide +kernel
theorem dX4_saveState_21 : decode cX4_saveState 21 = .ok (.aload_n 0, 1) := by decide +kernel
theorem dX4_saveState_22 : decode cX4_saveState 22 = .ok (.getfield 154, 3) := by decide +kernel
theorem dX4_saveState_25 : decode cX4_saveState 25 = .ok (.aaload, 1) := by decide +kernel
theorem dX4_saveState_26 : decode cX4_saveState 26 = .ok (.invokestatic 148, 3) := by decide +kernel
theorem dX4_saveState_29 : decode cX4_saveState 29 = .ok (.aload_n 0, 1) := by decide +kernel
theorem dX4_saveState_30 : decode cX4_saveState 30 = .ok (.dup, 1) := by decide +kernel
theorem dX4_saveState_31 : decode cX4_saveState 31 = .ok (.getfield 154, 3) := by decide +kernel
theorem dX4_saveState_34 : decode cX4_saveState 34 = .ok (.iconst 1, 1) := by decide +kernel
theorem dX4_saveState_35 : decode cX4_saveState 35 = .ok (.iadd, 1) := by decide +kernel
theorem dX4_saveState_36 : decode cX4_saveState 36 = .ok (.putfield 154, 3) := by decide +kernel
theorem dX4_saveState_39 : decode cX4_saveState 39 = .ok (.return_, 1) := by decide +kernel
theorem dX4_dropOldest_0 : decode cX4_dropOldest 0 = .ok (.aload_n 0, 1) := by decide +kernel
theorem dX4_dropOldest_1 : decode cX4_dropOldest 1 = .ok (.getfield 19, 3) := by decide +kernel
theorem dX4_dropOldest_4 : decode cX4_dropOldest 4 = .ok (.iconst 0, 1) := by decide +kernel
theorem dX4_dropOldest_5 : decode cX4_dropOldest 5 = .ok (.aaload, 1) := by decide +kernel
theorem dX4_dropOldest_6 : decode cX4_dropOldest 6 = .ok (.astore_n 1, 1) := by decide +kernel
theorem dX4_dropOldest_7 : decode cX4_dropOldest 7 = .ok (.iconst 1, 1) := by decide +kernel
theorem dX4_dropOldest_8 : decode cX4_dropOldest 8 = .ok (.istore_n 2, 1) := by decide +kernel
theorem dX4_dropOldest_9 : decode cX4_dropOldest 9 = .ok (.iload_n 2, 1) := by decide +kernel
theorem dX4_dropOldest_10 : decode cX4_dropOldest 10 = .ok (.bipush 6, 2) := by decide +kernel
theorem dX4_dropOldest_12 : decode cX4_dropOldest 12 = .ok (.if_icmp .ge 23, 3) := by decide +kernel
theorem dX4_dropOldest_15 : decode cX4_dropOldest 15 = .ok (.aload_n 0, 1) := by decide +kernel
theorem dX4_dropOldest_16 : decode cX4_dropOldest 16 = .ok (.getfield 19, 3) := by decide +kernel
theorem dX4_dropOldest_19 : decode cX4_dropOldest 19 = .ok (.iload_n 2, 1) := by decide +kernel
theorem dX4_dropOldest_20 : decode cX4_dropOldest 20 = .ok (.iconst 1, 1) := by decide +kernel
theorem dX4_dropOldest_21 : decode cX4_dropOldest 21 = .ok (.isub, 1) := by decide +kernel
theorem dX4_dropOldest_22 : decode cX4_dropOldest 22 = .ok (.aload_n 0, 1) := by decide +kernel
theorem dX4_dropOldest_23 : decode cX4_dropOldest 23 = .ok (.getfield 19, 3) := by decide +kernel
theorem dX4_dropOldest_26 : decode cX4_dropOldest 26 = .ok (.iload_n 2, 1) := by decide +kernel
theorem dX4_dropOldest_27 : decode cX4_dropOldest 27 = .ok (.aaload, 1) := by decide +kernel
theorem dX4_dropOldest_28 : decode cX4_dropOldest 28 = .ok (.aastore, 1) := by decide +kernel
theorem dX4_dropOldest_29 : decode cX4_dropOldest 29 = .ok (.iinc 2 1, 3) := by decide +kernel
theorem dX4_dropOldest_32 : decode cX4_dropOldest 32 = .ok (.goto (-23), 3) := by decide +kernel
theorem dX4_dropOldest_35 : decode cX4_dropOldest 35 = .ok (.aload_n 0, 1) := by decide +kernel
theorem dX4_dropOldest_36 : decode cX4_dropOldest 36 = .ok (.getfield 19, 3) := by decide +kernel
theorem dX4_dropOldest_39 : decode cX4_dropOldest 39 = .ok (.iconst 5, 1) := by decide +kernel
theorem dX4_dropOldest_40 : decode cX4_dropOldest 40 = .ok (.aload_n 1, 1) := by decide +kernel
theorem dX4_dropOldest_41 : decode cX4_dropOldest 41 = .ok (.aastore, 1) := by decide +kernel
theorem dX4_dropOldest_42 : decode cX4_dropOldest 42 = .ok (.aload_n 0, 1) := by decide +kernel
theorem dX4_dropOldest_43 : decode cX4_dropOldest 43 = .ok (.iconst 5, 1) := by decide +kernel
theorem dX4_dropOldest_44 : decode cX4_dropOldest 44 = .ok (.putfield 154, 3) := by decide +kernel
theorem dX4_dropOldest_47 : decode cX4_dropOldest 47 = .ok (.return_, 1) := by decide +kernel
set_option maxRecDepth 20000 in
theorem ggX4_copyState_X1_copyGraph : GoodIn wsX4_copyState wsX1_copyGraph := goodIn_r _ [5, 6, 7, 8, 9, 20, 21, 22, 23, 24, 25, 26, 27, 28, 29] (by decide +kernel) (by decide +kernel)
set_option maxRecDepth 20000 in
theorem gX4_copyState_X1_copyGraph : GoodIn wsX4_copyState (wsV RX4 137 RX1 yX1_copyGraph wsX1_copyGraph) := goodIn_app (goodIn_of _ (by decide +kernel)) ggX4_copyState_X1_copyGraph
set_option maxRecDepth 20000 in
theorem ggX4_copyState_X1_copySplitting : GoodIn wsX4_copyState wsX1_copySplitting := goodIn_r _ [13, 14, 15, 16, 17, 18, 19, 20, 21, 22, 23, 24, 25, 26, 27, 28, 29] (by decide +kernel) (by decide +kernel)
set_option maxRecDepth 20000 in
theorem gX4_copyState_X1_copySplitting : GoodIn wsX4_copyState (wsV RX4 291 RX1 yX1_copySplitting wsX1_copySplitting) := goodIn_app (goodIn_of _ (by decide +kernel)) ggX4_copyState_X1_copySplitting
theorem dX4_copyState_0 : decode cX4_copyState 0 = .ok (.aload_n 0, 1) := by decide +kernel
theorem dX4_copyState_1 : decode cX4_copyState 1 = .ok (.ifnull 7, 3) := by decide +kernel
theorem dX4_copyState_4 : decode cX4_copyState 4 = .ok (.aload_n 1, 1) := by decide +kernel
theorem dX4_copyState_5 : decode cX4_copyState 5 = .ok (.ifnonnull 4, 3) := by decide +kernel
theorem dX4_copyState_8 : decode cX4_copyState 8 = .ok (.return_, 1) := by decide +kernel
theorem dX4_copyState_9 : decode cX4_copyState 9 = .ok (.aload_n 1, 1) := by decide +kernel
theorem dX4_copyState_10 : decode cX4_copyState 10 = .ok (.aload_n 0, 1) := by decide +kernel
theorem dX4_copyState_11 : decode cX4_copyState 11 = .ok (.invokevirtual 137, 3) := by decide +kernel
theorem dX4_copyState_14 : decode cX4_copyState 14 = .ok (.aload_n 1, 1) := by decide +kernel
theorem dX4_copyState_15 : decode cX4_copyState 15 = .ok (.aload_n 0, 1) := by decide +kernel
theorem dX4_copyState_16 : decode cX4_copyState 16 = .ok (.invokevirtual 291, 3) := by decide +kernel
theorem dX4_copyState_19 : decode cX4_copyState 19 = .ok (.return_, 1) := by decide +kernel
set_option maxRecDepth 20000 in
theorem ggX4_findHeaviest_X1_weightOf : GoodIn wsX4_findHeaviest wsX1_weightOf := goodIn_r _ [8, 9, 10, 11, 12, 28, 29, 30, 31, 32, 33, 34, 35, 36, 37] (by decide +kernel) (by decide +kernel)
set_option maxRecDepth 20000 in
theorem gX4_findHeaviest_X1_weightOf : GoodIn wsX4_findHeaviest (wsV RX4 226 RX1 yX1_weightOf wsX1_weightOf) := goodIn_app (goodIn_of _ (by decide +kernel)) ggX4_findHeaviest_X1_weightOf
theorem dX4_findHeaviest_0 : decode cX4_findHeaviest 0 = .ok (.iconst (-1), 1) := by decide +kernel
theorem dX4_findHeaviest_1 : decode cX4_findHeaviest 1 = .ok (.istore_n 2, 1) := by decide +kernel
theorem dX4_findHeaviest_2 : decode cX4_findHeaviest 2 = .ok (.iconst (-1), 1) := by decide +kernel
theorem dX4_findHeaviest_3 : decode cX4_findHeaviest 3 = .ok (.istore_n 3, 1) := by decide +kernel
theorem dX4_findHeaviest_4 : decode cX4_findHeaviest 4 = .ok (.iconst 0, 1) := by decide +kernel
theorem dX4_findHeaviest_5 : decode cX4_findHeaviest 5 = .ok (.istore 4, 2) := by decide +kernel
theorem dX4_findHeaviest_7 : decode cX4_findHeaviest 7 = .ok (.iload 4, 2) := by decide +kernel
theorem dX4_findHeaviest_9 : decode cX4_findHeaviest 9 = .ok (.aload_n 0, 1) := by decide +kernel
theorem dX4_findHeaviest_10 : decode cX4_findHeaviest 10 = .ok (.getfield 40, 3) := by decide +kernel
theorem dX4_findHeaviest_13 : decode cX4_findHeaviest 13 = .ok (.getfield 204, 3) := by decide +kernel
theorem dX4_findHeaviest_16 : decode cX4_findHeaviest 16 = .ok (.if_icmp .ge 53, 3) := by decide +kernel
theorem dX4_findHeaviest_19 : decode cX4_findHeaviest 19 = .ok (.iload 4, 2) := by decide +kernel
theorem dX4_findHeaviest_21 : decode cX4_findHeaviest 21 = .ok (.sipush 512, 3) := by decide +kernel
theorem dX4_findHeaviest_24 : decode cX4_findHeaviest 24 = .ok (.if_icmp .ge 45, 3) := by decide +kernel
theorem dX4_findHeaviest_27 : decode cX4_findHeaviest 27 = .ok (.aload_n 1, 1) := by decide +kernel
theorem dX4_findHeaviest_28 : decode cX4_findHeaviest 28 = .ok (.aload_n 0, 1) := by decide +kernel
theorem dX4_findHeaviest_29 : decode cX4_findHeaviest 29 = .ok (.getfield 40, 3) := by decide +kernel
theorem dX4_findHeaviest_32 : decode cX4_findHeaviest 32 = .ok (.getfield 231, 3) := by decide +kernel
theorem dX4_findHeaviest_35 : decode cX4_findHeaviest 35 = .ok (.iload 4, 2) := by decide +kernel
theorem dX4_findHeaviest_37 : decode cX4_findHeaviest 37 = .ok (.iaload, 1) := by decide +kernel
theorem dX4_findHeaviest_38 : decode cX4_findHeaviest 38 = .ok (.invokevirtual 226, 3) := by decide +kernel
theorem dX4_findHeaviest_41 : decode cX4_findHeaviest 41 = .ok (.istore 5, 2) := by decide +kernel
theorem dX4_findHeaviest_43 : decode cX4_findHeaviest 43 = .ok (.iload 5, 2) := by decide +kernel
theorem dX4_findHeaviest_45 : decode cX4_findHeaviest 45 = .ok (.iload_n 3, 1) := by decide +kernel
theorem dX4_findHeaviest_46 : decode cX4_findHeaviest 46 = .ok (.if_icmp .le 17, 3) := by decide +kernel
theorem dX4_findHeaviest_49 : decode cX4_findHeaviest 49 = .ok (.iload 5, 2) := by decide +kernel
theorem dX4_findHeaviest_51 : decode cX4_findHeaviest 51 = .ok (.istore_n 3, 1) := by decide +kernel
theorem dX4_findHeaviest_52 : decode cX4_findHeaviest 52 = .ok (.aload_n 0, 1) := by decide +kernel
theorem dX4_findHeaviest_53 : decode cX4_findHeaviest 53 = .ok (.getfield 40, 3) := by decide +kernel
theorem dX4_findHeaviest_56 : decode cX4_findHeaviest 56 = .ok (.getfield 231, 3) := by decide +kernel
theorem dX4_findHeaviest_59 : decode cX4_findHeaviest 59 = .ok (.iload 4, 2) := by decide +kernel
theorem dX4_findHeaviest_61 : decode cX4_findHeaviest 61 = .ok (.iaload, 1) := by decide +kernel
theorem dX4_findHeaviest_62 : decode cX4_findHeaviest 62 = .ok (.istore_n 2, 1) := by decide +kernel
theorem dX4_findHeaviest_63 : decode cX4_findHeaviest 63 = .ok (.iinc 4 1, 3) := by decide +kernel
theorem dX4_findHeaviest_66 : decode cX4_findHeaviest 66 = .ok (.goto (-59), 3) := by decide +kernel
theorem dX4_findHeaviest_69 : decode cX4_findHeaviest 69 = .ok (.iload_n 2, 1) := by decide +kernel
theorem dX4_findHeaviest_70 : decode cX4_findHeaviest 70 = .ok (.ireturn, 1) := by decide +kernel
set_option maxRecDepth 20000 in
theorem ggX4_takeHeaviest_X4_findHeaviest : GoodIn wsX4_takeHeaviest wsX4_findHeaviest := goodIn_r _ [7, 8, 9, 10, 11, 12, 13, 14, 15, 16, 17, 6, 18, 37, 38, 39, 40, 41, 42, 43, 44, 45, 46, 47, 48, 49, 50, 51, 27, 28, 29, 30, 31, 32, 33, 34, 35, 36] (by decide +kernel) (by decide +kernel)
set_option maxRecDepth 20000 in
theorem gX4_takeHeaviest_X4_findHeaviest : GoodIn wsX4_takeHeaviest (wsV RX4 223 RX4 yX4_findHeaviest wsX4_findHeaviest) := goodIn_app (goodIn_of _ (by decide +kernel)) ggX4_takeHeaviest_X4_findHeaviest
set_option maxRecDepth 20000 in
theorem ggX4_takeHeaviest_X1_weightOf : GoodIn wsX4_takeHeaviest wsX1_weightOf := goodIn_r _ [15, 16, 17, 6, 18, 27, 28, 29, 30, 31, 32, 33, 34, 35, 36] (by decide +kernel) (by decide +kernel)
set_option maxRecDepth 20000 in
theorem gX4_takeHeaviest_X1_weightOf : GoodIn wsX4_takeHeaviest (wsV RX4 226 RX1 yX1_weightOf wsX1_weightOf) := goodIn_app (goodIn_of _ (by decide +kernel)) ggX4_takeHeaviest_X1_weightOf
set_option maxRecDepth 20000 in
theorem ggX4_takeHeaviest_X1_takeWay : GoodIn wsX4_takeHeaviest wsX1_takeWay := goodIn_r _ [22, 23, 24, 25, 26, 16, 17, 6, 18, 27, 28, 29, 30, 31, 32, 33, 34, 35, 36] (by decide +kernel) (by decide +kernel)
set_option maxRecDepth 20000 in
theorem gX4_takeHeaviest_X1_takeWay : GoodIn wsX4_takeHeaviest (wsV RX4 294 RX1 yX1_takeWay wsX1_takeWay) := goodIn_app (goodIn_of _ (by decide +kernel)) ggX4_takeHeaviest_X1_takeWay
theorem dX4_takeHeaviest_0 : decode cX4_takeHeaviest 0 = .ok (.aload_n 0, 1) := by decide +kernel
theorem dX4_takeHeaviest_1 : decode cX4_takeHeaviest 1 = .ok (.aload_n 1, 1) := by decide +kernel
theorem dX4_takeHeaviest_2 : decode cX4_takeHeaviest 2 = .ok (.invokevirtual 223, 3) := by decide +kernel
theorem dX4_takeHeaviest_5 : decode cX4_takeHeaviest 5 = .ok (.istore_n 2, 1) := by decide +kernel
theorem dX4_takeHeaviest_6 : decode cX4_takeHeaviest 6 = .ok (.iload_n 2, 1) := by decide +kernel
theorem dX4_takeHeaviest_7 : decode cX4_takeHeaviest 7 = .ok (.iconst (-1), 1) := by decide +kernel
theorem dX4_takeHeaviest_8 : decode cX4_takeHeaviest 8 = .ok (.if_icmp .ne 7, 3) := by decide +kernel
theorem dX4_takeHeaviest_11 : decode cX4_takeHeaviest 11 = .ok (.iconst 0, 1) := by decide +kernel
theorem dX4_takeHeaviest_12 : decode cX4_takeHeaviest 12 = .ok (.goto 8, 3) := by decide +kernel
theorem dX4_takeHeaviest_15 : decode cX4_takeHeaviest 15 = .ok (.aload_n 1, 1) := by decide +kernel
theorem dX4_takeHeaviest_16 : decode cX4_takeHeaviest 16 = .ok (.iload_n 2, 1) := by decide +kernel
theorem dX4_takeHeaviest_17 : decode cX4_takeHeaviest 17 = .ok (.invokevirtual 226, 3) := by decide +kernel
theorem dX4_takeHeaviest_20 : decode cX4_takeHeaviest 20 = .ok (.istore_n 3, 1) := by decide +kernel
theorem dX4_takeHeaviest_21 : decode cX4_takeHeaviest 21 = .ok (.iload_n 3, 1) := by decide +kernel
theorem dX4_takeHeaviest_22 : decode cX4_takeHeaviest 22 = .ok (.ifCond .le 12, 3) := by decide +kernel
theorem dX4_takeHeaviest_25 : decode cX4_takeHeaviest 25 = .ok (.aload_n 1, 1) := by decide +kernel
theorem dX4_takeHeaviest_26 : decode cX4_takeHeaviest 26 = .ok (.getfield 107, 3) := by decide +kernel
theorem dX4_takeHeaviest_29 : decode cX4_takeHeaviest 29 = .ok (.bipush 12, 2) := by decide +kernel
theorem dX4_takeHeaviest_31 : decode cX4_takeHeaviest 31 = .ok (.if_icmp .lt 15, 3) := by decide +kernel
theorem dX4_takeHeaviest_34 : decode cX4_takeHeaviest 34 = .ok (.aload_n 1, 1) := by decide +kernel
theorem dX4_takeHeaviest_35 : decode cX4_takeHeaviest 35 = .ok (.dup, 1) := by decide +kernel
theorem dX4_takeHeaviest_36 : decode cX4_takeHeaviest 36 = .ok (.getfield 216, 3) := by decide +kernel
theorem dX4_takeHeaviest_39 : decode cX4_takeHeaviest 39 = .ok (.iconst 1, 1) := by decide +kernel
theorem dX4_takeHeaviest_40 : decode cX4_takeHeaviest 40 = .ok (.iadd, 1) := by decide +kernel
theorem dX4_takeHeaviest_41 : decode cX4_takeHeaviest 41 = .ok (.putfield 216, 3) := by decide +kernel
theorem dX4_takeHeaviest_44 : decode cX4_takeHeaviest 44 = .ok (.iconst 0, 1) := by decide +kernel
theorem dX4_takeHeaviest_45 : decode cX4_takeHeaviest 45 = .ok (.ireturn, 1) := by decide +kernel
theorem dX4_takeHeaviest_46 : decode cX4_takeHeaviest 46 = .ok (.aload_n 1, 1) := by decide +kernel
theorem dX4_takeHeaviest_47 : decode cX4_takeHeaviest 47 = .ok (.iload_n 2, 1) := by decide +kernel
theorem dX4_takeHeaviest_48 : decode cX4_takeHeaviest 48 = .ok (.iload_n 3, 1) := by decide +kernel
theorem dX4_takeHeaviest_49 : decode cX4_takeHeaviest 49 = .ok (.invokevirtual 294, 3) := by decide +kernel
theorem dX4_takeHeaviest_52 : decode cX4_takeHeaviest 52 = .ok (.iload_n 3, 1) := by decide +kernel
theorem dX4_takeHeaviest_53 : decode cX4_takeHeaviest 53 = .ok (.ireturn, 1) := by decide +kernel
set_option maxRecDepth 20000 in
theorem ggX4_takeAll_X4_takeHeaviest : GoodIn wsX4_takeAll wsX4_takeHeaviest := goodIn_r _ [5, 6, 7, 8, 9, 10, 4, 11, 12, 13, 14, 15, 16, 17, 18, 19, 20, 21, 22, 23, 24, 25, 26, 27, 28, 29, 30, 31, 32, 33, 34, 35, 36, 37, 38, 39, 40, 41, 42, 43, 44, 45, 46, 47, 48, 49, 50, 51, 52, 53, 54, 55] (by decide +kernel) (by decide +kernel)
set_option maxRecDepth 20000 in
theorem gX4_takeAll_X4_takeHeaviest : GoodIn wsX4_takeAll (wsV RX4 100 RX4 yX4_takeHeaviest wsX4_takeHeaviest) := goodIn_app (goodIn_of _ (by decide +kernel)) ggX4_takeAll_X4_takeHeaviest
theorem dX4_takeAll_0 : decode cX4_takeAll 0 = .ok (.iconst 0, 1) := by decide +kernel
theorem dX4_takeAll_1 : decode cX4_takeAll 1 = .ok (.istore_n 2, 1) := by decide +kernel
theorem dX4_takeAll_2 : decode cX4_takeAll 2 = .ok (.iload_n 2, 1) := by decide +kernel
theorem dX4_takeAll_3 : decode cX4_takeAll 3 = .ok (.bipush 12, 2) := by decide +kernel
theorem dX4_takeAll_5 : decode cX4_takeAll 5 = .ok (.if_icmp .gt 17, 3) := by decide +kernel
theorem dX4_takeAll_8 : decode cX4_takeAll 8 = .ok (.aload_n 0, 1) := by decide +kernel
theorem dX4_takeAll_9 : decode cX4_takeAll 9 = .ok (.aload_n 1, 1) := by decide +kernel
theorem dX4_takeAll_10 : decode cX4_takeAll 10 = .ok (.invokevirtual 100, 3) := by decide +kernel
theorem dX4_takeAll_13 : decode cX4_takeAll 13 = .ok (.ifCond .le 9, 3) := by decide +kernel
theorem dX4_takeAll_16 : decode cX4_takeAll 16 = .ok (.iinc 2 1, 3) := by decide +kernel
theorem dX4_takeAll_19 : decode cX4_takeAll 19 = .ok (.goto (-17), 3) := by decide +kernel
theorem dX4_takeAll_22 : decode cX4_takeAll 22 = .ok (.iload_n 2, 1) := by decide +kernel
theorem dX4_takeAll_23 : decode cX4_takeAll 23 = .ok (.ireturn, 1) := by decide +kernel
theorem dX5_init_0 : decode cX5_init 0 = .ok (.aload_n 0, 1) := by decide +kernel
theorem dX5_init_1 : decode cX5_init 1 = .ok (.invokespecial 1, 3) := by decide +kernel
theorem dX5_init_4 : decode cX5_init 4 = .ok (.aload_n 0, 1) := by decide +kernel
theorem dX5_init_5 : decode cX5_init 5 = .ok (.bipush 72, 2) := by decide +kernel
theorem dX5_init_7 : decode cX5_init 7 = .ok (.newarray .int, 2) := by decide +kernel
theorem dX5_init_9 : decode cX5_init 9 = .ok (.putfield 7, 3) := by decide +kernel
theorem dX5_init_12 : decode cX5_init 12 = .ok (.aload_n 0, 1) := by decide +kernel
theorem dX5_init_13 : decode cX5_init 13 = .ok (.bipush 72, 2) := by decide +kernel
theorem dX5_init_15 : decode cX5_init 15 = .ok (.newarray .int, 2) := by decide +kernel
theorem dX5_init_17 : decode cX5_init 17 = .ok (.putfield 13, 3) := by decide +kernel
theorem dX5_init_20 : decode cX5_init 20 = .ok (.aload_n 0, 1) := by decide +kernel
theorem dX5_init_21 : decode cX5_init 21 = .ok (.sipush 144, 3) := by decide +kernel
theorem dX5_init_24 : decode cX5_init 24 = .ok (.newarray .int, 2) := by decide +kernel
theorem dX5_init_26 : decode cX5_init 26 = .ok (.putfield 16, 3) := by decide +kernel
theorem dX5_init_29 : decode cX5_init 29 = .ok (.aload_n 0, 1) := by decide +kernel
theorem dX5_init_30 : decode cX5_init 30 = .ok (.iconst 2, 1) := by decide +kernel
theorem dX5_init_31 : decode cX5_init 31 = .ok (.newarray .boolean, 2) := by decide +kernel
theorem dX5_init_33 : decode cX5_init 33 = .ok (.putfield 19, 3) := by decide +kernel
theorem dX5_init_36 : decode cX5_init 36 = .ok (.aload_n 0, 1) := by decide +kernel
theorem dX5_init_37 : decode cX5_init 37 = .ok (.sipush 432, 3) := by decide +kernel
theorem dX5_init_40 : decode cX5_init 40 = .ok (.newarray .int, 2) := by decide +kernel
theorem dX5_init_42 : decode cX5_init 42 = .ok (.putfield 23, 3) := by decide +kernel
theorem dX5_init_45 : decode cX5_init 45 = .ok (.aload_n 0, 1) := by decide +kernel
theorem dX5_init_46 : decode cX5_init 46 = .ok (.bipush 60, 2) := by decide +kernel
theorem dX5_init_48 : decode cX5_init 48 = .ok (.newarray .int, 2) := by decide +kernel
theorem dX5_init_50 : decode cX5_init 50 = .ok (.putfield 26, 3) := by decide +kernel
theorem dX5_init_53 : decode cX5_init 53 = .ok (.aload_n 0, 1) := by decide +kernel
theorem dX5_init_54 : decode cX5_init 54 = .ok (.getfield 7, 3) := by decide +kernel
theorem dX5_init_57 : decode cX5_init 57 = .ok (.bipush 18, 2) := by decide +kernel
theorem dX5_init_59 : decode cX5_init 59 = .ok (.iconst 1, 1) := by decide +kernel
theorem dX5_init_60 : decode cX5_init 60 = .ok (.iastore, 1) := by decide +kernel
theorem dX5_init_61 : decode cX5_init 61 = .ok (.aload_n 0, 1) := by decide +kernel
theorem dX5_init_62 : decode cX5_init 62 = .ok (.getfield 7, 3) := by decide +kernel
theorem dX5_init_65 : decode cX5_init 65 = .ok (.bipush 26, 2) := by decide +kernel
theorem dX5_init_67 : decode cX5_init 67 = .ok (.iconst 2, 1) := by decide +kernel
theorem dX5_init_68 : decode cX5_init 68 = .ok (.iastore, 1) := by decide +kernel
theorem dX5_init_69 : decode cX5_init 69 = .ok (.return_, 1) := by decide +kernel
theorem dX5_thrown_0 : decode cX5_thrown 0 = .ok (.aload_n 0, 1) := by decide +kernel
theorem dX5_thrown_1 : decode cX5_thrown 1 = .ok (.getfield 29, 3) := by decide +kernel
theorem dX5_thrown_4 : decode cX5_thrown 4 = .ok (.ireturn, 1) := by decide +kernel
theorem dX5_in_0 : decode cX5_in 0 = .ok (.iload_n 0, 1) := by decide +kernel
theorem dX5_in_1 : decode cX5_in 1 = .ok (.iload_n 1, 1) := by decide +kernel
theorem dX5_in_2 : decode cX5_in 2 = .ok (.if_icmp .lt 12, 3) := by decide +kernel
theorem dX5_in_5 : decode cX5_in 5 = .ok (.iload_n 0, 1) := by decide +kernel
theorem dX5_in_6 : decode cX5_in 6 = .ok (.iload_n 2, 1) := by decide +kernel
theorem dX5_in_7 : decode cX5_in 7 = .ok (.if_icmp .gt 7, 3) := by decide +kernel
theorem dX5_in_10 : decode cX5_in 10 = .ok (.iconst 1, 1) := by decide +kernel
theorem dX5_in_11 : decode cX5_in 11 = .ok (.goto 4, 3) := by decide +kernel
theorem dX5_in_14 : decode cX5_in 14 = .ok (.iconst 0, 1) := by decide +kernel
theorem dX5_in_15 : decode cX5_in 15 = .ok (.ireturn, 1) := by decide +kernel
set_option maxRecDepth 20000 in
theorem ggX5_isPiece_X5_in : GoodIn wsX5_isPiece wsX5_in := goodIn_r _ [4] (by decide +kernel) (by decide +kernel)
set_option maxRecDepth 20000 in
theorem gX5_isPiece_X5_in : GoodIn wsX5_isPiece (va_wsS RX5 33 yX5_in wsX5_in) := goodIn_app (goodIn_of _ (by decide +kernel)) ggX5_isPiece_X5_in
theorem dX5_isPiece_0 : decode cX5_isPiece 0 = .ok (.iload_n 0, 1) := by decide +kernel
theorem dX5_isPiece_1 : decode cX5_isPiece 1 = .ok (.iconst 0, 1) := by decide +kernel
theorem dX5_isPiece_2 : decode cX5_isPiece 2 = .ok (.bipush 8, 2) := by decide +kernel
theorem dX5_isPiece_4 : decode cX5_isPiece 4 = .ok (.invokestatic 33, 3) := by decide +kernel
theorem dX5_isPiece_7 : decode cX5_isPiece 7 = .ok (.ireturn, 1) := by decide +kernel
theorem dX5_holds_0 : decode cX5_holds 0 = .ok (.aload_n 0, 1) := by decide +kernel
theorem dX5_holds_1 : decode cX5_holds 1 = .ok (.iload_n 1, 1) := by decide +kernel
theorem dX5_holds_2 : decode cX5_holds 2 = .ok (.putfield 29, 3) := by decide +kernel
theorem dX5_holds_5 : decode cX5_holds 5 = .ok (.iload_n 1, 1) := by decide +kernel
theorem dX5_holds_6 : decode cX5_holds 6 = .ok (.ifCond .ne 7, 3) := by decide +kernel
theorem dX5_holds_9 : decode cX5_holds 9 = .ok (.iconst 1, 1) := by decide +kernel
theorem dX5_holds_10 : decode cX5_holds 10 = .ok (.goto 4, 3) := by decide +kernel
theorem dX5_holds_13 : decode cX5_holds 13 = .ok (.iconst 0, 1) := by decide +kernel
theorem dX5_holds_14 : decode cX5_holds 14 = .ok (.ireturn, 1) := by decide +kernel
theorem dX5_save_0 : decode cX5_save 0 = .ok (.aload_n 0, 1) := by decide +kernel
theorem dX5_save_1 : decode cX5_save 1 = .ok (.getfield 37, 3) := by decide +kernel
theorem dX5_save_4 : decode cX5_save 4 = .ok (.bipush 6, 2) := by decide +kernel
theorem dX5_save_6 : decode cX5_save 6 = .ok (.if_icmp .ne 43, 3) := by decide +kernel
theorem dX5_save_9 : decode cX5_save 9 = .ok (.iconst 0, 1) := by decide +kernel
theorem dX5_save_10 : decode cX5_save 10 = .ok (.istore_n 1, 1) := by decide +kernel
theorem dX5_save_11 : decode cX5_save 11 = .ok (.iload_n 1, 1) := by decide +kernel
theorem dX5_save_12 : decode cX5_save 12 = .ok (.sipush 360, 3) := by decide +kernel
theorem dX5_save_15 : decode cX5_save 15 = .ok (.if_icmp .ge 24, 3) := by decide +kernel
theorem dX5_save_18 : decode cX5_save 18 = .ok (.aload_n 0, 1) := by decide +kernel
theorem dX5_save_19 : decode cX5_save 19 = .ok (.getfield 23, 3) := by decide +kernel
theorem dX5_save_22 : decode cX5_save 22 = .ok (.iload_n 1, 1) := by decide +kernel
theorem dX5_save_23 : decode cX5_save 23 = .ok (.aload_n 0, 1) := by decide +kernel
theorem dX5_save_24 : decode cX5_save 24 = .ok (.getfield 23, 3) := by decide +kernel
theorem dX5_save_27 : decode cX5_save 27 = .ok (.bipush 72, 2) := by decide +kernel
theorem dX5_save_29 : decode cX5_save 29 = .ok (.iload_n 1, 1) := by decide +kernel
theorem dX5_save_30 : decode cX5_save 30 = .ok (.iadd, 1) := by decide +kernel
theorem dX5_save_31 : decode cX5_save 31 = .ok (.iaload, 1) := by decide +kernel
theorem dX5_save_32 : decode cX5_save 32 = .ok (.iastore, 1) := by decide +kernel
theorem dX5_save_33 : decode cX5_save 33 = .ok (.iinc 1 1, 3) := by decide +kernel
theorem dX5_save_36 : decode cX5_save 36 = .ok (.goto (-25), 3) := by decide +kernel
theorem dX5_save_39 : decode cX5_save 39 = .ok (.aload_n 0, 1) := by decide +kernel
theorem dX5_save_40 : decode cX5_save 40 = .ok (.dup, 1) := by decide +kernel
theorem dX5_save_41 : decode cX5_save 41 = .ok (.getfield 37, 3) := by decide +kernel
theorem dX5_save_44 : decode cX5_save 44 = .ok (.iconst 1, 1) := by decide +kernel
theorem dX5_save_45 : decode cX5_save 45 = .ok (.isub, 1) := by decide +kernel
theorem dX5_save_46 : decode cX5_save 46 = .ok (.putfield 37, 3) := by decide +kernel
theorem dX5_save_49 : decode cX5_save 49 = .ok (.iconst 0, 1) := by decide +kernel
theorem dX5_save_50 : decode cX5_save 50 = .ok (.istore_n 1, 1) := by decide +kernel
theorem dX5_save_51 : decode cX5_save 51 = .ok (.iload_n 1, 1) := by decide +kernel
theorem dX5_save_52 : decode cX5_save 52 = .ok (.bipush 72, 2) := by decide +kernel
theorem dX5_save_54 : decode cX5_save 54 = .ok (.if_icmp .ge 29, 3) := by decide +kernel
theorem dX5_save_57 : decode cX5_save 57 = .ok (.aload_n 0, 1) := by decide +kernel
theorem dX5_save_58 : decode cX5_save 58 = .ok (.getfield 23, 3) := by decide +kernel
theorem dX5_save_61 : decode cX5_save 61 = .ok (.bipush 72, 2) := by decide +kernel
theorem dX5_save_63 : decode cX5_save 63 = .ok (.aload_n 0, 1) := by decide +kernel
theorem dX5_save_64 : decode cX5_save 64 = .ok (.getfield 37, 3) := by decide +kernel
theorem dX5_save_67 : decode cX5_save 67 = .ok (.imul, 1) := by decide +kernel
theorem dX5_save_68 : decode cX5_save 68 = .ok (.iload_n 1, 1) := by decide +kernel
theorem dX5_save_69 : decode cX5_save 69 = .ok (.iadd, 1) := by decide +kernel
theorem dX5_save_70 : decode cX5_save 70 = .ok (.aload_n 0, 1) := by decide +kernel
theorem dX5_save_71 : decode cX5_save 71 = .ok (.getfield 7, 3) := by decide +kernel
theorem dX5_save_74 : decode cX5_save 74 = .ok (.iload_n 1, 1) := by decide +kernel
theorem dX5_save_75 : decode cX5_save 75 = .ok (.iaload, 1) := by decide +kernel
theorem dX5_save_76 : decode cX5_save 76 = .ok (.iastore, 1) := by decide +kernel
theorem dX5_save_77 : decode cX5_save 77 = .ok (.iinc 1 1, 3) := by decide +kernel
theorem dX5_save_80 : decode cX5_save 80 = .ok (.goto (-29), 3) := by decide +kernel
theorem dX5_save_83 : decode cX5_save 83 = .ok (.aload_n 0, 1) := by decide +kernel
theorem dX5_save_84 : decode cX5_save 84 = .ok (.dup, 1) := by decide +kernel
theorem dX5_save_85 : decode cX5_save 85 = .ok (.getfield 37, 3) := by decide +kernel
theorem dX5_save_88 : decode cX5_save 88 = .ok (.iconst 1, 1) := by decide +kernel
theorem dX5_save_89 : decode cX5_save 89 = .ok (.iadd, 1) := by decide +kernel
theorem dX5_save_90 : decode cX5_save 90 = .ok (.putfield 37, 3) := by decide +kernel
theorem dX5_save_93 : decode cX5_save 93 = .ok (.return_, 1) := by decide +kernel
theorem dX5_putAside_0 : decode cX5_putAside 0 = .ok (.iconst 0, 1) := by decide +kernel
theorem dX5_putAside_1 : decode cX5_putAside 1 = .ok (.istore_n 1, 1) := by decide +kernel
theorem dX5_putAside_2 : decode cX5_putAside 2 = .ok (.iload_n 1, 1) := by decide +kernel
theorem dX5_putAside_3 : decode cX5_putAside 3 = .ok (.bipush 72, 2) := by decide +kernel
theorem dX5_putAside_5 : decode cX5_putAside 5 = .ok (.if_icmp .ge 21, 3) := by decide +kernel
theorem dX5_putAside_8 : decode cX5_putAside 8 = .ok (.aload_n 0, 1) := by decide +kernel
theorem dX5_putAside_9 : decode cX5_putAside 9 = .ok (.getfield 13, 3) := by decide +kernel
theorem dX5_putAside_12 : decode cX5_putAside 12 = .ok (.iload_n 1, 1) := by decide +kernel
theorem dX5_putAside_13 : decode cX5_putAside 13 = .ok (.aload_n 0, 1) := by decide +kernel
theorem dX5_putAside_14 : decode cX5_putAside 14 = .ok (.getfield 7, 3) := by decide +kernel
theorem dX5_putAside_17 : decode cX5_putAside 17 = .ok (.iload_n 1, 1) := by decide +kernel
theorem dX5_putAside_18 : decode cX5_putAside 18 = .ok (.iaload, 1) := by decide +kernel
theorem dX5_putAside_19 : decode cX5_putAside 19 = .ok (.iastore, 1) := by decide +kernel
theorem dX5_putAside_20 : decode cX5_putAside 20 = .ok (.iinc 1 1, 3) := by decide +kernel
theorem dX5_putAside_23 : decode cX5_putAside 23 = .ok (.goto (-21), 3) := by decide +kernel
theorem dX5_putAside_26 : decode cX5_putAside 26 = .ok (.return_, 1) := by decide +kernel
theorem dX5_putBack_0 : decode cX5_putBack 0 = .ok (.iconst 0, 1) := by decide +kernel
theorem dX5_putBack_1 : decode cX5_putBack 1 = .ok (.istore_n 1, 1) := by decide +kernel
theorem dX5_putBack_2 : decode cX5_putBack 2 = .ok (.iload_n 1, 1) := by decide +kernel
theorem dX5_putBack_3 : decode cX5_putBack 3 = .ok (.bipush 72, 2) := by decide +kernel
theorem dX5_putBack_5 : decode cX5_putBack 5 = .ok (.if_icmp .ge 21, 3) := by decide +kernel
theorem dX5_putBack_8 : decode cX5_putBack 8 = .ok (.aload_n 0, 1) := by decide +kernel
theorem dX5_putBack_9 : decode cX5_putBack 9 = .ok (.getfield 7, 3) := by decide +kernel
theorem dX5_putBack_12 : decode cX5_putBack 12 = .ok (.iload_n 1, 1) := by decide +kernel
theorem dX5_putBack_13 : decode cX5_putBack 13 = .ok (.aload_n 0, 1) := by decide +kernel
theorem dX5_putBack_14 : decode cX5_putBack 14 = .ok (.getfield 13, 3) := by decide +kernel
theorem dX5_putBack_17 : decode cX5_putBack 17 = .ok (.iload_n 1, 1) := by decide +kernel
theorem dX5_putBack_18 : decode cX5_putBack 18 = .ok (.iaload, 1) := by decide +kernel
theorem dX5_putBack_19 : decode cX5_putBack 19 = .ok (.iastore, 1) := by decide +kernel
theorem dX5_putBack_20 : decode cX5_putBack 20 = .ok (.iinc 1 1, 3) := by decide +kernel
theorem dX5_putBack_23 : decode cX5_putBack 23 = .ok (.goto (-21), 3) := by decide +kernel
theorem dX5_putBack_26 : decode cX5_putBack 26 = .ok (.return_, 1) := by decide +kernel
theorem dX5_many_0 : decode cX5_many 0 = .ok (.iconst 0, 1) := by decide +kernel
theorem dX5_many_1 : decode cX5_many 1 = .ok (.istore_n 1, 1) := by decide +kernel
theorem dX5_many_2 : decode cX5_many 2 = .ok (.iconst 0, 1) := by decide +kernel
theorem dX5_many_3 : decode cX5_many 3 = .ok (.istore_n 2, 1) := by decide +kernel
theorem dX5_many_4 : decode cX5_many 4 = .ok (.iload_n 2, 1) := by decide +kernel
theorem dX5_many_5 : decode cX5_many 5 = .ok (.bipush 9, 2) := by decide +kernel
theorem dX5_many_7 : decode cX5_many 7 = .ok (.if_icmp .ge 17, 3) := by decide +kernel
theorem dX5_many_10 : decode cX5_many 10 = .ok (.iload_n 1, 1) := by decide +kernel
theorem dX5_many_11 : decode cX5_many 11 = .ok (.iload_n 0, 1) := by decide +kernel
theorem dX5_many_12 : decode cX5_many 12 = .ok (.iload_n 2, 1) := by decide +kernel
theorem dX5_many_13 : decode cX5_many 13 = .ok (.ishr, 1) := by decide +kernel
theorem dX5_many_14 : decode cX5_many 14 = .ok (.iconst 1, 1) := by decide +kernel
theorem dX5_many_15 : decode cX5_many 15 = .ok (.iand, 1) := by decide +kernel
theorem dX5_many_16 : decode cX5_many 16 = .ok (.iadd, 1) := by decide +kernel
theorem dX5_many_17 : decode cX5_many 17 = .ok (.istore_n 1, 1) := by decide +kernel
theorem dX5_many_18 : decode cX5_many 18 = .ok (.iinc 2 1, 3) := by decide +kernel
theorem dX5_many_21 : decode cX5_many 21 = .ok (.goto (-17), 3) := by decide +kernel
theorem dX5_many_24 : decode cX5_many 24 = .ok (.iload_n 1, 1) := by decide +kernel
theorem dX5_many_25 : decode cX5_many 25 = .ok (.ireturn, 1) := by decide +kernel
theorem dX5_greatest_0 : decode cX5_greatest 0 = .ok (.iconst (-1), 1) := by decide +kernel
theorem dX5_greatest_1 : decode cX5_greatest 1 = .ok (.istore_n 1, 1) := by decide +kernel
theorem dX5_greatest_2 : decode cX5_greatest 2 = .ok (.iconst 0, 1) := by decide +kernel
theorem dX5_greatest_3 : decode cX5_greatest 3 = .ok (.istore_n 2, 1) := by decide +kernel
theorem dX5_greatest_4 : decode cX5_greatest 4 = .ok (.iload_n 2, 1) := by decide +kernel
theorem dX5_greatest_5 : decode cX5_greatest 5 = .ok (.bipush 9, 2) := by decide +kernel
theorem dX5_greatest_7 : decode cX5_greatest 7 = .ok (.if_icmp .ge 24, 3) := by decide +kernel
theorem dX5_greatest_10 : decode cX5_greatest 10 = .ok (.iload_n 0, 1) := by decide +kernel
theorem dX5_greatest_11 : decode cX5_greatest 11 = .ok (.iload_n 2, 1) := by decide +kernel
theorem dX5_greatest_12 : decode cX5_greatest 12 = .ok (.ishr, 1) := by decide +kernel
theorem dX5_greatest_13 : decode cX5_greatest 13 = .ok (.iconst 1, 1) := by decide +kernel
theorem dX5_greatest_14 : decode cX5_greatest 14 = .ok (.iand, 1) := by decide +kernel
theorem dX5_greatest_15 : decode cX5_greatest 15 = .ok (.iconst 1, 1) := by decide +kernel
theorem dX5_greatest_16 : decode cX5_greatest 16 = .ok (.if_icmp .ne 7, 3) := by decide +kernel
theorem dX5_greatest_19 : decode cX5_greatest 19 = .ok (.iload_n 2, 1) := by decide +kernel
theorem dX5_greatest_20 : decode cX5_greatest 20 = .ok (.goto 4, 3) := by decide +kernel
theorem dX5_greatest_23 : decode cX5_greatest 23 = .ok (.iload_n 1, 1) := by decide +kernel
theorem dX5_greatest_24 : decode cX5_greatest 24 = .ok (.istore_n 1, 1) := by decide +kernel
theorem dX5_greatest_25 : decode cX5_greatest 25 = .ok (.iinc 2 1, 3) := by decide +kernel
theorem dX5_greatest_28 : decode cX5_greatest 28 = .ok (.goto (-24), 3) := by decide +kernel
theorem dX5_greatest_31 : decode cX5_greatest 31 = .ok (.iload_n 1, 1) := by decide +kernel
theorem dX5_greatest_32 : decode cX5_greatest 32 = .ok (.ireturn, 1) := by decide +kernel
set_option maxRecDepth 20000 in
theorem ggX5_next_X5_greatest : GoodIn wsX5_next wsX5_greatest := goodIn_r _ [4] (by decide +kernel) (by decide +kernel)
set_option maxRecDepth 20000 in
theorem gX5_next_X5_greatest : GoodIn wsX5_next (va_wsS RX5 40 yX5_greatest wsX5_greatest) := goodIn_app (goodIn_of _ (by decide +kernel)) ggX5_next_X5_greatest
theorem dX5_next_0 : decode cX5_next 0 = .ok (.iload_n 0, 1) := by decide +kernel
theorem dX5_next_1 : decode cX5_next 1 = .ok (.bipush 8, 2) := by decide +kernel
theorem dX5_next_3 : decode cX5_next 3 = .ok (.ishr, 1) := by decide +kernel
theorem dX5_next_4 : decode cX5_next 4 = .ok (.iconst 1, 1) := by decide +kernel
theorem dX5_next_5 : decode cX5_next 5 = .ok (.iand, 1) := by decide +kernel
theorem dX5_next_6 : decode cX5_next 6 = .ok (.ifCond .ne 14, 3) := by decide +kernel
theorem dX5_next_9 : decode cX5_next 9 = .ok (.iload_n 0, 1) := by decide +kernel
theorem dX5_next_10 : decode cX5_next 10 = .ok (.iconst 1, 1) := by decide +kernel
theorem dX5_next_11 : decode cX5_next 11 = .ok (.iload_n 0, 1) := by decide +kernel
theorem dX5_next_12 : decode cX5_next 12 = .ok (.invokestatic 40, 3) := by decide +kernel
theorem dX5_next_15 : decode cX5_next 15 = .ok (.iconst 1, 1) := by decide +kernel
theorem dX5_next_16 : decode cX5_next 16 = .ok (.iadd, 1) := by decide +kernel
theorem dX5_next_17 : decode cX5_next 17 = .ok (.ishl, 1) := by decide +kernel
theorem dX5_next_18 : decode cX5_next 18 = .ok (.ior, 1) := by decide +kernel
theorem dX5_next_19 : decode cX5_next 19 = .ok (.ireturn, 1) := by decide +kernel
theorem dX5_next_20 : decode cX5_next 20 = .ok (.iload_n 0, 1) := by decide +kernel
theorem dX5_next_21 : decode cX5_next 21 = .ok (.sipush (-257), 3) := by decide +kernel
theorem dX5_next_24 : decode cX5_next 24 = .ok (.iand, 1) := by decide +kernel
theorem dX5_next_25 : decode cX5_next 25 = .ok (.istore_n 1, 1) := by decide +kernel
theorem dX5_next_26 : decode cX5_next 26 = .ok (.iload_n 1, 1) := by decide +kernel
theorem dX5_next_27 : decode cX5_next 27 = .ok (.invokestatic 40, 3) := by decide +kernel
theorem dX5_next_30 : decode cX5_next 30 = .ok (.istore_n 2, 1) := by decide +kernel
theorem dX5_next_31 : decode cX5_next 31 = .ok (.iload_n 1, 1) := by decide +kernel
theorem dX5_next_32 : decode cX5_next 32 = .ok (.ifCond .ne 7, 3) := by decide +kernel
theorem dX5_next_35 : decode cX5_next 35 = .ok (.iconst 0, 1) := by decide +kernel
theorem dX5_next_36 : decode cX5_next 36 = .ok (.goto 16, 3) := by decide +kernel
theorem dX5_next_39 : decode cX5_next 39 = .ok (.iload_n 1, 1) := by decide +kernel
theorem dX5_next_40 : decode cX5_next 40 = .ok (.iconst 1, 1) := by decide +kernel
theorem dX5_next_41 : decode cX5_next 41 = .ok (.iload_n 2, 1) := by decide +kernel
theorem dX5_next_42 : decode cX5_next 42 = .ok (.ishl, 1) := by decide +kernel
theorem dX5_next_43 : decode cX5_next 43 = .ok (.iconst (-1), 1) := by decide +kernel
theorem dX5_next_44 : decode cX5_next 44 = .ok (.ixor, 1) := by decide +kernel
theorem dX5_next_45 : decode cX5_next 45 = .ok (.iand, 1) := by decide +kernel
theorem dX5_next_46 : decode cX5_next 46 = .ok (.iconst 1, 1) := by decide +kernel
theorem dX5_next_47 : decode cX5_next 47 = .ok (.iload_n 2, 1) := by decide +kernel
theorem dX5_next_48 : decode cX5_next 48 = .ok (.iconst 1, 1) := by decide +kernel
theorem dX5_next_49 : decode cX5_next 49 = .ok (.iadd, 1) := by decide +kernel
theorem dX5_next_50 : decode cX5_next 50 = .ok (.ishl, 1) := by decide +kernel
theorem dX5_next_51 : decode cX5_next 51 = .ok (.ior, 1) := by decide +kernel
theorem dX5_next_52 : decode cX5_next 52 = .ok (.ireturn, 1) := by decide +kernel
theorem dX5_isWay_0 : decode cX5_isWay 0 = .ok (.iconst (-1), 1) := by decide +kernel
theorem dX5_isWay_1 : decode cX5_isWay 1 = .ok (.istore_n 2, 1) := by decide +kernel
theorem dX5_isWay_2 : decode cX5_isWay 2 = .ok (.iconst 1, 1) := by decide +kernel
theorem dX5_isWay_3 : decode cX5_isWay 3 = .ok (.istore_n 3, 1) := by decide +kernel
theorem dX5_isWay_4 : decode cX5_isWay 4 = .ok (.iconst 0, 1) := by decide +kernel
theorem dX5_isWay_5 : decode cX5_isWay 5 = .ok (.istore 4, 2) := by decide +kernel
theorem dX5_isWay_7 : decode cX5_isWay 7 = .ok (.iload 4, 2) := by decide +kernel
theorem dX5_isWay_9 : decode cX5_isWay 9 = .ok (.bipush 9, 2) := by decide +kernel
theorem dX5_isWay_11 : decode cX5_isWay 11 = .ok (.if_icmp .ge 79, 3) := by decide +kernel
theorem dX5_isWay_14 : decode cX5_isWay 14 = .ok (.iload_n 3, 1) := by decide +kernel
theorem dX5_isWay_15 : decode cX5_isWay 15 = .ok (.ifCond .eq 75, 3) := by decide +kernel
theorem dX5_isWay_18 : decode cX5_isWay 18 = .ok (.iload_n 1, 1) := by decide +kernel
theorem dX5_isWay_19 : decode cX5_isWay 19 = .ok (.iload 4, 2) := by decide +kernel
theorem dX5_isWay_21 : decode cX5_isWay 21 = .ok (.ishr, 1) := by decide +kernel
theorem dX5_isWay_22 : decode cX5_isWay 22 = .ok (.iconst 1, 1) := by decide +kernel
theorem dX5_isWay_23 : decode cX5_isWay 23 = .ok (.iand, 1) := by decide +kernel
theorem dX5_isWay_24 : decode cX5_isWay 24 = .ok (.iconst 1, 1) := by decide +kernel
theorem dX5_isWay_25 : decode cX5_isWay 25 = .ok (.if_icmp .ne 59, 3) := by decide +kernel
theorem dX5_isWay_28 : decode cX5_isWay 28 = .ok (.iload_n 2, 1) := by decide +kernel
theorem dX5_isWay_29 : decode cX5_isWay 29 = .ok (.iconst (-1), 1) := by decide +kernel
theorem dX5_isWay_30 : decode cX5_isWay 30 = .ok (.if_icmp .ne 27, 3) := by decide +kernel
theorem dX5_isWay_33 : decode cX5_isWay 33 = .ok (.aload_n 0, 1) := by decide +kernel
theorem dX5_isWay_34 : decode cX5_isWay 34 = .ok (.getfield 7, 3) := by decide +kernel
theorem dX5_isWay_37 : decode cX5_isWay 37 = .ok (.bipush 18, 2) := by decide +kernel
theorem dX5_isWay_39 : decode cX5_isWay 39 = .ok (.iload 4, 2) := by decide +kernel
theorem dX5_isWay_41 : decode cX5_isWay 41 = .ok (.iadd, 1) := by decide +kernel
theorem dX5_isWay_42 : decode cX5_isWay 42 = .ok (.iaload, 1) := by decide +kernel
theorem dX5_isWay_43 : decode cX5_isWay 43 = .ok (.iconst 1, 1) := by decide +kernel
theorem dX5_isWay_44 : decode cX5_isWay 44 = .ok (.iand, 1) := by decide +kernel
theorem dX5_isWay_45 : decode cX5_isWay 45 = .ok (.iconst 1, 1) := by decide +kernel
theorem dX5_isWay_46 : decode cX5_isWay 46 = .ok (.if_icmp .ne 7, 3) := by decide +kernel
theorem dX5_isWay_49 : decode cX5_isWay 49 = .ok (.iconst 1, 1) := by decide +kernel
theorem dX5_isWay_50 : decode cX5_isWay 50 = .ok (.goto 30, 3) := by decide +kernel
theorem dX5_isWay_53 : decode cX5_isWay 53 = .ok (.iconst 0, 1) := by decide +kernel
theorem dX5_isWay_54 : decode cX5_isWay 54 = .ok (.goto 26, 3) := by decide +kernel
theorem dX5_isWay_57 : decode cX5_isWay 57 = .ok (.aload_n 0, 1) := by decide +kernel
theorem dX5_isWay_58 : decode cX5_isWay 58 = .ok (.getfield 7, 3) := by decide +kernel
theorem dX5_isWay_61 : decode cX5_isWay 61 = .ok (.bipush 27, 2) := by decide +kernel
theorem dX5_isWay_63 : decode cX5_isWay 63 = .ok (.iload_n 2, 1) := by decide +kernel
theorem dX5_isWay_64 : decode cX5_isWay 64 = .ok (.iadd, 1) := by decide +kernel
theorem dX5_isWay_65 : decode cX5_isWay 65 = .ok (.iaload, 1) := by decide +kernel
theorem dX5_isWay_66 : decode cX5_isWay 66 = .ok (.iload 4, 2) := by decide +kernel
theorem dX5_isWay_68 : decode cX5_isWay 68 = .ok (.ishr, 1) := by decide +kernel
theorem dX5_isWay_69 : decode cX5_isWay 69 = .ok (.iconst 1, 1) := by decide +kernel
theorem dX5_isWay_70 : decode cX5_isWay 70 = .ok (.iand, 1) := by decide +kernel
theorem dX5_isWay_71 : decode cX5_isWay 71 = .ok (.iconst 1, 1) := by decide +kernel
theorem dX5_isWay_72 : decode cX5_isWay 72 = .ok (.if_icmp .ne 7, 3) := by decide +kernel
theorem dX5_isWay_75 : decode cX5_isWay 75 = .ok (.iconst 1, 1) := by decide +kernel
theorem dX5_isWay_76 : decode cX5_isWay 76 = .ok (.goto 4, 3) := by decide +kernel
theorem dX5_isWay_79 : decode cX5_isWay 79 = .ok (.iconst 0, 1) := by decide +kernel
theorem dX5_isWay_80 : decode cX5_isWay 80 = .ok (.istore_n 3, 1) := by decide +kernel
theorem dX5_isWay_81 : decode cX5_isWay 81 = .ok (.iload 4, 2) := by decide +kernel
theorem dX5_isWay_83 : decode cX5_isWay 83 = .ok (.istore_n 2, 1) := by decide +kernel
theorem dX5_isWay_84 : decode cX5_isWay 84 = .ok (.iinc 4 1, 3) := by decide +kernel
theorem dX5_isWay_87 : decode cX5_isWay 87 = .ok (.goto (-80), 3) := by decide +kernel
theorem dX5_isWay_90 : decode cX5_isWay 90 = .ok (.iload_n 3, 1) := by decide +kernel
theorem dX5_isWay_91 : decode cX5_isWay 91 = .ok (.ifCond .eq 20, 3) := by decide +kernel
theorem dX5_isWay_94 : decode cX5_isWay 94 = .ok (.aload_n 0, 1) := by decide +kernel
theorem dX5_isWay_95 : decode cX5_isWay 95 = .ok (.getfield 7, 3) := by decide +kernel
theorem dX5_isWay_98 : decode cX5_isWay 98 = .ok (.bipush 18, 2) := by decide +kernel
theorem dX5_isWay_100 : decode cX5_isWay 100 = .ok (.iload_n 2, 1) := by decide +kernel
theorem dX5_isWay_101 : decode cX5_isWay 101 = .ok (.iadd, 1) := by decide +kernel
theorem dX5_isWay_102 : decode cX5_isWay 102 = .ok (.iaload, 1) := by decide +kernel
theorem dX5_isWay_103 : decode cX5_isWay 103 = .ok (.iconst 1, 1) := by decide +kernel
theorem dX5_isWay_104 : decode cX5_isWay 104 = .ok (.if_icmp .le 7, 3) := by decide +kernel
theorem dX5_isWay_107 : decode cX5_isWay 107 = .ok (.iconst 1, 1) := by decide +kernel
theorem dX5_isWay_108 : decode cX5_isWay 108 = .ok (.goto 4, 3) := by decide +kernel
theorem dX5_isWay_111 : decode cX5_isWay 111 = .ok (.iconst 0, 1) := by decide +kernel
theorem dX5_isWay_112 : decode cX5_isWay 112 = .ok (.ireturn, 1) := by decide +kernel
set_option maxRecDepth 20000 in
theorem ggX5_isOpen_X5_isWay : GoodIn wsX5_isOpen wsX5_isWay := goodIn_r _ [6, 1, 7, 8, 9, 10, 11, 12, 13, 14, 15, 16] (by decide +kernel) (by decide +kernel)
set_option maxRecDepth 20000 in
theorem gX5_isOpen_X5_isWay : GoodIn wsX5_isOpen (wsV RX5 44 RX5 yX5_isWay wsX5_isWay) := goodIn_app (goodIn_of _ (by decide +kernel)) ggX5_isOpen_X5_isWay
theorem dX5_isOpen_0 : decode cX5_isOpen 0 = .ok (.aload_n 0, 1) := by decide +kernel
theorem dX5_isOpen_1 : decode cX5_isOpen 1 = .ok (.iload_n 1, 1) := by decide +kernel
theorem dX5_isOpen_2 : decode cX5_isOpen 2 = .ok (.invokevirtual 44, 3) := by decide +kernel
theorem dX5_isOpen_5 : decode cX5_isOpen 5 = .ok (.istore_n 2, 1) := by decide +kernel
theorem dX5_isOpen_6 : decode cX5_isOpen 6 = .ok (.iconst 0, 1) := by decide +kernel
theorem dX5_isOpen_7 : decode cX5_isOpen 7 = .ok (.istore_n 3, 1) := by decide +kernel
theorem dX5_isOpen_8 : decode cX5_isOpen 8 = .ok (.iload_n 3, 1) := by decide +kernel
theorem dX5_isOpen_9 : decode cX5_isOpen 9 = .ok (.bipush 9, 2) := by decide +kernel
theorem dX5_isOpen_11 : decode cX5_isOpen 11 = .ok (.if_icmp .ge 41, 3) := by decide +kernel
theorem dX5_isOpen_14 : decode cX5_isOpen 14 = .ok (.iload_n 2, 1) := by decide +kernel
theorem dX5_isOpen_15 : decode cX5_isOpen 15 = .ok (.ifCond .eq 37, 3) := by decide +kernel
theorem dX5_isOpen_18 : decode cX5_isOpen 18 = .ok (.iload_n 1, 1) := by decide +kernel
theorem dX5_isOpen_19 : decode cX5_isOpen 19 = .ok (.iload_n 3, 1) := by decide +kernel
theorem dX5_isOpen_20 : decode cX5_isOpen 20 = .ok (.ishr, 1) := by decide +kernel
theorem dX5_isOpen_21 : decode cX5_isOpen 21 = .ok (.iconst 1, 1) := by decide +kernel
theorem dX5_isOpen_22 : decode cX5_isOpen 22 = .ok (.iand, 1) := by decide +kernel
theorem dX5_isOpen_23 : decode cX5_isOpen 23 = .ok (.ifCond .eq 17, 3) := by decide +kernel
theorem dX5_isOpen_26 : decode cX5_isOpen 26 = .ok (.aload_n 0, 1) := by decide +kernel
theorem dX5_isOpen_27 : decode cX5_isOpen 27 = .ok (.getfield 7, 3) := by decide +kernel
theorem dX5_isOpen_30 : decode cX5_isOpen 30 = .ok (.bipush 36, 2) := by decide +kernel
theorem dX5_isOpen_32 : decode cX5_isOpen 32 = .ok (.iload_n 3, 1) := by decide +kernel
theorem dX5_isOpen_33 : decode cX5_isOpen 33 = .ok (.iadd, 1) := by decide +kernel
theorem dX5_isOpen_34 : decode cX5_isOpen 34 = .ok (.iaload, 1) := by decide +kernel
theorem dX5_isOpen_35 : decode cX5_isOpen 35 = .ok (.iload_n 1, 1) := by decide +kernel
theorem dX5_isOpen_36 : decode cX5_isOpen 36 = .ok (.iand, 1) := by decide +kernel
theorem dX5_isOpen_37 : decode cX5_isOpen 37 = .ok (.ifCond .ne 7, 3) := by decide +kernel
theorem dX5_isOpen_40 : decode cX5_isOpen 40 = .ok (.iconst 1, 1) := by decide +kernel
theorem dX5_isOpen_41 : decode cX5_isOpen 41 = .ok (.goto 4, 3) := by decide +kernel
theorem dX5_isOpen_44 : decode cX5_isOpen 44 = .ok (.iconst 0, 1) := by decide +kernel
theorem dX5_isOpen_45 : decode cX5_isOpen 45 = .ok (.istore_n 2, 1) := by decide +kernel
theorem dX5_isOpen_46 : decode cX5_isOpen 46 = .ok (.iinc 3 1, 3) := by decide +kernel
theorem dX5_isOpen_49 : decode cX5_isOpen 49 = .ok (.goto (-41), 3) := by decide +kernel
theorem dX5_isOpen_52 : decode cX5_isOpen 52 = .ok (.iload_n 2, 1) := by decide +kernel
theorem dX5_isOpen_53 : decode cX5_isOpen 53 = .ok (.ireturn, 1) := by decide +kernel
theorem dX5_weight_0 : decode cX5_weight 0 = .ok (.sipush 1000, 3) := by decide +kernel
theorem dX5_weight_3 : decode cX5_weight 3 = .ok (.istore_n 2, 1) := by decide +kernel
theorem dX5_weight_4 : decode cX5_weight 4 = .ok (.iconst 0, 1) := by decide +kernel
theorem dX5_weight_5 : decode cX5_weight 5 = .ok (.istore_n 3, 1) := by decide +kernel
theorem dX5_weight_6 : decode cX5_weight 6 = .ok (.iload_n 3, 1) := by decide +kernel
theorem dX5_weight_7 : decode cX5_weight 7 = .ok (.bipush 9, 2) := by decide +kernel
theorem dX5_weight_9 : decode cX5_weight 9 = .ok (.if_icmp .ge 45, 3) := by decide +kernel
theorem dX5_weight_12 : decode cX5_weight 12 = .ok (.iload_n 1, 1) := by decide +kernel
theorem dX5_weight_13 : decode cX5_weight 13 = .ok (.iload_n 3, 1) := by decide +kernel
theorem dX5_weight_14 : decode cX5_weight 14 = .ok (.ishr, 1) := by decide +kernel
theorem dX5_weight_15 : decode cX5_weight 15 = .ok (.iconst 1, 1) := by decide +kernel
theorem dX5_weight_16 : decode cX5_weight 16 = .ok (.iand, 1) := by decide +kernel
theorem dX5_weight_17 : decode cX5_weight 17 = .ok (.iconst 1, 1) := by decide +kernel
theorem dX5_weight_18 : decode cX5_weight 18 = .ok (.if_icmp .ne 28, 3) := by decide +kernel
theorem dX5_weight_21 : decode cX5_weight 21 = .ok (.aload_n 0, 1) := by decide +kernel
theorem dX5_weight_22 : decode cX5_weight 22 = .ok (.getfield 7, 3) := by decide +kernel
theorem dX5_weight_25 : decode cX5_weight 25 = .ok (.bipush 9, 2) := by decide +kernel
theorem dX5_weight_27 : decode cX5_weight 27 = .ok (.iload_n 3, 1) := by decide +kernel
theorem dX5_weight_28 : decode cX5_weight 28 = .ok (.iadd, 1) := by decide +kernel
theorem dX5_weight_29 : decode cX5_weight 29 = .ok (.iaload, 1) := by decide +kernel
theorem dX5_weight_30 : decode cX5_weight 30 = .ok (.iload_n 2, 1) := by decide +kernel
theorem dX5_weight_31 : decode cX5_weight 31 = .ok (.if_icmp .ge 15, 3) := by decide +kernel
theorem dX5_weight_34 : decode cX5_weight 34 = .ok (.aload_n 0, 1) := by decide +kernel
theorem dX5_weight_35 : decode cX5_weight 35 = .ok (.getfield 7, 3) := by decide +kernel
theorem dX5_weight_38 : decode cX5_weight 38 = .ok (.bipush 9, 2) := by decide +kernel
theorem dX5_weight_40 : decode cX5_weight 40 = .ok (.iload_n 3, 1) := by decide +kernel
theorem dX5_weight_41 : decode cX5_weight 41 = .ok (.iadd, 1) := by decide +kernel
theorem dX5_weight_42 : decode cX5_weight 42 = .ok (.iaload, 1) := by decide +kernel
theorem dX5_weight_43 : decode cX5_weight 43 = .ok (.goto 4, 3) := by decide +kernel
theorem dX5_weight_46 : decode cX5_weight 46 = .ok (.iload_n 2, 1) := by decide +kernel
theorem dX5_weight_47 : decode cX5_weight 47 = .ok (.istore_n 2, 1) := by decide +kernel
theorem dX5_weight_48 : decode cX5_weight 48 = .ok (.iinc 3 1, 3) := by decide +kernel
theorem dX5_weight_51 : decode cX5_weight 51 = .ok (.goto (-45), 3) := by decide +kernel
theorem dX5_weight_54 : decode cX5_weight 54 = .ok (.iload_n 2, 1) := by decide +kernel
theorem dX5_weight_55 : decode cX5_weight 55 = .ok (.ireturn, 1) := by decide +kernel
set_option maxRecDepth 20000 in
theorem ggX5_heaviestWay_X5_isOpen : GoodIn wsX5_heaviestWay wsX5_isOpen := goodIn_r _ [5, 6, 7, 8, 9, 4, 10, 21, 22, 23, 24, 25, 26, 27, 28, 29, 30] (by decide +kernel) (by decide +kernel)
set_option maxRecDepth 20000 in
theorem gX5_heaviestWay_X5_isOpen : GoodIn wsX5_heaviestWay (wsV RX5 48 RX5 yX5_isOpen wsX5_isOpen) := goodIn_app (goodIn_of _ (by decide +kernel)) ggX5_heaviestWay_X5_isOpen
set_option maxRecDepth 20000 in
theorem ggX5_heaviestWay_X5_weight : GoodIn wsX5_heaviestWay wsX5_weight := goodIn_r _ [14, 6, 21, 22, 23, 24, 25, 26, 27, 28, 29, 30] (by decide +kernel) (by decide +kernel)
set_option maxRecDepth 20000 in
theorem gX5_heaviestWay_X5_weight : GoodIn wsX5_heaviestWay (wsV RX5 51 RX5 yX5_weight wsX5_weight) := goodIn_app (goodIn_of _ (by decide +kernel)) ggX5_heaviestWay_X5_weight
set_option maxRecDepth 20000 in
theorem ggX5_heaviestWay_X5_next : GoodIn wsX5_heaviestWay wsX5_next := goodIn_r _ [17, 18, 19, 4, 20] (by decide +kernel) (by decide +kernel)
set_option maxRecDepth 20000 in
theorem gX5_heaviestWay_X5_next : GoodIn wsX5_heaviestWay (va_wsS RX5 54 yX5_next wsX5_next) := goodIn_app (goodIn_of _ (by decide +kernel)) ggX5_heaviestWay_X5_next
theorem dX5_heaviestWay_0 : decode cX5_heaviestWay 0 = .ok (.iconst 0, 1) := by decide +kernel
theorem dX5_heaviestWay_1 : decode cX5_heaviestWay 1 = .ok (.istore_n 1, 1) := by decide +kernel
theorem dX5_heaviestWay_2 : decode cX5_heaviestWay 2 = .ok (.iconst 1, 1) := by decide +kernel
theorem dX5_heaviestWay_3 : decode cX5_heaviestWay 3 = .ok (.istore_n 2, 1) := by decide +kernel
theorem dX5_heaviestWay_4 : decode cX5_heaviestWay 4 = .ok (.iload_n 2, 1) := by decide +kernel
theorem dX5_heaviestWay_5 : decode cX5_heaviestWay 5 = .ok (.ifCond .le 42, 3) := by decide +kernel
theorem dX5_heaviestWay_8 : decode cX5_heaviestWay 8 = .ok (.aload_n 0, 1) := by decide +kernel
theorem dX5_heaviestWay_9 : decode cX5_heaviestWay 9 = .ok (.iload_n 2, 1) := by decide +kernel
theorem dX5_heaviestWay_10 : decode cX5_heaviestWay 10 = .ok (.invokevirtual 48, 3) := by decide +kernel
theorem dX5_heaviestWay_13 : decode cX5_heaviestWay 13 = .ok (.ifCond .eq 24, 3) := by decide +kernel
theorem dX5_heaviestWay_16 : decode cX5_heaviestWay 16 = .ok (.iload_n 1, 1) := by decide +kernel
theorem dX5_heaviestWay_17 : decode cX5_heaviestWay 17 = .ok (.ifCond .eq 16, 3) := by decide +kernel
theorem dX5_heaviestWay_20 : decode cX5_heaviestWay 20 = .ok (.aload_n 0, 1) := by decide +kernel
theorem dX5_heaviestWay_21 : decode cX5_heaviestWay 21 = .ok (.iload_n 2, 1) := by decide +kernel
theorem dX5_heaviestWay_22 : decode cX5_heaviestWay 22 = .ok (.invokevirtual 51, 3) := by decide +kernel
theorem dX5_heaviestWay_25 : decode cX5_heaviestWay 25 = .ok (.aload_n 0, 1) := by decide +kernel
theorem dX5_heaviestWay_26 : decode cX5_heaviestWay 26 = .ok (.iload_n 1, 1) := by decide +kernel
theorem dX5_heaviestWay_27 : decode cX5_heaviestWay 27 = .ok (.invokevirtual 51, 3) := by decide +kernel
theorem dX5_heaviestWay_30 : decode cX5_heaviestWay 30 = .ok (.if_icmp .le 7, 3) := by decide +kernel
theorem dX5_heaviestWay_33 : decode cX5_heaviestWay 33 = .ok (.iload_n 2, 1) := by decide +kernel
theorem dX5_heaviestWay_34 : decode cX5_heaviestWay 34 = .ok (.goto 4, 3) := by decide +kernel
theorem dX5_heaviestWay_37 : decode cX5_heaviestWay 37 = .ok (.iload_n 1, 1) := by decide +kernel
theorem dX5_heaviestWay_38 : decode cX5_heaviestWay 38 = .ok (.istore_n 1, 1) := by decide +kernel
theorem dX5_heaviestWay_39 : decode cX5_heaviestWay 39 = .ok (.iload_n 2, 1) := by decide +kernel
theorem dX5_heaviestWay_40 : decode cX5_heaviestWay 40 = .ok (.invokestatic 54, 3) := by decide +kernel
theorem dX5_heaviestWay_43 : decode cX5_heaviestWay 43 = .ok (.istore_n 2, 1) := by decide +kernel
theorem dX5_heaviestWay_44 : decode cX5_heaviestWay 44 = .ok (.goto (-40), 3) := by decide +kernel
theorem dX5_heaviestWay_47 : decode cX5_heaviestWay 47 = .ok (.iload_n 1, 1) := by decide +kernel
theorem dX5_heaviestWay_48 : decode cX5_heaviestWay 48 = .ok (.ireturn, 1) := by decide +kernel
set_option maxRecDepth 20000 in
theorem ggX5_ways_X5_isOpen : GoodIn wsX5_ways wsX5_isOpen := goodIn_r _ [5, 6, 7, 8, 9, 4, 10, 11, 12, 13, 14, 15, 16, 17, 18, 19, 20] (by decide +kernel) (by decide +kernel)
set_option maxRecDepth 20000 in
theorem gX5_ways_X5_isOpen : GoodIn wsX5_ways (wsV RX5 48 RX5 yX5_isOpen wsX5_isOpen) := goodIn_app (goodIn_of _ (by decide +kernel)) ggX5_ways_X5_isOpen
set_option maxRecDepth 20000 in
theorem ggX5_ways_X5_isWay : GoodIn wsX5_ways wsX5_isWay := goodIn_r _ [10, 6, 11, 12, 13, 14, 15, 16, 17, 18, 19, 20] (by decide +kernel) (by decide +kernel)
set_option maxRecDepth 20000 in
theorem gX5_ways_X5_isWay : GoodIn wsX5_ways (wsV RX5 44 RX5 yX5_isWay wsX5_isWay) := goodIn_app (goodIn_of _ (by decide +kernel)) ggX5_ways_X5_isWay
theorem dX5_ways_0 : decode cX5_ways 0 = .ok (.iconst 0, 1) := by decide +kernel
theorem dX5_ways_1 : decode cX5_ways 1 = .ok (.istore_n 3, 1) := by decide +kernel
theorem dX5_ways_2 : decode cX5_ways 2 = .ok (.iconst 1, 1) := by decide +kernel
theorem dX5_ways_3 : decode cX5_ways 3 = .ok (.istore 4, 2) := by decide +kernel
theorem dX5_ways_5 : decode cX5_ways 5 = .ok (.iload 4, 2) := by decide +kernel
theorem dX5_ways_7 : decode cX5_ways 7 = .ok (.sipush 511, 3) := by decide +kernel
theorem dX5_ways_10 : decode cX5_ways 10 = .ok (.if_icmp .gt 50, 3) := by decide +kernel
theorem dX5_ways_13 : decode cX5_ways 13 = .ok (.iload_n 3, 1) := by decide +kernel
theorem dX5_ways_14 : decode cX5_ways 14 = .ok (.iload 4, 2) := by decide +kernel
theorem dX5_ways_16 : decode cX5_ways 16 = .ok (.iload_n 1, 1) := by decide +kernel
theorem dX5_ways_17 : decode cX5_ways 17 = .ok (.iand, 1) := by decide +kernel
theorem dX5_ways_18 : decode cX5_ways 18 = .ok (.iload_n 1, 1) := by decide +kernel
theorem dX5_ways_19 : decode cX5_ways 19 = .ok (.if_icmp .ne 32, 3) := by decide +kernel
theorem dX5_ways_22 : decode cX5_ways 22 = .ok (.iload_n 2, 1) := by decide +kernel
theorem dX5_ways_23 : decode cX5_ways 23 = .ok (.ifCond .eq 15, 3) := by decide +kernel
theorem dX5_ways_26 : decode cX5_ways 26 = .ok (.aload_n 0, 1) := by decide +kernel
theorem dX5_ways_27 : decode cX5_ways 27 = .ok (.iload 4, 2) := by decide +kernel
theorem dX5_ways_29 : decode cX5_ways 29 = .ok (.invokevirtual 48, 3) := by decide +kernel
theorem dX5_ways_32 : decode cX5_ways 32 = .ok (.ifCond .eq 19, 3) := by decide +kernel
theorem dX5_ways_35 : decode cX5_ways 35 = .ok (.goto 12, 3) := by decide +kernel
theorem dX5_ways_38 : decode cX5_ways 38 = .ok (.aload_n 0, 1) := by decide +kernel
theorem dX5_ways_39 : decode cX5_ways 39 = .ok (.iload 4, 2) := by decide +kernel
theorem dX5_ways_41 : decode cX5_ways 41 = .ok (.invokevirtual 44, 3) := by decide +kernel
theorem dX5_ways_44 : decode cX5_ways 44 = .ok (.ifCond .eq 7, 3) := by decide +kernel
theorem dX5_ways_47 : decode cX5_ways 47 = .ok (.iconst 1, 1) := by decide +kernel
theorem dX5_ways_48 : decode cX5_ways 48 = .ok (.goto 4, 3) := by decide +kernel
theorem dX5_ways_51 : decode cX5_ways 51 = .ok (.iconst 0, 1) := by decide +kernel
theorem dX5_ways_52 : decode cX5_ways 52 = .ok (.iadd, 1) := by decide +kernel
theorem dX5_ways_53 : decode cX5_ways 53 = .ok (.istore_n 3, 1) := by decide +kernel
theorem dX5_ways_54 : decode cX5_ways 54 = .ok (.iinc 4 1, 3) := by decide +kernel
theorem dX5_ways_57 : decode cX5_ways 57 = .ok (.goto (-52), 3) := by decide +kernel
theorem dX5_ways_60 : decode cX5_ways 60 = .ok (.iload_n 3, 1) := by decide +kernel
theorem dX5_ways_61 : decode cX5_ways 61 = .ok (.ireturn, 1) := by decide +kernel
theorem dX5_behind_0 : decode cX5_behind 0 = .ok (.aload_n 0, 1) := by decide +kernel
theorem dX5_behind_1 : decode cX5_behind 1 = .ok (.getfield 7, 3) := by decide +kernel
theorem dX5_behind_4 : decode cX5_behind 4 = .ok (.bipush 27, 2) := by decide +kernel
theorem dX5_behind_6 : decode cX5_behind 6 = .ok (.iload_n 1, 1) := by decide +kernel
theorem dX5_behind_7 : decode cX5_behind 7 = .ok (.iadd, 1) := by decide +kernel
theorem dX5_behind_8 : decode cX5_behind 8 = .ok (.iaload, 1) := by decide +kernel
theorem dX5_behind_9 : decode cX5_behind 9 = .ok (.istore_n 2, 1) := by decide +kernel
theorem dX5_behind_10 : decode cX5_behind 10 = .ok (.iload_n 1, 1) := by decide +kernel
theorem dX5_behind_11 : decode cX5_behind 11 = .ok (.iconst 1, 1) := by decide +kernel
theorem dX5_behind_12 : decode cX5_behind 12 = .ok (.iadd, 1) := by decide +kernel
theorem dX5_behind_13 : decode cX5_behind 13 = .ok (.istore_n 3, 1) := by decide +kernel
theorem dX5_behind_14 : decode cX5_behind 14 = .ok (.iload_n 3, 1) := by decide +kernel
theorem dX5_behind_15 : decode cX5_behind 15 = .ok (.bipush 9, 2) := by decide +kernel
theorem dX5_behind_17 : decode cX5_behind 17 = .ok (.if_icmp .ge 34, 3) := by decide +kernel
theorem dX5_behind_20 : decode cX5_behind 20 = .ok (.iload_n 2, 1) := by decide +kernel
theorem dX5_behind_21 : decode cX5_behind 21 = .ok (.iload_n 2, 1) := by decide +kernel
theorem dX5_behind_22 : decode cX5_behind 22 = .ok (.iload_n 3, 1) := by decide +kernel
theorem dX5_behind_23 : decode cX5_behind 23 = .ok (.ishr, 1) := by decide +kernel
theorem dX5_behind_24 : decode cX5_behind 24 = .ok (.iconst 1, 1) := by decide +kernel
theorem dX5_behind_25 : decode cX5_behind 25 = .ok (.iand, 1) := by decide +kernel
theorem dX5_behind_26 : decode cX5_behind 26 = .ok (.iconst 1, 1) := by decide +kernel
theorem dX5_behind_27 : decode cX5_behind 27 = .ok (.if_icmp .ne 15, 3) := by decide +kernel
theorem dX5_behind_30 : decode cX5_behind 30 = .ok (.aload_n 0, 1) := by decide +kernel
theorem dX5_behind_31 : decode cX5_behind 31 = .ok (.getfield 7, 3) := by decide +kernel
theorem dX5_behind_34 : decode cX5_behind 34 = .ok (.bipush 27, 2) := by decide +kernel
theorem dX5_behind_36 : decode cX5_behind 36 = .ok (.iload_n 3, 1) := by decide +kernel
theorem dX5_behind_37 : decode cX5_behind 37 = .ok (.iadd, 1) := by decide +kernel
theorem dX5_behind_38 : decode cX5_behind 38 = .ok (.iaload, 1) := by decide +kernel
theorem dX5_behind_39 : decode cX5_behind 39 = .ok (.goto 4, 3) := by decide +kernel
theorem dX5_behind_42 : decode cX5_behind 42 = .ok (.iconst 0, 1) := by decide +kernel
theorem dX5_behind_43 : decode cX5_behind 43 = .ok (.ior, 1) := by decide +kernel
theorem dX5_behind_44 : decode cX5_behind 44 = .ok (.istore_n 2, 1) := by decide +kernel
theorem dX5_behind_45 : decode cX5_behind 45 = .ok (.iinc 3 1, 3) := by decide +kernel
theorem dX5_behind_48 : decode cX5_behind 48 = .ok (.goto (-34), 3) := by decide +kernel
theorem dX5_behind_51 : decode cX5_behind 51 = .ok (.iload_n 2, 1) := by decide +kernel
theorem dX5_behind_52 : decode cX5_behind 52 = .ok (.ireturn, 1) := by decide +kernel
set_option maxRecDepth 20000 in
theorem ggX5_rows_X5_behind : GoodIn wsX5_rows wsX5_behind := goodIn_r _ [5, 6, 10, 11, 12, 13, 14, 15, 16, 17, 18, 19] (by decide +kernel) (by decide +kernel)
set_option maxRecDepth 20000 in
theorem gX5_rows_X5_behind : GoodIn wsX5_rows (wsV RX5 57 RX5 yX5_behind wsX5_behind) := goodIn_app (goodIn_of _ (by decide +kernel)) ggX5_rows_X5_behind
set_option maxRecDepth 20000 in
theorem ggX5_rows_X5_many : GoodIn wsX5_rows wsX5_many := goodIn_r _ [9] (by decide +kernel) (by decide +kernel)
set_option maxRecDepth 20000 in
theorem gX5_rows_X5_many : GoodIn wsX5_rows (va_wsS RX5 60 yX5_many wsX5_many) := goodIn_app (goodIn_of _ (by decide +kernel)) ggX5_rows_X5_many
theorem dX5_rows_0 : decode cX5_rows 0 = .ok (.iconst 0, 1) := by decide +kernel
theorem dX5_rows_1 : decode cX5_rows 1 = .ok (.istore_n 1, 1) := by decide +kernel
theorem dX5_rows_2 : decode cX5_rows 2 = .ok (.iconst 1, 1) := by decide +kernel
theorem dX5_rows_3 : decode cX5_rows 3 = .ok (.istore_n 2, 1) := by decide +kernel
theorem dX5_rows_4 : decode cX5_rows 4 = .ok (.iload_n 2, 1) := by decide +kernel
theorem dX5_rows_5 : decode cX5_rows 5 = .ok (.sipush 511, 3) := by decide +kernel
theorem dX5_rows_8 : decode cX5_rows 8 = .ok (.if_icmp .gt 78, 3) := by decide +kernel
theorem dX5_rows_11 : decode cX5_rows 11 = .ok (.iconst 1, 1) := by decide +kernel
theorem dX5_rows_12 : decode cX5_rows 12 = .ok (.istore_n 3, 1) := by decide +kernel
theorem dX5_rows_13 : decode cX5_rows 13 = .ok (.iconst 0, 1) := by decide +kernel
theorem dX5_rows_14 : decode cX5_rows 14 = .ok (.istore 4, 2) := by decide +kernel
theorem dX5_rows_16 : decode cX5_rows 16 = .ok (.iload 4, 2) := by decide +kernel
theorem dX5_rows_18 : decode cX5_rows 18 = .ok (.bipush 9, 2) := by decide +kernel
theorem dX5_rows_20 : decode cX5_rows 20 = .ok (.if_icmp .ge 39, 3) := by decide +kernel
theorem dX5_rows_23 : decode cX5_rows 23 = .ok (.iload_n 3, 1) := by decide +kernel
theorem dX5_rows_24 : decode cX5_rows 24 = .ok (.ifCond .eq 35, 3) := by decide +kernel
theorem dX5_rows_27 : decode cX5_rows 27 = .ok (.iload_n 2, 1) := by decide +kernel
theorem dX5_rows_28 : decode cX5_rows 28 = .ok (.iload 4, 2) := by decide +kernel
theorem dX5_rows_30 : decode cX5_rows 30 = .ok (.ishr, 1) := by decide +kernel
theorem dX5_rows_31 : decode cX5_rows 31 = .ok (.iconst 1, 1) := by decide +kernel
theorem dX5_rows_32 : decode cX5_rows 32 = .ok (.iand, 1) := by decide +kernel
theorem dX5_rows_33 : decode cX5_rows 33 = .ok (.ifCond .eq 14, 3) := by decide +kernel
theorem dX5_rows_36 : decode cX5_rows 36 = .ok (.aload_n 0, 1) := by decide +kernel
theorem dX5_rows_37 : decode cX5_rows 37 = .ok (.iload 4, 2) := by decide +kernel
theorem dX5_rows_39 : decode cX5_rows 39 = .ok (.invokevirtual 57, 3) := by decide +kernel
theorem dX5_rows_42 : decode cX5_rows 42 = .ok (.iload_n 2, 1) := by decide +kernel
theorem dX5_rows_43 : decode cX5_rows 43 = .ok (.iand, 1) := by decide +kernel
theorem dX5_rows_44 : decode cX5_rows 44 = .ok (.ifCond .ne 7, 3) := by decide +kernel
theorem dX5_rows_47 : decode cX5_rows 47 = .ok (.iconst 1, 1) := by decide +kernel
theorem dX5_rows_48 : decode cX5_rows 48 = .ok (.goto 4, 3) := by decide +kernel
theorem dX5_rows_51 : decode cX5_rows 51 = .ok (.iconst 0, 1) := by decide +kernel
theorem dX5_rows_52 : decode cX5_rows 52 = .ok (.istore_n 3, 1) := by decide +kernel
theorem dX5_rows_53 : decode cX5_rows 53 = .ok (.iinc 4 1, 3) := by decide +kernel
theorem dX5_rows_56 : decode cX5_rows 56 = .ok (.goto (-40), 3) := by decide +kernel
theorem dX5_rows_59 : decode cX5_rows 59 = .ok (.iload_n 3, 1) := by decide +kernel
theorem dX5_rows_60 : decode cX5_rows 60 = .ok (.ifCond .eq 18, 3) := by decide +kernel
theorem dX5_rows_63 : decode cX5_rows 63 = .ok (.iload_n 2, 1) := by decide +kernel
theorem dX5_rows_64 : decode cX5_rows 64 = .ok (.invokestatic 60, 3) := by decide +kernel
theorem dX5_rows_67 : decode cX5_rows 67 = .ok (.iload_n 1, 1) := by decide +kernel
theorem dX5_rows_68 : decode cX5_rows 68 = .ok (.if_icmp .le 10, 3) := by decide +kernel
theorem dX5_rows_71 : decode cX5_rows 71 = .ok (.iload_n 2, 1) := by decide +kernel
theorem dX5_rows_72 : decode cX5_rows 72 = .ok (.invokestatic 60, 3) := by decide +kernel
theorem dX5_rows_75 : decode cX5_rows 75 = .ok (.goto 4, 3) := by decide +kernel
theorem dX5_rows_78 : decode cX5_rows 78 = .ok (.iload_n 1, 1) := by decide +kernel
theorem dX5_rows_79 : decode cX5_rows 79 = .ok (.istore_n 1, 1) := by decide +kernel
theorem dX5_rows_80 : decode cX5_rows 80 = .ok (.iinc 2 1, 3) := by decide +kernel
theorem dX5_rows_83 : decode cX5_rows 83 = .ok (.goto (-79), 3) := by decide +kernel
theorem dX5_rows_86 : decode cX5_rows 86 = .ok (.iload_n 1, 1) := by decide +kernel
theorem dX5_rows_87 : decode cX5_rows 87 = .ok (.ireturn, 1) := by decide +kernel
theorem dX5_anew_0 : decode cX5_anew 0 = .ok (.iconst 0, 1) := by decide +kernel
theorem dX5_anew_1 : decode cX5_anew 1 = .ok (.istore_n 1, 1) := by decide +kernel
theorem dX5_anew_2 : decode cX5_anew 2 = .ok (.iload_n 1, 1) := by decide +kernel
theorem dX5_anew_3 : decode cX5_anew 3 = .ok (.bipush 9, 2) := by decide +kernel
theorem dX5_anew_5 : decode cX5_anew 5 = .ok (.if_icmp .ge 26, 3) := by decide +kernel
theorem dX5_anew_8 : decode cX5_anew 8 = .ok (.aload_n 0, 1) := by decide +kernel
theorem dX5_anew_9 : decode cX5_anew 9 = .ok (.getfield 7, 3) := by decide +kernel
theorem dX5_anew_12 : decode cX5_anew 12 = .ok (.bipush 9, 2) := by decide +kernel
theorem dX5_anew_14 : decode cX5_anew 14 = .ok (.iload_n 1, 1) := by decide +kernel
theorem dX5_anew_15 : decode cX5_anew 15 = .ok (.iadd, 1) := by decide +kernel
theorem dX5_anew_16 : decode cX5_anew 16 = .ok (.aload_n 0, 1) := by decide +kernel
theorem dX5_anew_17 : decode cX5_anew 17 = .ok (.getfield 7, 3) := by decide +kernel
theorem dX5_anew_20 : decode cX5_anew 20 = .ok (.iconst 0, 1) := by decide +kernel
theorem dX5_anew_21 : decode cX5_anew 21 = .ok (.iload_n 1, 1) := by decide +kernel
theorem dX5_anew_22 : decode cX5_anew 22 = .ok (.iadd, 1) := by decide +kernel
theorem dX5_anew_23 : decode cX5_anew 23 = .ok (.iaload, 1) := by decide +kernel
theorem dX5_anew_24 : decode cX5_anew 24 = .ok (.iastore, 1) := by decide +kernel
theorem dX5_anew_25 : decode cX5_anew 25 = .ok (.iinc 1 1, 3) := by decide +kernel
theorem dX5_anew_28 : decode cX5_anew 28 = .ok (.goto (-26), 3) := by decide +kernel
theorem dX5_anew_31 : decode cX5_anew 31 = .ok (.bipush 45, 2) := by decide +kernel
theorem dX5_anew_33 : decode cX5_anew 33 = .ok (.istore_n 1, 1) := by decide +kernel
theorem dX5_anew_34 : decode cX5_anew 34 = .ok (.iload_n 1, 1) := by decide +kernel
theorem dX5_anew_35 : decode cX5_anew 35 = .ok (.bipush 70, 2) := by decide +kernel
theorem dX5_anew_37 : decode cX5_anew 37 = .ok (.if_icmp .ge 16, 3) := by decide +kernel
theorem dX5_anew_40 : decode cX5_anew 40 = .ok (.aload_n 0, 1) := by decide +kernel
theorem dX5_anew_41 : decode cX5_anew 41 = .ok (.getfield 7, 3) := by decide +kernel
theorem dX5_anew_44 : decode cX5_anew 44 = .ok (.iload_n 1, 1) := by decide +kernel
theorem dX5_anew_45 : decode cX5_anew 45 = .ok (.iconst 0, 1) := by decide +kernel
theorem dX5_anew_46 : decode cX5_anew 46 = .ok (.iastore, 1) := by decide +kernel
theorem dX5_anew_47 : decode cX5_anew 47 = .ok (.iinc 1 1, 3) := by decide +kernel
theorem dX5_anew_50 : decode cX5_anew 50 = .ok (.goto (-16), 3) := by decide +kernel
theorem dX5_anew_53 : decode cX5_anew 53 = .ok (.return_, 1) := by decide +kernel
set_option maxRecDepth 20000 in
theorem ggX5_lays_X5_save : GoodIn wsX5_lays wsX5_save := goodIn_r _ [6, 7, 8, 1, 13, 14, 15, 16, 17, 18, 19, 20, 21, 22] (by decide +kernel) (by decide +kernel)
set_option maxRecDepth 20000 in
theorem gX5_lays_X5_save : GoodIn wsX5_lays (wsV RX5 63 RX5 yX5_save wsX5_save) := goodIn_app (goodIn_of _ (by decide +kernel)) ggX5_lays_X5_save
set_option maxRecDepth 20000 in
theorem ggX5_lays_X5_anew : GoodIn wsX5_lays wsX5_anew := goodIn_r _ [12, 1, 13, 14, 15, 16, 17, 18, 19, 20, 21, 22] (by decide +kernel) (by decide +kernel)
set_option maxRecDepth 20000 in
theorem gX5_lays_X5_anew : GoodIn wsX5_lays (wsV RX5 66 RX5 yX5_anew wsX5_anew) := goodIn_app (goodIn_of _ (by decide +kernel)) ggX5_lays_X5_anew
theorem dX5_lays_0 : decode cX5_lays 0 = .ok (.aload_n 0, 1) := by decide +kernel
theorem dX5_lays_1 : decode cX5_lays 1 = .ok (.invokevirtual 63, 3) := by decide +kernel
theorem dX5_lays_4 : decode cX5_lays 4 = .ok (.aload_n 0, 1) := by decide +kernel
theorem dX5_lays_5 : decode cX5_lays 5 = .ok (.getfield 7, 3) := by decide +kernel
theorem dX5_lays_8 : decode cX5_lays 8 = .ok (.iload_n 1, 1) := by decide +kernel
theorem dX5_lays_9 : decode cX5_lays 9 = .ok (.iaload, 1) := by decide +kernel
theorem dX5_lays_10 : decode cX5_lays 10 = .ok (.istore_n 3, 1) := by decide +kernel
theorem dX5_lays_11 : decode cX5_lays 11 = .ok (.aload_n 0, 1) := by decide +kernel
theorem dX5_lays_12 : decode cX5_lays 12 = .ok (.getfield 7, 3) := by decide +kernel
theorem dX5_lays_15 : decode cX5_lays 15 = .ok (.iload_n 1, 1) := by decide +kernel
theorem dX5_lays_16 : decode cX5_lays 16 = .ok (.iload_n 2, 1) := by decide +kernel
theorem dX5_lays_17 : decode cX5_lays 17 = .ok (.iastore, 1) := by decide +kernel
theorem dX5_lays_18 : decode cX5_lays 18 = .ok (.aload_n 0, 1) := by decide +kernel
theorem dX5_lays_19 : decode cX5_lays 19 = .ok (.invokevirtual 66, 3) := by decide +kernel
theorem dX5_lays_22 : decode cX5_lays 22 = .ok (.iload_n 3, 1) := by decide +kernel
theorem dX5_lays_23 : decode cX5_lays 23 = .ok (.ireturn, 1) := by decide +kernel
set_option maxRecDepth 20000 in
theorem ggX5_cover_X5_isPiece : GoodIn wsX5_cover wsX5_isPiece := goodIn_r _ [4, 5, 6, 3, 7] (by decide +kernel) (by decide +kernel)
set_option maxRecDepth 20000 in
theorem gX5_cover_X5_isPiece : GoodIn wsX5_cover (va_wsS RX5 69 yX5_isPiece wsX5_isPiece) := goodIn_app (goodIn_of _ (by decide +kernel)) ggX5_cover_X5_isPiece
set_option maxRecDepth 20000 in
theorem ggX5_cover_X5_in : GoodIn wsX5_cover wsX5_in := goodIn_r _ [7] (by decide +kernel) (by decide +kernel)
set_option maxRecDepth 20000 in
theorem gX5_cover_X5_in : GoodIn wsX5_cover (va_wsS RX5 33 yX5_in wsX5_in) := goodIn_app (goodIn_of _ (by decide +kernel)) ggX5_cover_X5_in
set_option maxRecDepth 20000 in
theorem ggX5_cover_X5_holds : GoodIn wsX5_cover wsX5_holds := goodIn_r _ [11, 12, 28, 29, 30, 31, 32, 33, 34, 35, 36, 37] (by decide +kernel) (by decide +kernel)
set_option maxRecDepth 20000 in
theorem gX5_cover_X5_holds : GoodIn wsX5_cover (wsV RX5 72 RX5 yX5_holds wsX5_holds) := goodIn_app (goodIn_of _ (by decide +kernel)) ggX5_cover_X5_holds
set_option maxRecDepth 20000 in
theorem ggX5_cover_X5_lays : GoodIn wsX5_cover wsX5_lays := goodIn_r _ [16, 17, 18, 19, 20, 3, 21, 22, 23, 24, 25, 26, 27, 28, 29, 30, 31, 32, 33, 34, 35, 36, 37] (by decide +kernel) (by decide +kernel)
set_option maxRecDepth 20000 in
theorem gX5_cover_X5_lays : GoodIn wsX5_cover (wsV RX5 75 RX5 yX5_lays wsX5_lays) := goodIn_app (goodIn_of _ (by decide +kernel)) ggX5_cover_X5_lays
theorem dX5_cover_0 : decode cX5_cover 0 = .ok (.aload_n 0, 1) := by decide +kernel
theorem dX5_cover_1 : decode cX5_cover 1 = .ok (.iload_n 1, 1) := by decide +kernel
theorem dX5_cover_2 : decode cX5_cover 2 = .ok (.invokestatic 69, 3) := by decide +kernel
theorem dX5_cover_5 : decode cX5_cover 5 = .ok (.ifCond .ne 7, 3) := by decide +kernel
theorem dX5_cover_8 : decode cX5_cover 8 = .ok (.iconst 1, 1) := by decide +kernel
theorem dX5_cover_9 : decode cX5_cover 9 = .ok (.goto 19, 3) := by decide +kernel
theorem dX5_cover_12 : decode cX5_cover 12 = .ok (.iload_n 2, 1) := by decide +kernel
theorem dX5_cover_13 : decode cX5_cover 13 = .ok (.iconst 0, 1) := by decide +kernel
theorem dX5_cover_14 : decode cX5_cover 14 = .ok (.sipush 999, 3) := by decide +kernel
theorem dX5_cover_17 : decode cX5_cover 17 = .ok (.invokestatic 33, 3) := by decide +kernel
theorem dX5_cover_20 : decode cX5_cover 20 = .ok (.ifCond .ne 7, 3) := by decide +kernel
theorem dX5_cover_23 : decode cX5_cover 23 = .ok (.iconst 2, 1) := by decide +kernel
theorem dX5_cover_24 : decode cX5_cover 24 = .ok (.goto 4, 3) := by decide +kernel
theorem dX5_cover_27 : decode cX5_cover 27 = .ok (.iconst 0, 1) := by decide +kernel
theorem dX5_cover_28 : decode cX5_cover 28 = .ok (.invokevirtual 72, 3) := by decide +kernel
theorem dX5_cover_31 : decode cX5_cover 31 = .ok (.ifCond .eq 14, 3) := by decide +kernel
theorem dX5_cover_34 : decode cX5_cover 34 = .ok (.aload_n 0, 1) := by decide +kernel
theorem dX5_cover_35 : decode cX5_cover 35 = .ok (.iconst 0, 1) := by decide +kernel
theorem dX5_cover_36 : decode cX5_cover 36 = .ok (.iload_n 1, 1) := by decide +kernel
theorem dX5_cover_37 : decode cX5_cover 37 = .ok (.iadd, 1) := by decide +kernel
theorem dX5_cover_38 : decode cX5_cover 38 = .ok (.iload_n 2, 1) := by decide +kernel
theorem dX5_cover_39 : decode cX5_cover 39 = .ok (.invokevirtual 75, 3) := by decide +kernel
theorem dX5_cover_42 : decode cX5_cover 42 = .ok (.goto 4, 3) := by decide +kernel
theorem dX5_cover_45 : decode cX5_cover 45 = .ok (.iconst 0, 1) := by decide +kernel
theorem dX5_cover_46 : decode cX5_cover 46 = .ok (.ireturn, 1) := by decide +kernel
set_option maxRecDepth 20000 in
theorem ggX5_join_X5_isPiece : GoodIn wsX5_join wsX5_isPiece := goodIn_r _ [5, 6, 7, 4, 8] (by decide +kernel) (by decide +kernel)
set_option maxRecDepth 20000 in
theorem gX5_join_X5_isPiece : GoodIn wsX5_join (va_wsS RX5 69 yX5_isPiece wsX5_isPiece) := goodIn_app (goodIn_of _ (by decide +kernel)) ggX5_join_X5_isPiece
set_option maxRecDepth 20000 in
theorem ggX5_join_X5_holds : GoodIn wsX5_join wsX5_holds := goodIn_r _ [12, 13, 28, 29, 30, 31, 32, 33, 34, 35, 36, 37] (by decide +kernel) (by decide +kernel)
set_option maxRecDepth 20000 in
theorem gX5_join_X5_holds : GoodIn wsX5_join (wsV RX5 72 RX5 yX5_holds wsX5_holds) := goodIn_app (goodIn_of _ (by decide +kernel)) ggX5_join_X5_holds
set_option maxRecDepth 20000 in
theorem ggX5_join_X5_lays : GoodIn wsX5_join wsX5_lays := goodIn_r _ [17, 1, 18, 19, 20, 4, 21, 22, 23, 24, 25, 26, 27, 28, 29, 30, 31, 32, 33, 34, 35, 36, 37] (by decide +kernel) (by decide +kernel)
set_option maxRecDepth 20000 in
theorem gX5_join_X5_lays : GoodIn wsX5_join (wsV RX5 75 RX5 yX5_lays wsX5_lays) := goodIn_app (goodIn_of _ (by decide +kernel)) ggX5_join_X5_lays
theorem dX5_join_0 : decode cX5_join 0 = .ok (.aload_n 0, 1) := by decide +kernel
theorem dX5_join_1 : decode cX5_join 1 = .ok (.iload_n 1, 1) := by decide +kernel
theorem dX5_join_2 : decode cX5_join 2 = .ok (.invokestatic 69, 3) := by decide +kernel
theorem dX5_join_5 : decode cX5_join 5 = .ok (.ifCond .eq 10, 3) := by decide +kernel
theorem dX5_join_8 : decode cX5_join 8 = .ok (.iload_n 2, 1) := by decide +kernel
theorem dX5_join_9 : decode cX5_join 9 = .ok (.invokestatic 69, 3) := by decide +kernel
theorem dX5_join_12 : decode cX5_join 12 = .ok (.ifCond .ne 7, 3) := by decide +kernel
theorem dX5_join_15 : decode cX5_join 15 = .ok (.iconst 1, 1) := by decide +kernel
theorem dX5_join_16 : decode cX5_join 16 = .ok (.goto 13, 3) := by decide +kernel
theorem dX5_join_19 : decode cX5_join 19 = .ok (.iload_n 2, 1) := by decide +kernel
theorem dX5_join_20 : decode cX5_join 20 = .ok (.iload_n 1, 1) := by decide +kernel
theorem dX5_join_21 : decode cX5_join 21 = .ok (.if_icmp .gt 7, 3) := by decide +kernel
theorem dX5_join_24 : decode cX5_join 24 = .ok (.iconst 2, 1) := by decide +kernel
theorem dX5_join_25 : decode cX5_join 25 = .ok (.goto 4, 3) := by decide +kernel
theorem dX5_join_28 : decode cX5_join 28 = .ok (.iconst 0, 1) := by decide +kernel
theorem dX5_join_29 : decode cX5_join 29 = .ok (.invokevirtual 72, 3) := by decide +kernel
theorem dX5_join_32 : decode cX5_join 32 = .ok (.ifCond .ne 5, 3) := by decide +kernel
theorem dX5_join_35 : decode cX5_join 35 = .ok (.iconst 0, 1) := by decide +kernel
theorem dX5_join_36 : decode cX5_join 36 = .ok (.ireturn, 1) := by decide +kernel
theorem dX5_join_37 : decode cX5_join 37 = .ok (.aload_n 0, 1) := by decide +kernel
theorem dX5_join_38 : decode cX5_join 38 = .ok (.bipush 27, 2) := by decide +kernel
theorem dX5_join_40 : decode cX5_join 40 = .ok (.iload_n 1, 1) := by decide +kernel
theorem dX5_join_41 : decode cX5_join 41 = .ok (.iadd, 1) := by decide +kernel
theorem dX5_join_42 : decode cX5_join 42 = .ok (.aload_n 0, 1) := by decide +kernel
theorem dX5_join_43 : decode cX5_join 43 = .ok (.getfield 7, 3) := by decide +kernel
theorem dX5_join_46 : decode cX5_join 46 = .ok (.bipush 27, 2) := by decide +kernel
theorem dX5_join_48 : decode cX5_join 48 = .ok (.iload_n 1, 1) := by decide +kernel
theorem dX5_join_49 : decode cX5_join 49 = .ok (.iadd, 1) := by decide +kernel
theorem dX5_join_50 : decode cX5_join 50 = .ok (.iaload, 1) := by decide +kernel
theorem dX5_join_51 : decode cX5_join 51 = .ok (.iconst 1, 1) := by decide +kernel
theorem dX5_join_52 : decode cX5_join 52 = .ok (.iload_n 2, 1) := by decide +kernel
theorem dX5_join_53 : decode cX5_join 53 = .ok (.ishl, 1) := by decide +kernel
theorem dX5_join_54 : decode cX5_join 54 = .ok (.ixor, 1) := by decide +kernel
theorem dX5_join_55 : decode cX5_join 55 = .ok (.invokevirtual 75, 3) := by decide +kernel
theorem dX5_join_58 : decode cX5_join 58 = .ok (.istore_n 3, 1) := by decide +kernel
theorem dX5_join_59 : decode cX5_join 59 = .ok (.aload_n 0, 1) := by decide +kernel
theorem dX5_join_60 : decode cX5_join 60 = .ok (.getfield 7, 3) := by decide +kernel
theorem dX5_join_63 : decode cX5_join 63 = .ok (.bipush 27, 2) := by decide +kernel
theorem dX5_join_65 : decode cX5_join 65 = .ok (.iload_n 1, 1) := by decide +kernel
theorem dX5_join_66 : decode cX5_join 66 = .ok (.iadd, 1) := by decide +kernel
theorem dX5_join_67 : decode cX5_join 67 = .ok (.iaload, 1) := by decide +kernel
theorem dX5_join_68 : decode cX5_join 68 = .ok (.iload_n 2, 1) := by decide +kernel
theorem dX5_join_69 : decode cX5_join 69 = .ok (.ishr, 1) := by decide +kernel
theorem dX5_join_70 : decode cX5_join 70 = .ok (.iconst 1, 1) := by decide +kernel
theorem dX5_join_71 : decode cX5_join 71 = .ok (.iand, 1) := by decide +kernel
theorem dX5_join_72 : decode cX5_join 72 = .ok (.ireturn, 1) := by decide +kernel
set_option maxRecDepth 20000 in
theorem ggX5_mark_X5_isPiece : GoodIn wsX5_mark wsX5_isPiece := goodIn_r _ [4, 5, 6, 3, 7] (by decide +kernel) (by decide +kernel)
set_option maxRecDepth 20000 in
theorem gX5_mark_X5_isPiece : GoodIn wsX5_mark (va_wsS RX5 69 yX5_isPiece wsX5_isPiece) := goodIn_app (goodIn_of _ (by decide +kernel)) ggX5_mark_X5_isPiece
set_option maxRecDepth 20000 in
theorem ggX5_mark_X5_in : GoodIn wsX5_mark wsX5_in := goodIn_r _ [7] (by decide +kernel) (by decide +kernel)
set_option maxRecDepth 20000 in
theorem gX5_mark_X5_in : GoodIn wsX5_mark (va_wsS RX5 33 yX5_in wsX5_in) := goodIn_app (goodIn_of _ (by decide +kernel)) ggX5_mark_X5_in
set_option maxRecDepth 20000 in
theorem ggX5_mark_X5_holds : GoodIn wsX5_mark wsX5_holds := goodIn_r _ [11, 12, 28, 29, 30, 31, 32, 33, 34, 35, 36, 37] (by decide +kernel) (by decide +kernel)
set_option maxRecDepth 20000 in
theorem gX5_mark_X5_holds : GoodIn wsX5_mark (wsV RX5 72 RX5 yX5_holds wsX5_holds) := goodIn_app (goodIn_of _ (by decide +kernel)) ggX5_mark_X5_holds
set_option maxRecDepth 20000 in
theorem ggX5_mark_X5_lays : GoodIn wsX5_mark wsX5_lays := goodIn_r _ [16, 17, 18, 19, 20, 3, 21, 22, 23, 24, 25, 26, 27, 28, 29, 30, 31, 32, 33, 34, 35, 36, 37] (by decide +kernel) (by decide +kernel)
set_option maxRecDepth 20000 in
theorem gX5_mark_X5_lays : GoodIn wsX5_mark (wsV RX5 75 RX5 yX5_lays wsX5_lays) := goodIn_app (goodIn_of _ (by decide +kernel)) ggX5_mark_X5_lays
theorem dX5_mark_0 : decode cX5_mark 0 = .ok (.aload_n 0, 1) := by decide +kernel
theorem dX5_mark_1 : decode cX5_mark 1 = .ok (.iload_n 1, 1) := by decide +kernel
theorem dX5_mark_2 : decode cX5_mark 2 = .ok (.invokestatic 69, 3) := by decide +kernel
theorem dX5_mark_5 : decode cX5_mark 5 = .ok (.ifCond .ne 7, 3) := by decide +kernel
theorem dX5_mark_8 : decode cX5_mark 8 = .ok (.iconst 1, 1) := by decide +kernel
theorem dX5_mark_9 : decode cX5_mark 9 = .ok (.goto 17, 3) := by decide +kernel
theorem dX5_mark_12 : decode cX5_mark 12 = .ok (.iload_n 2, 1) := by decide +kernel
theorem dX5_mark_13 : decode cX5_mark 13 = .ok (.iconst 0, 1) := by decide +kernel
theorem dX5_mark_14 : decode cX5_mark 14 = .ok (.iconst 3, 1) := by decide +kernel
theorem dX5_mark_15 : decode cX5_mark 15 = .ok (.invokestatic 33, 3) := by decide +kernel
theorem dX5_mark_18 : decode cX5_mark 18 = .ok (.ifCond .ne 7, 3) := by decide +kernel
theorem dX5_mark_21 : decode cX5_mark 21 = .ok (.iconst 2, 1) := by decide +kernel
theorem dX5_mark_22 : decode cX5_mark 22 = .ok (.goto 4, 3) := by decide +kernel
theorem dX5_mark_25 : decode cX5_mark 25 = .ok (.iconst 0, 1) := by decide +kernel
theorem dX5_mark_26 : decode cX5_mark 26 = .ok (.invokevirtual 72, 3) := by decide +kernel
theorem dX5_mark_29 : decode cX5_mark 29 = .ok (.ifCond .eq 15, 3) := by decide +kernel
theorem dX5_mark_32 : decode cX5_mark 32 = .ok (.aload_n 0, 1) := by decide +kernel
theorem dX5_mark_33 : decode cX5_mark 33 = .ok (.bipush 18, 2) := by decide +kernel
theorem dX5_mark_35 : decode cX5_mark 35 = .ok (.iload_n 1, 1) := by decide +kernel
theorem dX5_mark_36 : decode cX5_mark 36 = .ok (.iadd, 1) := by decide +kernel
theorem dX5_mark_37 : decode cX5_mark 37 = .ok (.iload_n 2, 1) := by decide +kernel
theorem dX5_mark_38 : decode cX5_mark 38 = .ok (.invokevirtual 75, 3) := by decide +kernel
theorem dX5_mark_41 : decode cX5_mark 41 = .ok (.goto 4, 3) := by decide +kernel
theorem dX5_mark_44 : decode cX5_mark 44 = .ok (.iconst 0, 1) := by decide +kernel
theorem dX5_mark_45 : decode cX5_mark 45 = .ok (.ireturn, 1) := by decide +kernel
set_option maxRecDepth 20000 in
theorem ggX5_bar_X5_isPiece : GoodIn wsX5_bar wsX5_isPiece := goodIn_r _ [5, 6, 7, 4, 8] (by decide +kernel) (by decide +kernel)
set_option maxRecDepth 20000 in
theorem gX5_bar_X5_isPiece : GoodIn wsX5_bar (va_wsS RX5 69 yX5_isPiece wsX5_isPiece) := goodIn_app (goodIn_of _ (by decide +kernel)) ggX5_bar_X5_isPiece
set_option maxRecDepth 20000 in
theorem ggX5_bar_X5_holds : GoodIn wsX5_bar wsX5_holds := goodIn_r _ [12, 13, 28, 29, 30, 31, 32, 33, 34, 35, 36, 37] (by decide +kernel) (by decide +kernel)
set_option maxRecDepth 20000 in
theorem gX5_bar_X5_holds : GoodIn wsX5_bar (wsV RX5 72 RX5 yX5_holds wsX5_holds) := goodIn_app (goodIn_of _ (by decide +kernel)) ggX5_bar_X5_holds
set_option maxRecDepth 20000 in
theorem ggX5_bar_X5_lays : GoodIn wsX5_bar wsX5_lays := goodIn_r _ [17, 1, 18, 19, 20, 4, 21, 22, 23, 24, 25, 26, 27, 28, 29, 30, 31, 32, 33, 34, 35, 36, 37] (by decide +kernel) (by decide +kernel)
set_option maxRecDepth 20000 in
theorem gX5_bar_X5_lays : GoodIn wsX5_bar (wsV RX5 75 RX5 yX5_lays wsX5_lays) := goodIn_app (goodIn_of _ (by decide +kernel)) ggX5_bar_X5_lays
theorem dX5_bar_0 : decode cX5_bar 0 = .ok (.aload_n 0, 1) := by decide +kernel
theorem dX5_bar_1 : decode cX5_bar 1 = .ok (.iload_n 1, 1) := by decide +kernel
theorem dX5_bar_2 : decode cX5_bar 2 = .ok (.invokestatic 69, 3) := by decide +kernel
theorem dX5_bar_5 : decode cX5_bar 5 = .ok (.ifCond .eq 10, 3) := by decide +kernel
theorem dX5_bar_8 : decode cX5_bar 8 = .ok (.iload_n 2, 1) := by decide +kernel
theorem dX5_bar_9 : decode cX5_bar 9 = .ok (.invokestatic 69, 3) := by decide +kernel
theorem dX5_bar_12 : decode cX5_bar 12 = .ok (.ifCond .ne 7, 3) := by decide +kernel
theorem dX5_bar_15 : decode cX5_bar 15 = .ok (.iconst 1, 1) := by decide +kernel
theorem dX5_bar_16 : decode cX5_bar 16 = .ok (.goto 13, 3) := by decide +kernel
theorem dX5_bar_19 : decode cX5_bar 19 = .ok (.iload_n 1, 1) := by decide +kernel
theorem dX5_bar_20 : decode cX5_bar 20 = .ok (.iload_n 2, 1) := by decide +kernel
theorem dX5_bar_21 : decode cX5_bar 21 = .ok (.if_icmp .ne 7, 3) := by decide +kernel
theorem dX5_bar_24 : decode cX5_bar 24 = .ok (.iconst 2, 1) := by decide +kernel
theorem dX5_bar_25 : decode cX5_bar 25 = .ok (.goto 4, 3) := by decide +kernel
theorem dX5_bar_28 : decode cX5_bar 28 = .ok (.iconst 0, 1) := by decide +kernel
theorem dX5_bar_29 : decode cX5_bar 29 = .ok (.invokevirtual 72, 3) := by decide +kernel
theorem dX5_bar_32 : decode cX5_bar 32 = .ok (.ifCond .ne 5, 3) := by decide +kernel
theorem dX5_bar_35 : decode cX5_bar 35 = .ok (.iconst 0, 1) := by decide +kernel
theorem dX5_bar_36 : decode cX5_bar 36 = .ok (.ireturn, 1) := by decide +kernel
theorem dX5_bar_37 : decode cX5_bar 37 = .ok (.aload_n 0, 1) := by decide +kernel
theorem dX5_bar_38 : decode cX5_bar 38 = .ok (.bipush 36, 2) := by decide +kernel
theorem dX5_bar_40 : decode cX5_bar 40 = .ok (.iload_n 1, 1) := by decide +kernel
theorem dX5_bar_41 : decode cX5_bar 41 = .ok (.iadd, 1) := by decide +kernel
theorem dX5_bar_42 : decode cX5_bar 42 = .ok (.aload_n 0, 1) := by decide +kernel
theorem dX5_bar_43 : decode cX5_bar 43 = .ok (.getfield 7, 3) := by decide +kernel
theorem dX5_bar_46 : decode cX5_bar 46 = .ok (.bipush 36, 2) := by decide +kernel
theorem dX5_bar_48 : decode cX5_bar 48 = .ok (.iload_n 1, 1) := by decide +kernel
theorem dX5_bar_49 : decode cX5_bar 49 = .ok (.iadd, 1) := by decide +kernel
theorem dX5_bar_50 : decode cX5_bar 50 = .ok (.iaload, 1) := by decide +kernel
theorem dX5_bar_51 : decode cX5_bar 51 = .ok (.iconst 1, 1) := by decide +kernel
theorem dX5_bar_52 : decode cX5_bar 52 = .ok (.iload_n 2, 1) := by decide +kernel
theorem dX5_bar_53 : decode cX5_bar 53 = .ok (.ishl, 1) := by decide +kernel
theorem dX5_bar_54 : decode cX5_bar 54 = .ok (.ixor, 1) := by decide +kernel
theorem dX5_bar_55 : decode cX5_bar 55 = .ok (.invokevirtual 75, 3) := by decide +kernel
theorem dX5_bar_58 : decode cX5_bar 58 = .ok (.istore_n 3, 1) := by decide +kernel
theorem dX5_bar_59 : decode cX5_bar 59 = .ok (.aload_n 0, 1) := by decide +kernel
theorem dX5_bar_60 : decode cX5_bar 60 = .ok (.getfield 7, 3) := by decide +kernel
theorem dX5_bar_63 : decode cX5_bar 63 = .ok (.bipush 36, 2) := by decide +kernel
theorem dX5_bar_65 : decode cX5_bar 65 = .ok (.iload_n 2, 1) := by decide +kernel
theorem dX5_bar_66 : decode cX5_bar 66 = .ok (.iadd, 1) := by decide +kernel
theorem dX5_bar_67 : decode cX5_bar 67 = .ok (.dup2, 1) := by decide +kernel
theorem dX5_bar_68 : decode cX5_bar 68 = .ok (.iaload, 1) := by decide +kernel
theorem dX5_bar_69 : decode cX5_bar 69 = .ok (.iconst 1, 1) := by decide +kernel
theorem dX5_bar_70 : decode cX5_bar 70 = .ok (.iload_n 1, 1) := by decide +kernel
theorem dX5_bar_71 : decode cX5_bar 71 = .ok (.ishl, 1) := by decide +kernel
theorem dX5_bar_72 : decode cX5_bar 72 = .ok (.ixor, 1) := by decide +kernel
theorem dX5_bar_73 : decode cX5_bar 73 = .ok (.iastore, 1) := by decide +kernel
theorem dX5_bar_74 : decode cX5_bar 74 = .ok (.aload_n 0, 1) := by decide +kernel
theorem dX5_bar_75 : decode cX5_bar 75 = .ok (.getfield 7, 3) := by decide +kernel
theorem dX5_bar_78 : decode cX5_bar 78 = .ok (.bipush 36, 2) := by decide +kernel
theorem dX5_bar_80 : decode cX5_bar 80 = .ok (.iload_n 1, 1) := by decide +kernel
theorem dX5_bar_81 : decode cX5_bar 81 = .ok (.iadd, 1) := by decide +kernel
theorem dX5_bar_82 : decode cX5_bar 82 = .ok (.iaload, 1) := by decide +kernel
theorem dX5_bar_83 : decode cX5_bar 83 = .ok (.iload_n 2, 1) := by decide +kernel
theorem dX5_bar_84 : decode cX5_bar 84 = .ok (.ishr, 1) := by decide +kernel
theorem dX5_bar_85 : decode cX5_bar 85 = .ok (.iconst 1, 1) := by decide +kernel
theorem dX5_bar_86 : decode cX5_bar 86 = .ok (.iand, 1) := by decide +kernel
theorem dX5_bar_87 : decode cX5_bar 87 = .ok (.ireturn, 1) := by decide +kernel
set_option maxRecDepth 20000 in
theorem ggX5_steps_X5_heaviestWay : GoodIn wsX5_steps wsX5_heaviestWay := goodIn_r _ [6, 7, 8, 9, 5, 10, 1, 11, 12, 13, 14, 15, 16, 17, 18, 19, 20, 21, 22, 23, 24, 25, 26, 27, 28, 29, 30, 31, 32, 33, 34] (by decide +kernel) (by decide +kernel)
set_option maxRecDepth 20000 in
theorem gX5_steps_X5_heaviestWay : GoodIn wsX5_steps (wsV RX5 79 RX5 yX5_heaviestWay wsX5_heaviestWay) := goodIn_app (goodIn_of _ (by decide +kernel)) ggX5_steps_X5_heaviestWay
set_option maxRecDepth 20000 in
theorem ggX5_steps_X5_weight : GoodIn wsX5_steps wsX5_weight := goodIn_r _ [18, 1, 25, 26, 27, 28, 29, 30, 31, 32, 33, 34] (by decide +kernel) (by decide +kernel)
set_option maxRecDepth 20000 in
theorem gX5_steps_X5_weight : GoodIn wsX5_steps (wsV RX5 51 RX5 yX5_weight wsX5_weight) := goodIn_app (goodIn_of _ (by decide +kernel)) ggX5_steps_X5_weight
theorem dX5_steps_0 : decode cX5_steps 0 = .ok (.aload_n 0, 1) := by decide +kernel
theorem dX5_steps_1 : decode cX5_steps 1 = .ok (.invokevirtual 79, 3) := by decide +kernel
theorem dX5_steps_4 : decode cX5_steps 4 = .ok (.istore_n 1, 1) := by decide +kernel
theorem dX5_steps_5 : decode cX5_steps 5 = .ok (.iload_n 1, 1) := by decide +kernel
theorem dX5_steps_6 : decode cX5_steps 6 = .ok (.ifCond .eq 15, 3) := by decide +kernel
theorem dX5_steps_9 : decode cX5_steps 9 = .ok (.aload_n 0, 1) := by decide +kernel
theorem dX5_steps_10 : decode cX5_steps 10 = .ok (.getfield 7, 3) := by decide +kernel
theorem dX5_steps_13 : decode cX5_steps 13 = .ok (.bipush 45, 2) := by decide +kernel
theorem dX5_steps_15 : decode cX5_steps 15 = .ok (.iaload, 1) := by decide +kernel
theorem dX5_steps_16 : decode cX5_steps 16 = .ok (.bipush 12, 2) := by decide +kernel
theorem dX5_steps_18 : decode cX5_steps 18 = .ok (.if_icmp .ne 7, 3) := by decide +kernel
theorem dX5_steps_21 : decode cX5_steps 21 = .ok (.iconst 0, 1) := by decide +kernel
theorem dX5_steps_22 : decode cX5_steps 22 = .ok (.goto 8, 3) := by decide +kernel
theorem dX5_steps_25 : decode cX5_steps 25 = .ok (.aload_n 0, 1) := by decide +kernel
theorem dX5_steps_26 : decode cX5_steps 26 = .ok (.iload_n 1, 1) := by decide +kernel
theorem dX5_steps_27 : decode cX5_steps 27 = .ok (.invokevirtual 51, 3) := by decide +kernel
theorem dX5_steps_30 : decode cX5_steps 30 = .ok (.istore_n 2, 1) := by decide +kernel
theorem dX5_steps_31 : decode cX5_steps 31 = .ok (.iload_n 2, 1) := by decide +kernel
theorem dX5_steps_32 : decode cX5_steps 32 = .ok (.ifCond .ne 16, 3) := by decide +kernel
theorem dX5_steps_35 : decode cX5_steps 35 = .ok (.aload_n 0, 1) := by decide +kernel
theorem dX5_steps_36 : decode cX5_steps 36 = .ok (.getfield 7, 3) := by decide +kernel
theorem dX5_steps_39 : decode cX5_steps 39 = .ok (.bipush 71, 2) := by decide +kernel
theorem dX5_steps_41 : decode cX5_steps 41 = .ok (.dup2, 1) := by decide +kernel
theorem dX5_steps_42 : decode cX5_steps 42 = .ok (.iaload, 1) := by decide +kernel
theorem dX5_steps_43 : decode cX5_steps 43 = .ok (.iconst 1, 1) := by decide +kernel
theorem dX5_steps_44 : decode cX5_steps 44 = .ok (.iadd, 1) := by decide +kernel
theorem dX5_steps_45 : decode cX5_steps 45 = .ok (.iastore, 1) := by decide +kernel
theorem dX5_steps_46 : decode cX5_steps 46 = .ok (.iconst 0, 1) := by decide +kernel
theorem dX5_steps_47 : decode cX5_steps 47 = .ok (.ireturn, 1) := by decide +kernel
theorem dX5_steps_48 : decode cX5_steps 48 = .ok (.iconst 0, 1) := by decide +kernel
theorem dX5_steps_49 : decode cX5_steps 49 = .ok (.istore_n 3, 1) := by decide +kernel
theorem dX5_steps_50 : decode cX5_steps 50 = .ok (.iload_n 3, 1) := by decide +kernel
theorem dX5_steps_51 : decode cX5_steps 51 = .ok (.bipush 9, 2) := by decide +kernel
theorem dX5_steps_53 : decode cX5_steps 53 = .ok (.if_icmp .ge 35, 3) := by decide +kernel
theorem dX5_steps_56 : decode cX5_steps 56 = .ok (.aload_n 0, 1) := by decide +kernel
theorem dX5_steps_57 : decode cX5_steps 57 = .ok (.getfield 7, 3) := by decide +kernel
theorem dX5_steps_60 : decode cX5_steps 60 = .ok (.bipush 9, 2) := by decide +kernel
theorem dX5_steps_62 : decode cX5_steps 62 = .ok (.iload_n 3, 1) := by decide +kernel
theorem dX5_steps_63 : decode cX5_steps 63 = .ok (.iadd, 1) := by decide +kernel
theorem dX5_steps_64 : decode cX5_steps 64 = .ok (.dup2, 1) := by decide +kernel
theorem dX5_steps_65 : decode cX5_steps 65 = .ok (.iaload, 1) := by decide +kernel
theorem dX5_steps_66 : decode cX5_steps 66 = .ok (.iload_n 1, 1) := by decide +kernel
theorem dX5_steps_67 : decode cX5_steps 67 = .ok (.iload_n 3, 1) := by decide +kernel
theorem dX5_steps_68 : decode cX5_steps 68 = .ok (.ishr, 1) := by decide +kernel
theorem dX5_steps_69 : decode cX5_steps 69 = .ok (.iconst 1, 1) := by decide +kernel
theorem dX5_steps_70 : decode cX5_steps 70 = .ok (.iand, 1) := by decide +kernel
theorem dX5_steps_71 : decode cX5_steps 71 = .ok (.iconst 1, 1) := by decide +kernel
theorem dX5_steps_72 : decode cX5_steps 72 = .ok (.if_icmp .ne 7, 3) := by decide +kernel
theorem dX5_steps_75 : decode cX5_steps 75 = .ok (.iload_n 2, 1) := by decide +kernel
theorem dX5_steps_76 : decode cX5_steps 76 = .ok (.goto 4, 3) := by decide +kernel
theorem dX5_steps_79 : decode cX5_steps 79 = .ok (.iconst 0, 1) := by decide +kernel
theorem dX5_steps_80 : decode cX5_steps 80 = .ok (.isub, 1) := by decide +kernel
theorem dX5_steps_81 : decode cX5_steps 81 = .ok (.iastore, 1) := by decide +kernel
theorem dX5_steps_82 : decode cX5_steps 82 = .ok (.iinc 3 1, 3) := by decide +kernel
theorem dX5_steps_85 : decode cX5_steps 85 = .ok (.goto (-35), 3) := by decide +kernel
theorem dX5_steps_88 : decode cX5_steps 88 = .ok (.aload_n 0, 1) := by decide +kernel
theorem dX5_steps_89 : decode cX5_steps 89 = .ok (.getfield 7, 3) := by decide +kernel
theorem dX5_steps_92 : decode cX5_steps 92 = .ok (.bipush 46, 2) := by decide +kernel
theorem dX5_steps_94 : decode cX5_steps 94 = .ok (.iconst 2, 1) := by decide +kernel
theorem dX5_steps_95 : decode cX5_steps 95 = .ok (.aload_n 0, 1) := by decide +kernel
theorem dX5_steps_96 : decode cX5_steps 96 = .ok (.getfield 7, 3) := by decide +kernel
theorem dX5_steps_99 : decode cX5_steps 99 = .ok (.bipush 45, 2) := by decide +kernel
theorem dX5_steps_101 : decode cX5_steps 101 = .ok (.iaload, 1) := by decide +kernel
theorem dX5_steps_102 : decode cX5_steps 102 = .ok (.imul, 1) := by decide +kernel
theorem dX5_steps_103 : decode cX5_steps 103 = .ok (.iadd, 1) := by decide +kernel
theorem dX5_steps_104 : decode cX5_steps 104 = .ok (.iload_n 2, 1) := by decide +kernel
theorem dX5_steps_105 : decode cX5_steps 105 = .ok (.iastore, 1) := by decide +kernel
theorem dX5_steps_106 : decode cX5_steps 106 = .ok (.aload_n 0, 1) := by decide +kernel
theorem dX5_steps_107 : decode cX5_steps 107 = .ok (.getfield 7, 3) := by decide +kernel
theorem dX5_steps_110 : decode cX5_steps 110 = .ok (.bipush 46, 2) := by decide +kernel
theorem dX5_steps_112 : decode cX5_steps 112 = .ok (.iconst 2, 1) := by decide +kernel
theorem dX5_steps_113 : decode cX5_steps 113 = .ok (.aload_n 0, 1) := by decide +kernel
theorem dX5_steps_114 : decode cX5_steps 114 = .ok (.getfield 7, 3) := by decide +kernel
theorem dX5_steps_117 : decode cX5_steps 117 = .ok (.bipush 45, 2) := by decide +kernel
theorem dX5_steps_119 : decode cX5_steps 119 = .ok (.iaload, 1) := by decide +kernel
theorem dX5_steps_120 : decode cX5_steps 120 = .ok (.imul, 1) := by decide +kernel
theorem dX5_steps_121 : decode cX5_steps 121 = .ok (.iadd, 1) := by decide +kernel
theorem dX5_steps_122 : decode cX5_steps 122 = .ok (.iconst 1, 1) := by decide +kernel
theorem dX5_steps_123 : decode cX5_steps 123 = .ok (.iadd, 1) := by decide +kernel
theorem dX5_steps_124 : decode cX5_steps 124 = .ok (.iload_n 1, 1) := by decide +kernel
theorem dX5_steps_125 : decode cX5_steps 125 = .ok (.iastore, 1) := by decide +kernel
theorem dX5_steps_126 : decode cX5_steps 126 = .ok (.aload_n 0, 1) := by decide +kernel
theorem dX5_steps_127 : decode cX5_steps 127 = .ok (.getfield 7, 3) := by decide +kernel
theorem dX5_steps_130 : decode cX5_steps 130 = .ok (.bipush 45, 2) := by decide +kernel
theorem dX5_steps_132 : decode cX5_steps 132 = .ok (.dup2, 1) := by decide +kernel
theorem dX5_steps_133 : decode cX5_steps 133 = .ok (.iaload, 1) := by decide +kernel
theorem dX5_steps_134 : decode cX5_steps 134 = .ok (.iconst 1, 1) := by decide +kernel
theorem dX5_steps_135 : decode cX5_steps 135 = .ok (.iadd, 1) := by decide +kernel
theorem dX5_steps_136 : decode cX5_steps 136 = .ok (.iastore, 1) := by decide +kernel
theorem dX5_steps_137 : decode cX5_steps 137 = .ok (.aload_n 0, 1) := by decide +kernel
theorem dX5_steps_138 : decode cX5_steps 138 = .ok (.getfield 7, 3) := by decide +kernel
theorem dX5_steps_141 : decode cX5_steps 141 = .ok (.bipush 70, 2) := by decide +kernel
theorem dX5_steps_143 : decode cX5_steps 143 = .ok (.dup2, 1) := by decide +kernel
theorem dX5_steps_144 : decode cX5_steps 144 = .ok (.iaload, 1) := by decide +kernel
theorem dX5_steps_145 : decode cX5_steps 145 = .ok (.iconst 1, 1) := by decide +kernel
theorem dX5_steps_146 : decode cX5_steps 146 = .ok (.iadd, 1) := by decide +kernel
theorem dX5_steps_147 : decode cX5_steps 147 = .ok (.iastore, 1) := by decide +kernel
theorem dX5_steps_148 : decode cX5_steps 148 = .ok (.iload_n 2, 1) := by decide +kernel
theorem dX5_steps_149 : decode cX5_steps 149 = .ok (.ireturn, 1) := by decide +kernel
set_option maxRecDepth 20000 in
theorem ggX5_splits_X5_steps : GoodIn wsX5_splits wsX5_steps := goodIn_r _ [5, 6, 7, 8, 9, 4, 10, 11, 12, 13, 14, 15, 16, 17, 18, 19, 20, 21, 22, 23, 24, 25, 26, 27, 28, 29, 30, 31, 32, 33, 34, 35, 36, 37, 38] (by decide +kernel) (by decide +kernel)
set_option maxRecDepth 20000 in
theorem gX5_splits_X5_steps : GoodIn wsX5_splits (wsV RX5 83 RX5 yX5_steps wsX5_steps) := goodIn_app (goodIn_of _ (by decide +kernel)) ggX5_splits_X5_steps
theorem dX5_splits_0 : decode cX5_splits 0 = .ok (.iconst 0, 1) := by decide +kernel
theorem dX5_splits_1 : decode cX5_splits 1 = .ok (.istore_n 1, 1) := by decide +kernel
theorem dX5_splits_2 : decode cX5_splits 2 = .ok (.aload_n 0, 1) := by decide +kernel
theorem dX5_splits_3 : decode cX5_splits 3 = .ok (.invokevirtual 83, 3) := by decide +kernel
theorem dX5_splits_6 : decode cX5_splits 6 = .ok (.ifCond .le 9, 3) := by decide +kernel
theorem dX5_splits_9 : decode cX5_splits 9 = .ok (.iinc 1 1, 3) := by decide +kernel
theorem dX5_splits_12 : decode cX5_splits 12 = .ok (.goto (-10), 3) := by decide +kernel
theorem dX5_splits_15 : decode cX5_splits 15 = .ok (.iload_n 1, 1) := by decide +kernel
theorem dX5_splits_16 : decode cX5_splits 16 = .ok (.ireturn, 1) := by decide +kernel
set_option maxRecDepth 20000 in
theorem ggX5_step_X5_save : GoodIn wsX5_step wsX5_save := goodIn_r _ [6, 7, 8, 9, 36, 37, 38, 39, 40, 41, 42, 43, 44, 45] (by decide +kernel) (by decide +kernel)
set_option maxRecDepth 20000 in
theorem gX5_step_X5_save : GoodIn wsX5_step (wsV RX5 63 RX5 yX5_save wsX5_save) := goodIn_app (goodIn_of _ (by decide +kernel)) ggX5_step_X5_save
set_option maxRecDepth 20000 in
theorem ggX5_step_X5_steps : GoodIn wsX5_step wsX5_steps := goodIn_r _ [13, 9, 14, 15, 16, 5, 17, 18, 19, 20, 21, 22, 23, 24, 25, 26, 27, 28, 29, 30, 31, 32, 33, 34, 35, 36, 37, 38, 39, 40, 41, 42, 43, 44, 45] (by decide +kernel) (by decide +kernel)
set_option maxRecDepth 20000 in
theorem gX5_step_X5_steps : GoodIn wsX5_step (wsV RX5 83 RX5 yX5_steps wsX5_steps) := goodIn_app (goodIn_of _ (by decide +kernel)) ggX5_step_X5_steps
theorem dX5_step_0 : decode cX5_step 0 = .ok (.aload_n 0, 1) := by decide +kernel
theorem dX5_step_1 : decode cX5_step 1 = .ok (.iconst 0, 1) := by decide +kernel
theorem dX5_step_2 : decode cX5_step 2 = .ok (.putfield 29, 3) := by decide +kernel
theorem dX5_step_5 : decode cX5_step 5 = .ok (.aload_n 0, 1) := by decide +kernel
theorem dX5_step_6 : decode cX5_step 6 = .ok (.invokevirtual 63, 3) := by decide +kernel
theorem dX5_step_9 : decode cX5_step 9 = .ok (.aload_n 0, 1) := by decide +kernel
theorem dX5_step_10 : decode cX5_step 10 = .ok (.invokevirtual 83, 3) := by decide +kernel
theorem dX5_step_13 : decode cX5_step 13 = .ok (.ireturn, 1) := by decide +kernel
set_option maxRecDepth 20000 in
theorem ggX5_split_X5_save : GoodIn wsX5_split wsX5_save := goodIn_r _ [6, 7, 8, 9, 40, 41, 42, 43, 44, 45, 46, 47, 48, 49] (by decide +kernel) (by decide +kernel)
set_option maxRecDepth 20000 in
theorem gX5_split_X5_save : GoodIn wsX5_split (wsV RX5 63 RX5 yX5_save wsX5_save) := goodIn_app (goodIn_of _ (by decide +kernel)) ggX5_split_X5_save
set_option maxRecDepth 20000 in
theorem ggX5_split_X5_splits : GoodIn wsX5_split wsX5_splits := goodIn_r _ [13, 14, 15, 16, 5, 17, 9, 18, 19, 20, 21, 22, 23, 24, 25, 26, 27, 28, 29, 30, 31, 32, 33, 34, 35, 36, 37, 38, 39, 40, 41, 42, 43, 44, 45, 46, 47, 48, 49] (by decide +kernel) (by decide +kernel)
set_option maxRecDepth 20000 in
theorem gX5_split_X5_splits : GoodIn wsX5_split (wsV RX5 86 RX5 yX5_splits wsX5_splits) := goodIn_app (goodIn_of _ (by decide +kernel)) ggX5_split_X5_splits
theorem dX5_split_0 : decode cX5_split 0 = .ok (.aload_n 0, 1) := by decide +kernel
theorem dX5_split_1 : decode cX5_split 1 = .ok (.iconst 0, 1) := by decide +kernel
theorem dX5_split_2 : decode cX5_split 2 = .ok (.putfield 29, 3) := by decide +kernel
theorem dX5_split_5 : decode cX5_split 5 = .ok (.aload_n 0, 1) := by decide +kernel
theorem dX5_split_6 : decode cX5_split 6 = .ok (.invokevirtual 63, 3) := by decide +kernel
theorem dX5_split_9 : decode cX5_split 9 = .ok (.aload_n 0, 1) := by decide +kernel
theorem dX5_split_10 : decode cX5_split 10 = .ok (.invokevirtual 86, 3) := by decide +kernel
theorem dX5_split_13 : decode cX5_split 13 = .ok (.ireturn, 1) := by decide +kernel
set_option maxRecDepth 20000 in
theorem ggX5_begin_X5_save : GoodIn wsX5_begin wsX5_save := goodIn_r _ [7, 8, 9, 2, 14, 15, 16, 17, 18, 19, 20, 21, 22, 23] (by decide +kernel) (by decide +kernel)
set_option maxRecDepth 20000 in
theorem gX5_begin_X5_save : GoodIn wsX5_begin (wsV RX5 63 RX5 yX5_save wsX5_save) := goodIn_app (goodIn_of _ (by decide +kernel)) ggX5_begin_X5_save
set_option maxRecDepth 20000 in
theorem ggX5_begin_X5_anew : GoodIn wsX5_begin wsX5_anew := goodIn_r _ [13, 2, 14, 15, 16, 17, 18, 19, 20, 21, 22, 23] (by decide +kernel) (by decide +kernel)
set_option maxRecDepth 20000 in
theorem gX5_begin_X5_anew : GoodIn wsX5_begin (wsV RX5 66 RX5 yX5_anew wsX5_anew) := goodIn_app (goodIn_of _ (by decide +kernel)) ggX5_begin_X5_anew
theorem dX5_begin_0 : decode cX5_begin 0 = .ok (.aload_n 0, 1) := by decide +kernel
theorem dX5_begin_1 : decode cX5_begin 1 = .ok (.iconst 0, 1) := by decide +kernel
theorem dX5_begin_2 : decode cX5_begin 2 = .ok (.putfield 29, 3) := by decide +kernel
theorem dX5_begin_5 : decode cX5_begin 5 = .ok (.aload_n 0, 1) := by decide +kernel
theorem dX5_begin_6 : decode cX5_begin 6 = .ok (.invokevirtual 63, 3) := by decide +kernel
theorem dX5_begin_9 : decode cX5_begin 9 = .ok (.aload_n 0, 1) := by decide +kernel
theorem dX5_begin_10 : decode cX5_begin 10 = .ok (.getfield 7, 3) := by decide +kernel
theorem dX5_begin_13 : decode cX5_begin 13 = .ok (.bipush 45, 2) := by decide +kernel
theorem dX5_begin_15 : decode cX5_begin 15 = .ok (.iaload, 1) := by decide +kernel
theorem dX5_begin_16 : decode cX5_begin 16 = .ok (.istore_n 1, 1) := by decide +kernel
theorem dX5_begin_17 : decode cX5_begin 17 = .ok (.aload_n 0, 1) := by decide +kernel
theorem dX5_begin_18 : decode cX5_begin 18 = .ok (.invokevirtual 66, 3) := by decide +kernel
theorem dX5_begin_21 : decode cX5_begin 21 = .ok (.iload_n 1, 1) := by decide +kernel
theorem dX5_begin_22 : decode cX5_begin 22 = .ok (.ireturn, 1) := by decide +kernel
set_option maxRecDepth 20000 in
theorem ggX5_append_X5_in : GoodIn wsX5_append wsX5_in := goodIn_r _ [6] (by decide +kernel) (by decide +kernel)
set_option maxRecDepth 20000 in
theorem gX5_append_X5_in : GoodIn wsX5_append (va_wsS RX5 33 yX5_in wsX5_in) := goodIn_app (goodIn_of _ (by decide +kernel)) ggX5_append_X5_in
set_option maxRecDepth 20000 in
theorem ggX5_append_X5_holds : GoodIn wsX5_append wsX5_holds := goodIn_r _ [10, 11, 12, 13, 14, 15, 16, 17, 18, 19, 20, 21] (by decide +kernel) (by decide +kernel)
set_option maxRecDepth 20000 in
theorem gX5_append_X5_holds : GoodIn wsX5_append (wsV RX5 72 RX5 yX5_holds wsX5_holds) := goodIn_app (goodIn_of _ (by decide +kernel)) ggX5_append_X5_holds
theorem dX5_append_0 : decode cX5_append 0 = .ok (.aload_n 0, 1) := by decide +kernel
theorem dX5_append_1 : decode cX5_append 1 = .ok (.iload_n 1, 1) := by decide +kernel
theorem dX5_append_2 : decode cX5_append 2 = .ok (.bipush 33, 2) := by decide +kernel
theorem dX5_append_4 : decode cX5_append 4 = .ok (.bipush 126, 2) := by decide +kernel
theorem dX5_append_6 : decode cX5_append 6 = .ok (.invokestatic 33, 3) := by decide +kernel
theorem dX5_append_9 : decode cX5_append 9 = .ok (.ifCond .ne 7, 3) := by decide +kernel
theorem dX5_append_12 : decode cX5_append 12 = .ok (.iconst 1, 1) := by decide +kernel
theorem dX5_append_13 : decode cX5_append 13 = .ok (.goto 17, 3) := by decide +kernel
theorem dX5_append_16 : decode cX5_append 16 = .ok (.aload_n 0, 1) := by decide +kernel
theorem dX5_append_17 : decode cX5_append 17 = .ok (.getfield 89, 3) := by decide +kernel
theorem dX5_append_20 : decode cX5_append 20 = .ok (.bipush 60, 2) := by decide +kernel
theorem dX5_append_22 : decode cX5_append 22 = .ok (.if_icmp .ne 7, 3) := by decide +kernel
theorem dX5_append_25 : decode cX5_append 25 = .ok (.iconst 2, 1) := by decide +kernel
theorem dX5_append_26 : decode cX5_append 26 = .ok (.goto 4, 3) := by decide +kernel
theorem dX5_append_29 : decode cX5_append 29 = .ok (.iconst 0, 1) := by decide +kernel
theorem dX5_append_30 : decode cX5_append 30 = .ok (.invokevirtual 72, 3) := by decide +kernel
theorem dX5_append_33 : decode cX5_append 33 = .ok (.ifCond .ne 5, 3) := by decide +kernel
theorem dX5_append_36 : decode cX5_append 36 = .ok (.iconst 0, 1) := by decide +kernel
theorem dX5_append_37 : decode cX5_append 37 = .ok (.ireturn, 1) := by decide +kernel
theorem dX5_append_38 : decode cX5_append 38 = .ok (.aload_n 0, 1) := by decide +kernel
theorem dX5_append_39 : decode cX5_append 39 = .ok (.getfield 26, 3) := by decide +kernel
theorem dX5_append_42 : decode cX5_append 42 = .ok (.aload_n 0, 1) := by decide +kernel
theorem dX5_append_43 : decode cX5_append 43 = .ok (.getfield 89, 3) := by decide +kernel
theorem dX5_append_46 : decode cX5_append 46 = .ok (.iload_n 1, 1) := by decide +kernel
theorem dX5_append_47 : decode cX5_append 47 = .ok (.iastore, 1) := by decide +kernel
theorem dX5_append_48 : decode cX5_append 48 = .ok (.aload_n 0, 1) := by decide +kernel
theorem dX5_append_49 : decode cX5_append 49 = .ok (.dup, 1) := by decide +kernel
theorem dX5_append_50 : decode cX5_append 50 = .ok (.getfield 89, 3) := by decide +kernel
theorem dX5_append_53 : decode cX5_append 53 = .ok (.iconst 1, 1) := by decide +kernel
theorem dX5_append_54 : decode cX5_append 54 = .ok (.iadd, 1) := by decide +kernel
theorem dX5_append_55 : decode cX5_append 55 = .ok (.putfield 89, 3) := by decide +kernel
theorem dX5_append_58 : decode cX5_append 58 = .ok (.aload_n 0, 1) := by decide +kernel
theorem dX5_append_59 : decode cX5_append 59 = .ok (.getfield 89, 3) := by decide +kernel
theorem dX5_append_62 : decode cX5_append 62 = .ok (.ireturn, 1) := by decide +kernel
theorem dX5_clearBuffer_0 : decode cX5_clearBuffer 0 = .ok (.aload_n 0, 1) := by decide +kernel
theorem dX5_clearBuffer_1 : decode cX5_clearBuffer 1 = .ok (.iconst 0, 1) := by decide +kernel
theorem dX5_clearBuffer_2 : decode cX5_clearBuffer 2 = .ok (.putfield 29, 3) := by decide +kernel
theorem dX5_clearBuffer_5 : decode cX5_clearBuffer 5 = .ok (.aload_n 0, 1) := by decide +kernel
theorem dX5_clearBuffer_6 : decode cX5_clearBuffer 6 = .ok (.getfield 89, 3) := by decide +kernel
theorem dX5_clearBuffer_9 : decode cX5_clearBuffer 9 = .ok (.istore_n 1, 1) := by decide +kernel
theorem dX5_clearBuffer_10 : decode cX5_clearBuffer 10 = .ok (.aload_n 0, 1) := by decide +kernel
theorem dX5_clearBuffer_11 : decode cX5_clearBuffer 11 = .ok (.iconst 0, 1) := by decide +kernel
theorem dX5_clearBuffer_12 : decode cX5_clearBuffer 12 = .ok (.putfield 89, 3) := by decide +kernel
theorem dX5_clearBuffer_15 : decode cX5_clearBuffer 15 = .ok (.iload_n 1, 1) := by decide +kernel
theorem dX5_clearBuffer_16 : decode cX5_clearBuffer 16 = .ok (.ireturn, 1) := by decide +kernel
theorem dX5_charAt_0 : decode cX5_charAt 0 = .ok (.iload_n 1, 1) := by decide +kernel
theorem dX5_charAt_1 : decode cX5_charAt 1 = .ok (.aload_n 0, 1) := by decide +kernel
theorem dX5_charAt_2 : decode cX5_charAt 2 = .ok (.getfield 89, 3) := by decide +kernel
theorem dX5_charAt_5 : decode cX5_charAt 5 = .ok (.if_icmp .ge 12, 3) := by decide +kernel
theorem dX5_charAt_8 : decode cX5_charAt 8 = .ok (.aload_n 0, 1) := by decide +kernel
theorem dX5_charAt_9 : decode cX5_charAt 9 = .ok (.getfield 26, 3) := by decide +kernel
theorem dX5_charAt_12 : decode cX5_charAt 12 = .ok (.iload_n 1, 1) := by decide +kernel
theorem dX5_charAt_13 : decode cX5_charAt 13 = .ok (.iaload, 1) := by decide +kernel
theorem dX5_charAt_14 : decode cX5_charAt 14 = .ok (.goto 4, 3) := by decide +kernel
theorem dX5_charAt_17 : decode cX5_charAt 17 = .ok (.iconst 0, 1) := by decide +kernel
theorem dX5_charAt_18 : decode cX5_charAt 18 = .ok (.ireturn, 1) := by decide +kernel
set_option maxRecDepth 20000 in
theorem ggX5_digitAt_X5_charAt : GoodIn wsX5_digitAt wsX5_charAt := goodIn_r _ [5, 6, 7, 8, 9, 10, 11, 12, 13, 14, 15, 16, 17] (by decide +kernel) (by decide +kernel)
set_option maxRecDepth 20000 in
theorem gX5_digitAt_X5_charAt : GoodIn wsX5_digitAt (wsV RX5 92 RX5 yX5_charAt wsX5_charAt) := goodIn_app (goodIn_of _ (by decide +kernel)) ggX5_digitAt_X5_charAt
theorem dX5_digitAt_0 : decode cX5_digitAt 0 = .ok (.aload_n 0, 1) := by decide +kernel
theorem dX5_digitAt_1 : decode cX5_digitAt 1 = .ok (.iload_n 1, 1) := by decide +kernel
theorem dX5_digitAt_2 : decode cX5_digitAt 2 = .ok (.invokevirtual 92, 3) := by decide +kernel
theorem dX5_digitAt_5 : decode cX5_digitAt 5 = .ok (.bipush 48, 2) := by decide +kernel
theorem dX5_digitAt_7 : decode cX5_digitAt 7 = .ok (.isub, 1) := by decide +kernel
theorem dX5_digitAt_8 : decode cX5_digitAt 8 = .ok (.ireturn, 1) := by decide +kernel
set_option maxRecDepth 20000 in
theorem ggX5_behindNumber_X5_digitAt : GoodIn wsX5_behindNumber wsX5_digitAt := goodIn_r _ [5, 6, 7, 8, 4, 9, 10, 11, 15, 16, 17, 18, 19, 20, 21, 22, 23, 24] (by decide +kernel) (by decide +kernel)
set_option maxRecDepth 20000 in
theorem gX5_behindNumber_X5_digitAt : GoodIn wsX5_behindNumber (wsV RX5 95 RX5 yX5_digitAt wsX5_digitAt) := goodIn_app (goodIn_of _ (by decide +kernel)) ggX5_behindNumber_X5_digitAt
set_option maxRecDepth 20000 in
theorem ggX5_behindNumber_X5_in : GoodIn wsX5_behindNumber wsX5_in := goodIn_r _ [14] (by decide +kernel) (by decide +kernel)
set_option maxRecDepth 20000 in
theorem gX5_behindNumber_X5_in : GoodIn wsX5_behindNumber (va_wsS RX5 33 yX5_in wsX5_in) := goodIn_app (goodIn_of _ (by decide +kernel)) ggX5_behindNumber_X5_in
theorem dX5_behindNumber_0 : decode cX5_behindNumber 0 = .ok (.iload_n 1, 1) := by decide +kernel
theorem dX5_behindNumber_1 : decode cX5_behindNumber 1 = .ok (.istore_n 2, 1) := by decide +kernel
theorem dX5_behindNumber_2 : decode cX5_behindNumber 2 = .ok (.aload_n 0, 1) := by decide +kernel
theorem dX5_behindNumber_3 : decode cX5_behindNumber 3 = .ok (.iload_n 2, 1) := by decide +kernel
theorem dX5_behindNumber_4 : decode cX5_behindNumber 4 = .ok (.invokevirtual 95, 3) := by decide +kernel
theorem dX5_behindNumber_7 : decode cX5_behindNumber 7 = .ok (.iconst 0, 1) := by decide +kernel
theorem dX5_behindNumber_8 : decode cX5_behindNumber 8 = .ok (.bipush 9, 2) := by decide +kernel
theorem dX5_behindNumber_10 : decode cX5_behindNumber 10 = .ok (.invokestatic 33, 3) := by decide +kernel
theorem dX5_behindNumber_13 : decode cX5_behindNumber 13 = .ok (.ifCond .eq 29, 3) := by decide +kernel
theorem dX5_behindNumber_16 : decode cX5_behindNumber 16 = .ok (.iload_n 2, 1) := by decide +kernel
theorem dX5_behindNumber_17 : decode cX5_behindNumber 17 = .ok (.iload_n 1, 1) := by decide +kernel
theorem dX5_behindNumber_18 : decode cX5_behindNumber 18 = .ok (.iconst 3, 1) := by decide +kernel
theorem dX5_behindNumber_19 : decode cX5_behindNumber 19 = .ok (.iadd, 1) := by decide +kernel
theorem dX5_behindNumber_20 : decode cX5_behindNumber 20 = .ok (.if_icmp .ge 22, 3) := by decide +kernel
theorem dX5_behindNumber_23 : decode cX5_behindNumber 23 = .ok (.iload_n 2, 1) := by decide +kernel
theorem dX5_behindNumber_24 : decode cX5_behindNumber 24 = .ok (.iload_n 1, 1) := by decide +kernel
theorem dX5_behindNumber_25 : decode cX5_behindNumber 25 = .ok (.if_icmp .eq 11, 3) := by decide +kernel
theorem dX5_behindNumber_28 : decode cX5_behindNumber 28 = .ok (.aload_n 0, 1) := by decide +kernel
theorem dX5_behindNumber_29 : decode cX5_behindNumber 29 = .ok (.iload_n 1, 1) := by decide +kernel
theorem dX5_behindNumber_30 : decode cX5_behindNumber 30 = .ok (.invokevirtual 95, 3) := by decide +kernel
theorem dX5_behindNumber_33 : decode cX5_behindNumber 33 = .ok (.ifCond .le 9, 3) := by decide +kernel
theorem dX5_behindNumber_36 : decode cX5_behindNumber 36 = .ok (.iinc 2 1, 3) := by decide +kernel
theorem dX5_behindNumber_39 : decode cX5_behindNumber 39 = .ok (.goto (-37), 3) := by decide +kernel
theorem dX5_behindNumber_42 : decode cX5_behindNumber 42 = .ok (.iload_n 2, 1) := by decide +kernel
theorem dX5_behindNumber_43 : decode cX5_behindNumber 43 = .ok (.ireturn, 1) := by decide +kernel
set_option maxRecDepth 20000 in
theorem ggX5_behindPart_X5_charAt : GoodIn wsX5_behindPart wsX5_charAt := goodIn_r _ [5, 6, 7, 22, 23, 24, 25, 26, 27, 28, 29, 30, 31] (by decide +kernel) (by decide +kernel)
set_option maxRecDepth 20000 in
theorem gX5_behindPart_X5_charAt : GoodIn wsX5_behindPart (wsV RX5 92 RX5 yX5_charAt wsX5_charAt) := goodIn_app (goodIn_of _ (by decide +kernel)) ggX5_behindPart_X5_charAt
set_option maxRecDepth 20000 in
theorem ggX5_behindPart_X5_digitAt : GoodIn wsX5_behindPart wsX5_digitAt := goodIn_r _ [11, 1, 2, 3, 4, 5, 6, 7, 22, 23, 24, 25, 26, 27, 28, 29, 30, 31] (by decide +kernel) (by decide +kernel)
set_option maxRecDepth 20000 in
theorem gX5_behindPart_X5_digitAt : GoodIn wsX5_behindPart (wsV RX5 95 RX5 yX5_digitAt wsX5_digitAt) := goodIn_app (goodIn_of _ (by decide +kernel)) ggX5_behindPart_X5_digitAt
set_option maxRecDepth 20000 in
theorem ggX5_behindPart_X5_isPiece : GoodIn wsX5_behindPart wsX5_isPiece := goodIn_r _ [14, 15, 16, 4, 17] (by decide +kernel) (by decide +kernel)
set_option maxRecDepth 20000 in
theorem gX5_behindPart_X5_isPiece : GoodIn wsX5_behindPart (va_wsS RX5 69 yX5_isPiece wsX5_isPiece) := goodIn_app (goodIn_of _ (by decide +kernel)) ggX5_behindPart_X5_isPiece
set_option maxRecDepth 20000 in
theorem ggX5_behindPart_X5_in : GoodIn wsX5_behindPart wsX5_in := goodIn_r _ [17] (by decide +kernel) (by decide +kernel)
set_option maxRecDepth 20000 in
theorem gX5_behindPart_X5_in : GoodIn wsX5_behindPart (va_wsS RX5 33 yX5_in wsX5_in) := goodIn_app (goodIn_of _ (by decide +kernel)) ggX5_behindPart_X5_in
set_option maxRecDepth 20000 in
theorem ggX5_behindPart_X5_behindNumber : GoodIn wsX5_behindPart wsX5_behindNumber := goodIn_r _ [21, 8, 9, 10, 4, 11, 1, 2, 3, 5, 6, 7, 15, 16, 17, 22, 23, 24, 25, 26, 27, 28, 29, 30, 31] (by decide +kernel) (by decide +kernel)
set_option maxRecDepth 20000 in
theorem gX5_behindPart_X5_behindNumber : GoodIn wsX5_behindPart (wsV RX5 98 RX5 yX5_behindNumber wsX5_behindNumber) := goodIn_app (goodIn_of _ (by decide +kernel)) ggX5_behindPart_X5_behindNumber
theorem dX5_behindPart_0 : decode cX5_behindPart 0 = .ok (.aload_n 0, 1) := by decide +kernel
theorem dX5_behindPart_1 : decode cX5_behindPart 1 = .ok (.iload_n 1, 1) := by decide +kernel
theorem dX5_behindPart_2 : decode cX5_behindPart 2 = .ok (.invokevirtual 92, 3) := by decide +kernel
theorem dX5_behindPart_5 : decode cX5_behindPart 5 = .ok (.istore_n 2, 1) := by decide +kernel
theorem dX5_behindPart_6 : decode cX5_behindPart 6 = .ok (.iload_n 2, 1) := by decide +kernel
theorem dX5_behindPart_7 : decode cX5_behindPart 7 = .ok (.bipush 115, 2) := by decide +kernel
theorem dX5_behindPart_9 : decode cX5_behindPart 9 = .ok (.if_icmp .eq 9, 3) := by decide +kernel
theorem dX5_behindPart_12 : decode cX5_behindPart 12 = .ok (.iload_n 2, 1) := by decide +kernel
theorem dX5_behindPart_13 : decode cX5_behindPart 13 = .ok (.bipush 101, 2) := by decide +kernel
theorem dX5_behindPart_15 : decode cX5_behindPart 15 = .ok (.if_icmp .ne 27, 3) := by decide +kernel
theorem dX5_behindPart_18 : decode cX5_behindPart 18 = .ok (.aload_n 0, 1) := by decide +kernel
theorem dX5_behindPart_19 : decode cX5_behindPart 19 = .ok (.iload_n 1, 1) := by decide +kernel
theorem dX5_behindPart_20 : decode cX5_behindPart 20 = .ok (.iconst 1, 1) := by decide +kernel
theorem dX5_behindPart_21 : decode cX5_behindPart 21 = .ok (.iadd, 1) := by decide +kernel
theorem dX5_behindPart_22 : decode cX5_behindPart 22 = .ok (.invokevirtual 95, 3) := by decide +kernel
theorem dX5_behindPart_25 : decode cX5_behindPart 25 = .ok (.invokestatic 69, 3) := by decide +kernel
theorem dX5_behindPart_28 : decode cX5_behindPart 28 = .ok (.ifCond .eq 9, 3) := by decide +kernel
theorem dX5_behindPart_31 : decode cX5_behindPart 31 = .ok (.iload_n 1, 1) := by decide +kernel
theorem dX5_behindPart_32 : decode cX5_behindPart 32 = .ok (.iconst 2, 1) := by decide +kernel
theorem dX5_behindPart_33 : decode cX5_behindPart 33 = .ok (.iadd, 1) := by decide +kernel
theorem dX5_behindPart_34 : decode cX5_behindPart 34 = .ok (.goto 7, 3) := by decide +kernel
theorem dX5_behindPart_37 : decode cX5_behindPart 37 = .ok (.bipush (-2), 2) := by decide +kernel
theorem dX5_behindPart_39 : decode cX5_behindPart 39 = .ok (.iload_n 1, 1) := by decide +kernel
theorem dX5_behindPart_40 : decode cX5_behindPart 40 = .ok (.isub, 1) := by decide +kernel
theorem dX5_behindPart_41 : decode cX5_behindPart 41 = .ok (.ireturn, 1) := by decide +kernel
theorem dX5_behindPart_42 : decode cX5_behindPart 42 = .ok (.iload_n 2, 1) := by decide +kernel
theorem dX5_behindPart_43 : decode cX5_behindPart 43 = .ok (.bipush 106, 2) := by decide +kernel
theorem dX5_behindPart_45 : decode cX5_behindPart 45 = .ok (.if_icmp .eq 9, 3) := by decide +kernel
theorem dX5_behindPart_48 : decode cX5_behindPart 48 = .ok (.iload_n 2, 1) := by decide +kernel
theorem dX5_behindPart_49 : decode cX5_behindPart 49 = .ok (.bipush 120, 2) := by decide +kernel
theorem dX5_behindPart_51 : decode cX5_behindPart 51 = .ok (.if_icmp .ne 57, 3) := by decide +kernel
theorem dX5_behindPart_54 : decode cX5_behindPart 54 = .ok (.aload_n 0, 1) := by decide +kernel
theorem dX5_behindPart_55 : decode cX5_behindPart 55 = .ok (.iload_n 1, 1) := by decide +kernel
theorem dX5_behindPart_56 : decode cX5_behindPart 56 = .ok (.iconst 1, 1) := by decide +kernel
theorem dX5_behindPart_57 : decode cX5_behindPart 57 = .ok (.iadd, 1) := by decide +kernel
theorem dX5_behindPart_58 : decode cX5_behindPart 58 = .ok (.invokevirtual 95, 3) := by decide +kernel
theorem dX5_behindPart_61 : decode cX5_behindPart 61 = .ok (.istore_n 3, 1) := by decide +kernel
theorem dX5_behindPart_62 : decode cX5_behindPart 62 = .ok (.iload_n 3, 1) := by decide +kernel
theorem dX5_behindPart_63 : decode cX5_behindPart 63 = .ok (.iconst 0, 1) := by decide +kernel
theorem dX5_behindPart_64 : decode cX5_behindPart 64 = .ok (.bipush 7, 2) := by decide +kernel
theorem dX5_behindPart_66 : decode cX5_behindPart 66 = .ok (.invokestatic 33, 3) := by decide +kernel
theorem dX5_behindPart_69 : decode cX5_behindPart 69 = .ok (.ifCond .ne 10, 3) := by decide +kernel
theorem dX5_behindPart_72 : decode cX5_behindPart 72 = .ok (.bipush (-2), 2) := by decide +kernel
theorem dX5_behindPart_74 : decode cX5_behindPart 74 = .ok (.iload_n 1, 1) := by decide +kernel
theorem dX5_behindPart_75 : decode cX5_behindPart 75 = .ok (.isub, 1) := by decide +kernel
theorem dX5_behindPart_76 : decode cX5_behindPart 76 = .ok (.goto 31, 3) := by decide +kernel
theorem dX5_behindPart_79 : decode cX5_behindPart 79 = .ok (.aload_n 0, 1) := by decide +kernel
theorem dX5_behindPart_80 : decode cX5_behindPart 80 = .ok (.iload_n 1, 1) := by decide +kernel
theorem dX5_behindPart_81 : decode cX5_behindPart 81 = .ok (.iconst 2, 1) := by decide +kernel
theorem dX5_behindPart_82 : decode cX5_behindPart 82 = .ok (.iadd, 1) := by decide +kernel
theorem dX5_behindPart_83 : decode cX5_behindPart 83 = .ok (.invokevirtual 95, 3) := by decide +kernel
theorem dX5_behindPart_86 : decode cX5_behindPart 86 = .ok (.iload_n 3, 1) := by decide +kernel
theorem dX5_behindPart_87 : decode cX5_behindPart 87 = .ok (.iconst 1, 1) := by decide +kernel
theorem dX5_behindPart_88 : decode cX5_behindPart 88 = .ok (.iadd, 1) := by decide +kernel
theorem dX5_behindPart_89 : decode cX5_behindPart 89 = .ok (.bipush 8, 2) := by decide +kernel
theorem dX5_behindPart_91 : decode cX5_behindPart 91 = .ok (.invokestatic 33, 3) := by decide +kernel
theorem dX5_behindPart_94 : decode cX5_behindPart 94 = .ok (.ifCond .eq 9, 3) := by decide +kernel
theorem dX5_behindPart_97 : decode cX5_behindPart 97 = .ok (.iload_n 1, 1) := by decide +kernel
theorem dX5_behindPart_98 : decode cX5_behindPart 98 = .ok (.iconst 3, 1) := by decide +kernel
theorem dX5_behindPart_99 : decode cX5_behindPart 99 = .ok (.iadd, 1) := by decide +kernel
theorem dX5_behindPart_100 : decode cX5_behindPart 100 = .ok (.goto 7, 3) := by decide +kernel
theorem dX5_behindPart_103 : decode cX5_behindPart 103 = .ok (.bipush (-3), 2) := by decide +kernel
theorem dX5_behindPart_105 : decode cX5_behindPart 105 = .ok (.iload_n 1, 1) := by decide +kernel
theorem dX5_behindPart_106 : decode cX5_behindPart 106 = .ok (.isub, 1) := by decide +kernel
theorem dX5_behindPart_107 : decode cX5_behindPart 107 = .ok (.ireturn, 1) := by decide +kernel
theorem dX5_behindPart_108 : decode cX5_behindPart 108 = .ok (.iload_n 2, 1) := by decide +kernel
theorem dX5_behindPart_109 : decode cX5_behindPart 109 = .ok (.bipush 99, 2) := by decide +kernel
theorem dX5_behindPart_111 : decode cX5_behindPart 111 = .ok (.if_icmp .eq 7, 3) := by decide +kernel
theorem dX5_behindPart_114 : decode cX5_behindPart 114 = .ok (.iconst (-1), 1) := by decide +kernel
theorem dX5_behindPart_115 : decode cX5_behindPart 115 = .ok (.iload_n 1, 1) := by decide +kernel
theorem dX5_behindPart_116 : decode cX5_behindPart 116 = .ok (.isub, 1) := by decide +kernel
theorem dX5_behindPart_117 : decode cX5_behindPart 117 = .ok (.ireturn, 1) := by decide +kernel
theorem dX5_behindPart_118 : decode cX5_behindPart 118 = .ok (.aload_n 0, 1) := by decide +kernel
theorem dX5_behindPart_119 : decode cX5_behindPart 119 = .ok (.iload_n 1, 1) := by decide +kernel
theorem dX5_behindPart_120 : decode cX5_behindPart 120 = .ok (.iconst 1, 1) := by decide +kernel
theorem dX5_behindPart_121 : decode cX5_behindPart 121 = .ok (.iadd, 1) := by decide +kernel
theorem dX5_behindPart_122 : decode cX5_behindPart 122 = .ok (.invokevirtual 95, 3) := by decide +kernel
theorem dX5_behindPart_125 : decode cX5_behindPart 125 = .ok (.invokestatic 69, 3) := by decide +kernel
theorem dX5_behindPart_128 : decode cX5_behindPart 128 = .ok (.ifCond .ne 8, 3) := by decide +kernel
theorem dX5_behindPart_131 : decode cX5_behindPart 131 = .ok (.bipush (-2), 2) := by decide +kernel
theorem dX5_behindPart_133 : decode cX5_behindPart 133 = .ok (.iload_n 1, 1) := by decide +kernel
theorem dX5_behindPart_134 : decode cX5_behindPart 134 = .ok (.isub, 1) := by decide +kernel
theorem dX5_behindPart_135 : decode cX5_behindPart 135 = .ok (.ireturn, 1) := by decide +kernel
theorem dX5_behindPart_136 : decode cX5_behindPart 136 = .ok (.aload_n 0, 1) := by decide +kernel
theorem dX5_behindPart_137 : decode cX5_behindPart 137 = .ok (.iload_n 1, 1) := by decide +kernel
theorem dX5_behindPart_138 : decode cX5_behindPart 138 = .ok (.iconst 2, 1) := by decide +kernel
theorem dX5_behindPart_139 : decode cX5_behindPart 139 = .ok (.iadd, 1) := by decide +kernel
theorem dX5_behindPart_140 : decode cX5_behindPart 140 = .ok (.invokevirtual 92, 3) := by decide +kernel
theorem dX5_behindPart_143 : decode cX5_behindPart 143 = .ok (.bipush 61, 2) := by decide +kernel
theorem dX5_behindPart_145 : decode cX5_behindPart 145 = .ok (.if_icmp .eq 8, 3) := by decide +kernel
theorem dX5_behindPart_148 : decode cX5_behindPart 148 = .ok (.bipush (-3), 2) := by decide +kernel
theorem dX5_behindPart_150 : decode cX5_behindPart 150 = .ok (.iload_n 1, 1) := by decide +kernel
theorem dX5_behindPart_151 : decode cX5_behindPart 151 = .ok (.isub, 1) := by decide +kernel
theorem dX5_behindPart_152 : decode cX5_behindPart 152 = .ok (.ireturn, 1) := by decide +kernel
theorem dX5_behindPart_153 : decode cX5_behindPart 153 = .ok (.aload_n 0, 1) := by decide +kernel
theorem dX5_behindPart_154 : decode cX5_behindPart 154 = .ok (.iload_n 1, 1) := by decide +kernel
theorem dX5_behindPart_155 : decode cX5_behindPart 155 = .ok (.iconst 3, 1) := by decide +kernel
theorem dX5_behindPart_156 : decode cX5_behindPart 156 = .ok (.iadd, 1) := by decide +kernel
theorem dX5_behindPart_157 : decode cX5_behindPart 157 = .ok (.invokevirtual 98, 3) := by decide +kernel
theorem dX5_behindPart_160 : decode cX5_behindPart 160 = .ok (.istore_n 3, 1) := by decide +kernel
theorem dX5_behindPart_161 : decode cX5_behindPart 161 = .ok (.iload_n 3, 1) := by decide +kernel
theorem dX5_behindPart_162 : decode cX5_behindPart 162 = .ok (.iload_n 1, 1) := by decide +kernel
theorem dX5_behindPart_163 : decode cX5_behindPart 163 = .ok (.iconst 3, 1) := by decide +kernel
theorem dX5_behindPart_164 : decode cX5_behindPart 164 = .ok (.iadd, 1) := by decide +kernel
theorem dX5_behindPart_165 : decode cX5_behindPart 165 = .ok (.if_icmp .ne 10, 3) := by decide +kernel
theorem dX5_behindPart_168 : decode cX5_behindPart 168 = .ok (.bipush (-4), 2) := by decide +kernel
theorem dX5_behindPart_170 : decode cX5_behindPart 170 = .ok (.iload_n 1, 1) := by decide +kernel
theorem dX5_behindPart_171 : decode cX5_behindPart 171 = .ok (.isub, 1) := by decide +kernel
theorem dX5_behindPart_172 : decode cX5_behindPart 172 = .ok (.goto 4, 3) := by decide +kernel
theorem dX5_behindPart_175 : decode cX5_behindPart 175 = .ok (.iload_n 3, 1) := by decide +kernel
theorem dX5_behindPart_176 : decode cX5_behindPart 176 = .ok (.ireturn, 1) := by decide +kernel
set_option maxRecDepth 20000 in
theorem ggX5_wrong_X5_behindPart : GoodIn wsX5_wrong wsX5_behindPart := goodIn_r _ [7, 8, 9, 10, 6, 11, 1, 2, 12, 13, 14, 15, 16, 17, 18, 19, 20, 21, 22, 23, 24, 25, 26, 27, 28, 29, 30, 31, 32, 33, 34, 35] (by decide +kernel) (by decide +kernel)
set_option maxRecDepth 20000 in
theorem gX5_wrong_X5_behindPart : GoodIn wsX5_wrong (wsV RX5 101 RX5 yX5_behindPart wsX5_behindPart) := goodIn_app (goodIn_of _ (by decide +kernel)) ggX5_wrong_X5_behindPart
theorem dX5_wrong_0 : decode cX5_wrong 0 = .ok (.iconst 0, 1) := by decide +kernel
theorem dX5_wrong_1 : decode cX5_wrong 1 = .ok (.istore_n 1, 1) := by decide +kernel
theorem dX5_wrong_2 : decode cX5_wrong 2 = .ok (.iconst 1, 1) := by decide +kernel
theorem dX5_wrong_3 : decode cX5_wrong 3 = .ok (.istore_n 2, 1) := by decide +kernel
theorem dX5_wrong_4 : decode cX5_wrong 4 = .ok (.iload_n 2, 1) := by decide +kernel
theorem dX5_wrong_5 : decode cX5_wrong 5 = .ok (.ifCond .eq 63, 3) := by decide +kernel
theorem dX5_wrong_8 : decode cX5_wrong 8 = .ok (.aload_n 0, 1) := by decide +kernel
theorem dX5_wrong_9 : decode cX5_wrong 9 = .ok (.iload_n 1, 1) := by decide +kernel
theorem dX5_wrong_10 : decode cX5_wrong 10 = .ok (.invokevirtual 101, 3) := by decide +kernel
theorem dX5_wrong_13 : decode cX5_wrong 13 = .ok (.istore_n 1, 1) := by decide +kernel
theorem dX5_wrong_14 : decode cX5_wrong 14 = .ok (.iload_n 1, 1) := by decide +kernel
theorem dX5_wrong_15 : decode cX5_wrong 15 = .ok (.ifCond .ge 7, 3) := by decide +kernel
theorem dX5_wrong_18 : decode cX5_wrong 18 = .ok (.iconst (-1), 1) := by decide +kernel
theorem dX5_wrong_19 : decode cX5_wrong 19 = .ok (.iload_n 1, 1) := by decide +kernel
theorem dX5_wrong_20 : decode cX5_wrong 20 = .ok (.isub, 1) := by decide +kernel
theorem dX5_wrong_21 : decode cX5_wrong 21 = .ok (.ireturn, 1) := by decide +kernel
theorem dX5_wrong_22 : decode cX5_wrong 22 = .ok (.iload_n 1, 1) := by decide +kernel
theorem dX5_wrong_23 : decode cX5_wrong 23 = .ok (.aload_n 0, 1) := by decide +kernel
theorem dX5_wrong_24 : decode cX5_wrong 24 = .ok (.getfield 89, 3) := by decide +kernel
theorem dX5_wrong_27 : decode cX5_wrong 27 = .ok (.if_icmp .ge 7, 3) := by decide +kernel
theorem dX5_wrong_30 : decode cX5_wrong 30 = .ok (.iconst 1, 1) := by decide +kernel
theorem dX5_wrong_31 : decode cX5_wrong 31 = .ok (.goto 4, 3) := by decide +kernel
theorem dX5_wrong_34 : decode cX5_wrong 34 = .ok (.iconst 0, 1) := by decide +kernel
theorem dX5_wrong_35 : decode cX5_wrong 35 = .ok (.istore_n 2, 1) := by decide +kernel
theorem dX5_wrong_36 : decode cX5_wrong 36 = .ok (.iload_n 2, 1) := by decide +kernel
theorem dX5_wrong_37 : decode cX5_wrong 37 = .ok (.ifCond .eq 16, 3) := by decide +kernel
theorem dX5_wrong_40 : decode cX5_wrong 40 = .ok (.aload_n 0, 1) := by decide +kernel
theorem dX5_wrong_41 : decode cX5_wrong 41 = .ok (.getfield 26, 3) := by decide +kernel
theorem dX5_wrong_44 : decode cX5_wrong 44 = .ok (.iload_n 1, 1) := by decide +kernel
theorem dX5_wrong_45 : decode cX5_wrong 45 = .ok (.iaload, 1) := by decide +kernel
theorem dX5_wrong_46 : decode cX5_wrong 46 = .ok (.bipush 59, 2) := by decide +kernel
theorem dX5_wrong_48 : decode cX5_wrong 48 = .ok (.if_icmp .eq 5, 3) := by decide +kernel
theorem dX5_wrong_51 : decode cX5_wrong 51 = .ok (.iload_n 1, 1) := by decide +kernel
theorem dX5_wrong_52 : decode cX5_wrong 52 = .ok (.ireturn, 1) := by decide +kernel
theorem dX5_wrong_53 : decode cX5_wrong 53 = .ok (.iload_n 1, 1) := by decide +kernel
theorem dX5_wrong_54 : decode cX5_wrong 54 = .ok (.iload_n 2, 1) := by decide +kernel
theorem dX5_wrong_55 : decode cX5_wrong 55 = .ok (.ifCond .eq 7, 3) := by decide +kernel
theorem dX5_wrong_58 : decode cX5_wrong 58 = .ok (.iconst 1, 1) := by decide +kernel
theorem dX5_wrong_59 : decode cX5_wrong 59 = .ok (.goto 4, 3) := by decide +kernel
theorem dX5_wrong_62 : decode cX5_wrong 62 = .ok (.iconst 0, 1) := by decide +kernel
theorem dX5_wrong_63 : decode cX5_wrong 63 = .ok (.iadd, 1) := by decide +kernel
theorem dX5_wrong_64 : decode cX5_wrong 64 = .ok (.istore_n 1, 1) := by decide +kernel
theorem dX5_wrong_65 : decode cX5_wrong 65 = .ok (.goto (-61), 3) := by decide +kernel
theorem dX5_wrong_68 : decode cX5_wrong 68 = .ok (.iconst (-1), 1) := by decide +kernel
theorem dX5_wrong_69 : decode cX5_wrong 69 = .ok (.ireturn, 1) := by decide +kernel
set_option maxRecDepth 20000 in
theorem ggX5_firstError_X5_wrong : GoodIn wsX5_firstError wsX5_wrong := goodIn_r _ [7, 2, 8, 9, 10, 11, 6, 12, 13, 14, 15, 16, 17, 18, 19, 20, 21, 22, 23, 24, 25, 26, 27, 28, 29, 30, 31, 32, 33, 34, 35, 36, 37, 38, 39, 40] (by decide +kernel) (by decide +kernel)
set_option maxRecDepth 20000 in
theorem gX5_firstError_X5_wrong : GoodIn wsX5_firstError (wsV RX5 104 RX5 yX5_wrong wsX5_wrong) := goodIn_app (goodIn_of _ (by decide +kernel)) ggX5_firstError_X5_wrong
theorem dX5_firstError_0 : decode cX5_firstError 0 = .ok (.aload_n 0, 1) := by decide +kernel
theorem dX5_firstError_1 : decode cX5_firstError 1 = .ok (.iconst 0, 1) := by decide +kernel
theorem dX5_firstError_2 : decode cX5_firstError 2 = .ok (.putfield 29, 3) := by decide +kernel
theorem dX5_firstError_5 : decode cX5_firstError 5 = .ok (.aload_n 0, 1) := by decide +kernel
theorem dX5_firstError_6 : decode cX5_firstError 6 = .ok (.invokevirtual 104, 3) := by decide +kernel
theorem dX5_firstError_9 : decode cX5_firstError 9 = .ok (.iconst (-1), 1) := by decide +kernel
theorem dX5_firstError_10 : decode cX5_firstError 10 = .ok (.if_icmp .ne 10, 3) := by decide +kernel
theorem dX5_firstError_13 : decode cX5_firstError 13 = .ok (.aload_n 0, 1) := by decide +kernel
theorem dX5_firstError_14 : decode cX5_firstError 14 = .ok (.getfield 89, 3) := by decide +kernel
theorem dX5_firstError_17 : decode cX5_firstError 17 = .ok (.goto 7, 3) := by decide +kernel
theorem dX5_firstError_20 : decode cX5_firstError 20 = .ok (.aload_n 0, 1) := by decide +kernel
theorem dX5_firstError_21 : decode cX5_firstError 21 = .ok (.invokevirtual 104, 3) := by decide +kernel
theorem dX5_firstError_24 : decode cX5_firstError 24 = .ok (.ireturn, 1) := by decide +kernel
set_option maxRecDepth 20000 in
theorem ggX5_takes_X5_digitAt : GoodIn wsX5_takes wsX5_digitAt := goodIn_r _ [7, 8, 9, 10, 6, 11, 12, 1, 13, 14, 15, 16, 17, 18, 19, 20, 21, 22] (by decide +kernel) (by decide +kernel)
set_option maxRecDepth 20000 in
theorem gX5_takes_X5_digitAt : GoodIn wsX5_takes (wsV RX5 95 RX5 yX5_digitAt wsX5_digitAt) := goodIn_app (goodIn_of _ (by decide +kernel)) ggX5_takes_X5_digitAt
theorem dX5_takes_0 : decode cX5_takes 0 = .ok (.aload_n 0, 1) := by decide +kernel
theorem dX5_takes_1 : decode cX5_takes 1 = .ok (.iload_n 1, 1) := by decide +kernel
theorem dX5_takes_2 : decode cX5_takes 2 = .ok (.iconst 1, 1) := by decide +kernel
theorem dX5_takes_3 : decode cX5_takes 3 = .ok (.iadd, 1) := by decide +kernel
theorem dX5_takes_4 : decode cX5_takes 4 = .ok (.invokevirtual 95, 3) := by decide +kernel
theorem dX5_takes_7 : decode cX5_takes 7 = .ok (.istore_n 3, 1) := by decide +kernel
theorem dX5_takes_8 : decode cX5_takes 8 = .ok (.aload_n 0, 1) := by decide +kernel
theorem dX5_takes_9 : decode cX5_takes 9 = .ok (.iload_n 1, 1) := by decide +kernel
theorem dX5_takes_10 : decode cX5_takes 10 = .ok (.iconst 2, 1) := by decide +kernel
theorem dX5_takes_11 : decode cX5_takes 11 = .ok (.iadd, 1) := by decide +kernel
theorem dX5_takes_12 : decode cX5_takes 12 = .ok (.invokevirtual 95, 3) := by decide +kernel
theorem dX5_takes_15 : decode cX5_takes 15 = .ok (.istore 4, 2) := by decide +kernel
theorem dX5_takes_17 : decode cX5_takes 17 = .ok (.aload_n 0, 1) := by decide +kernel
theorem dX5_takes_18 : decode cX5_takes 18 = .ok (.getfield 26, 3) := by decide +kernel
theorem dX5_takes_21 : decode cX5_takes 21 = .ok (.iload_n 1, 1) := by decide +kernel
theorem dX5_takes_22 : decode cX5_takes 22 = .ok (.iaload, 1) := by decide +kernel
theorem dX5_takes_23 : decode cX5_takes 23 = .ok (.lookupswitch 147 #[(99, 41), (101, 131), (106, 96), (115, 115)], 41) := by decide +kernel
theorem dX5_takes_64 : decode cX5_takes 64 = .ok (.aload_n 0, 1) := by decide +kernel
theorem dX5_takes_65 : decode cX5_takes 65 = .ok (.getfield 7, 3) := by decide +kernel
theorem dX5_takes_68 : decode cX5_takes 68 = .ok (.iconst 0, 1) := by decide +kernel
theorem dX5_takes_69 : decode cX5_takes 69 = .ok (.iload_n 3, 1) := by decide +kernel
theorem dX5_takes_70 : decode cX5_takes 70 = .ok (.iadd, 1) := by decide +kernel
theorem dX5_takes_71 : decode cX5_takes 71 = .ok (.iconst 0, 1) := by decide +kernel
theorem dX5_takes_72 : decode cX5_takes 72 = .ok (.iastore, 1) := by decide +kernel
theorem dX5_takes_73 : decode cX5_takes 73 = .ok (.iload_n 1, 1) := by decide +kernel
theorem dX5_takes_74 : decode cX5_takes 74 = .ok (.iconst 3, 1) := by decide +kernel
theorem dX5_takes_75 : decode cX5_takes 75 = .ok (.iadd, 1) := by decide +kernel
theorem dX5_takes_76 : decode cX5_takes 76 = .ok (.istore 5, 2) := by decide +kernel
theorem dX5_takes_78 : decode cX5_takes 78 = .ok (.iload 5, 2) := by decide +kernel
theorem dX5_takes_80 : decode cX5_takes 80 = .ok (.iload_n 2, 1) := by decide +kernel
theorem dX5_takes_81 : decode cX5_takes 81 = .ok (.if_icmp .ge 35, 3) := by decide +kernel
theorem dX5_takes_84 : decode cX5_takes 84 = .ok (.aload_n 0, 1) := by decide +kernel
theorem dX5_takes_85 : decode cX5_takes 85 = .ok (.getfield 7, 3) := by decide +kernel
theorem dX5_takes_88 : decode cX5_takes 88 = .ok (.iconst 0, 1) := by decide +kernel
theorem dX5_takes_89 : decode cX5_takes 89 = .ok (.iload_n 3, 1) := by decide +kernel
theorem dX5_takes_90 : decode cX5_takes 90 = .ok (.iadd, 1) := by decide +kernel
theorem dX5_takes_91 : decode cX5_takes 91 = .ok (.bipush 10, 2) := by decide +kernel
theorem dX5_takes_93 : decode cX5_takes 93 = .ok (.aload_n 0, 1) := by decide +kernel
theorem dX5_takes_94 : decode cX5_takes 94 = .ok (.getfield 7, 3) := by decide +kernel
theorem dX5_takes_97 : decode cX5_takes 97 = .ok (.iconst 0, 1) := by decide +kernel
theorem dX5_takes_98 : decode cX5_takes 98 = .ok (.iload_n 3, 1) := by decide +kernel
theorem dX5_takes_99 : decode cX5_takes 99 = .ok (.iadd, 1) := by decide +kernel
theorem dX5_takes_100 : decode cX5_takes 100 = .ok (.iaload, 1) := by decide +kernel
theorem dX5_takes_101 : decode cX5_takes 101 = .ok (.imul, 1) := by decide +kernel
theorem dX5_takes_102 : decode cX5_takes 102 = .ok (.aload_n 0, 1) := by decide +kernel
theorem dX5_takes_103 : decode cX5_takes 103 = .ok (.iload 5, 2) := by decide +kernel
theorem dX5_takes_105 : decode cX5_takes 105 = .ok (.invokevirtual 95, 3) := by decide +kernel
theorem dX5_takes_108 : decode cX5_takes 108 = .ok (.iadd, 1) := by decide +kernel
theorem dX5_takes_109 : decode cX5_takes 109 = .ok (.iastore, 1) := by decide +kernel
theorem dX5_takes_110 : decode cX5_takes 110 = .ok (.iinc 5 1, 3) := by decide +kernel
theorem dX5_takes_113 : decode cX5_takes 113 = .ok (.goto (-35), 3) := by decide +kernel
theorem dX5_takes_116 : decode cX5_takes 116 = .ok (.goto 86, 3) := by decide +kernel
theorem dX5_takes_119 : decode cX5_takes 119 = .ok (.aload_n 0, 1) := by decide +kernel
theorem dX5_takes_120 : decode cX5_takes 120 = .ok (.getfield 7, 3) := by decide +kernel
theorem dX5_takes_123 : decode cX5_takes 123 = .ok (.bipush 27, 2) := by decide +kernel
theorem dX5_takes_125 : decode cX5_takes 125 = .ok (.iload_n 3, 1) := by decide +kernel
theorem dX5_takes_126 : decode cX5_takes 126 = .ok (.iadd, 1) := by decide +kernel
theorem dX5_takes_127 : decode cX5_takes 127 = .ok (.dup2, 1) := by decide +kernel
theorem dX5_takes_128 : decode cX5_takes 128 = .ok (.iaload, 1) := by decide +kernel
theorem dX5_takes_129 : decode cX5_takes 129 = .ok (.iconst 1, 1) := by decide +kernel
theorem dX5_takes_130 : decode cX5_takes 130 = .ok (.iload 4, 2) := by decide +kernel
theorem dX5_takes_132 : decode cX5_takes 132 = .ok (.ishl, 1) := by decide +kernel
theorem dX5_takes_133 : decode cX5_takes 133 = .ok (.ior, 1) := by decide +kernel
theorem dX5_takes_134 : decode cX5_takes 134 = .ok (.iastore, 1) := by decide +kernel
theorem dX5_takes_135 : decode cX5_takes 135 = .ok (.goto 67, 3) := by decide +kernel
theorem dX5_takes_138 : decode cX5_takes 138 = .ok (.aload_n 0, 1) := by decide +kernel
theorem dX5_takes_139 : decode cX5_takes 139 = .ok (.getfield 7, 3) := by decide +kernel
theorem dX5_takes_142 : decode cX5_takes 142 = .ok (.bipush 18, 2) := by decide +kernel
theorem dX5_takes_144 : decode cX5_takes 144 = .ok (.iload_n 3, 1) := by decide +kernel
theorem dX5_takes_145 : decode cX5_takes 145 = .ok (.iadd, 1) := by decide +kernel
theorem dX5_takes_146 : decode cX5_takes 146 = .ok (.dup2, 1) := by decide +kernel
theorem dX5_takes_147 : decode cX5_takes 147 = .ok (.iaload, 1) := by decide +kernel
theorem dX5_takes_148 : decode cX5_takes 148 = .ok (.iconst 1, 1) := by decide +kernel
theorem dX5_takes_149 : decode cX5_takes 149 = .ok (.ior, 1) := by decide +kernel
theorem dX5_takes_150 : decode cX5_takes 150 = .ok (.iastore, 1) := by decide +kernel
theorem dX5_takes_151 : decode cX5_takes 151 = .ok (.goto 51, 3) := by decide +kernel
theorem dX5_takes_154 : decode cX5_takes 154 = .ok (.aload_n 0, 1) := by decide +kernel
theorem dX5_takes_155 : decode cX5_takes 155 = .ok (.getfield 7, 3) := by decide +kernel
theorem dX5_takes_158 : decode cX5_takes 158 = .ok (.bipush 18, 2) := by decide +kernel
theorem dX5_takes_160 : decode cX5_takes 160 = .ok (.iload_n 3, 1) := by decide +kernel
theorem dX5_takes_161 : decode cX5_takes 161 = .ok (.iadd, 1) := by decide +kernel
theorem dX5_takes_162 : decode cX5_takes 162 = .ok (.dup2, 1) := by decide +kernel
theorem dX5_takes_163 : decode cX5_takes 163 = .ok (.iaload, 1) := by decide +kernel
theorem dX5_takes_164 : decode cX5_takes 164 = .ok (.iconst 2, 1) := by decide +kernel
theorem dX5_takes_165 : decode cX5_takes 165 = .ok (.ior, 1) := by decide +kernel
theorem dX5_takes_166 : decode cX5_takes 166 = .ok (.iastore, 1) := by decide +kernel
theorem dX5_takes_167 : decode cX5_takes 167 = .ok (.goto 35, 3) := by decide +kernel
theorem dX5_takes_170 : decode cX5_takes 170 = .ok (.aload_n 0, 1) := by decide +kernel
theorem dX5_takes_171 : decode cX5_takes 171 = .ok (.getfield 7, 3) := by decide +kernel
theorem dX5_takes_174 : decode cX5_takes 174 = .ok (.bipush 36, 2) := by decide +kernel
theorem dX5_takes_176 : decode cX5_takes 176 = .ok (.iload_n 3, 1) := by decide +kernel
theorem dX5_takes_177 : decode cX5_takes 177 = .ok (.iadd, 1) := by decide +kernel
theorem dX5_takes_178 : decode cX5_takes 178 = .ok (.dup2, 1) := by decide +kernel
theorem dX5_takes_179 : decode cX5_takes 179 = .ok (.iaload, 1) := by decide +kernel
theorem dX5_takes_180 : decode cX5_takes 180 = .ok (.iconst 1, 1) := by decide +kernel
theorem dX5_takes_181 : decode cX5_takes 181 = .ok (.iload 4, 2) := by decide +kernel
theorem dX5_takes_183 : decode cX5_takes 183 = .ok (.ishl, 1) := by decide +kernel
theorem dX5_takes_184 : decode cX5_takes 184 = .ok (.ior, 1) := by decide +kernel
theorem dX5_takes_185 : decode cX5_takes 185 = .ok (.iastore, 1) := by decide +kernel
theorem dX5_takes_186 : decode cX5_takes 186 = .ok (.aload_n 0, 1) := by decide +kernel
theorem dX5_takes_187 : decode cX5_takes 187 = .ok (.getfield 7, 3) := by decide +kernel
theorem dX5_takes_190 : decode cX5_takes 190 = .ok (.bipush 36, 2) := by decide +kernel
theorem dX5_takes_192 : decode cX5_takes 192 = .ok (.iload 4, 2) := by decide +kernel
theorem dX5_takes_194 : decode cX5_takes 194 = .ok (.iadd, 1) := by decide +kernel
theorem dX5_takes_195 : decode cX5_takes 195 = .ok (.dup2, 1) := by decide +kernel
theorem dX5_takes_196 : decode cX5_takes 196 = .ok (.iaload, 1) := by decide +kernel
theorem dX5_takes_197 : decode cX5_takes 197 = .ok (.iconst 1, 1) := by decide +kernel
theorem dX5_takes_198 : decode cX5_takes 198 = .ok (.iload_n 3, 1) := by decide +kernel
theorem dX5_takes_199 : decode cX5_takes 199 = .ok (.ishl, 1) := by decide +kernel
theorem dX5_takes_200 : decode cX5_takes 200 = .ok (.ior, 1) := by decide +kernel
theorem dX5_takes_201 : decode cX5_takes 201 = .ok (.iastore, 1) := by decide +kernel
theorem dX5_takes_202 : decode cX5_takes 202 = .ok (.return_, 1) := by decide +kernel
set_option maxRecDepth 20000 in
theorem ggX5_joins_X5_many : GoodIn wsX5_joins wsX5_many := goodIn_r _ [5] (by decide +kernel) (by decide +kernel)
set_option maxRecDepth 20000 in
theorem gX5_joins_X5_many : GoodIn wsX5_joins (va_wsS RX5 60 yX5_many wsX5_many) := goodIn_app (goodIn_of _ (by decide +kernel)) ggX5_joins_X5_many
theorem dX5_joins_0 : decode cX5_joins 0 = .ok (.iconst 0, 1) := by decide +kernel
theorem dX5_joins_1 : decode cX5_joins 1 = .ok (.istore_n 1, 1) := by decide +kernel
theorem dX5_joins_2 : decode cX5_joins 2 = .ok (.iconst 0, 1) := by decide +kernel
theorem dX5_joins_3 : decode cX5_joins 3 = .ok (.istore_n 2, 1) := by decide +kernel
theorem dX5_joins_4 : decode cX5_joins 4 = .ok (.iload_n 2, 1) := by decide +kernel
theorem dX5_joins_5 : decode cX5_joins 5 = .ok (.bipush 9, 2) := by decide +kernel
theorem dX5_joins_7 : decode cX5_joins 7 = .ok (.if_icmp .ge 24, 3) := by decide +kernel
theorem dX5_joins_10 : decode cX5_joins 10 = .ok (.iload_n 1, 1) := by decide +kernel
theorem dX5_joins_11 : decode cX5_joins 11 = .ok (.aload_n 0, 1) := by decide +kernel
theorem dX5_joins_12 : decode cX5_joins 12 = .ok (.getfield 7, 3) := by decide +kernel
theorem dX5_joins_15 : decode cX5_joins 15 = .ok (.bipush 27, 2) := by decide +kernel
theorem dX5_joins_17 : decode cX5_joins 17 = .ok (.iload_n 2, 1) := by decide +kernel
theorem dX5_joins_18 : decode cX5_joins 18 = .ok (.iadd, 1) := by decide +kernel
theorem dX5_joins_19 : decode cX5_joins 19 = .ok (.iaload, 1) := by decide +kernel
theorem dX5_joins_20 : decode cX5_joins 20 = .ok (.invokestatic 60, 3) := by decide +kernel
theorem dX5_joins_23 : decode cX5_joins 23 = .ok (.iadd, 1) := by decide +kernel
theorem dX5_joins_24 : decode cX5_joins 24 = .ok (.istore_n 1, 1) := by decide +kernel
theorem dX5_joins_25 : decode cX5_joins 25 = .ok (.iinc 2 1, 3) := by decide +kernel
theorem dX5_joins_28 : decode cX5_joins 28 = .ok (.goto (-24), 3) := by decide +kernel
theorem dX5_joins_31 : decode cX5_joins 31 = .ok (.iload_n 1, 1) := by decide +kernel
theorem dX5_joins_32 : decode cX5_joins 32 = .ok (.ireturn, 1) := by decide +kernel
set_option maxRecDepth 20000 in
theorem ggX5_load_X5_wrong : GoodIn wsX5_load wsX5_wrong := goodIn_r _ [7, 2, 8, 9, 10, 11, 6, 12, 13, 14, 15, 16, 17, 18, 19, 20, 21, 22, 23, 24, 25, 26, 27, 28, 29, 30, 57, 58, 59, 60, 61, 62, 63, 64, 65, 66] (by decide +kernel) (by decide +kernel)
set_option maxRecDepth 20000 in
theorem gX5_load_X5_wrong : GoodIn wsX5_load (wsV RX5 104 RX5 yX5_wrong wsX5_wrong) := goodIn_app (goodIn_of _ (by decide +kernel)) ggX5_load_X5_wrong
set_option maxRecDepth 20000 in
theorem ggX5_load_X5_holds : GoodIn wsX5_load wsX5_holds := goodIn_r _ [34, 35, 57, 58, 59, 60, 61, 62, 63, 64, 65, 66] (by decide +kernel) (by decide +kernel)
set_option maxRecDepth 20000 in
theorem gX5_load_X5_holds : GoodIn wsX5_load (wsV RX5 72 RX5 yX5_holds wsX5_holds) := goodIn_app (goodIn_of _ (by decide +kernel)) ggX5_load_X5_holds
set_option maxRecDepth 20000 in
theorem ggX5_load_X5_save : GoodIn wsX5_load wsX5_save := goodIn_r _ [39, 40, 41, 1, 57, 58, 59, 60, 61, 62, 63, 64, 65, 66] (by decide +kernel) (by decide +kernel)
set_option maxRecDepth 20000 in
theorem gX5_load_X5_save : GoodIn wsX5_load (wsV RX5 63 RX5 yX5_save wsX5_save) := goodIn_app (goodIn_of _ (by decide +kernel)) ggX5_load_X5_save
set_option maxRecDepth 20000 in
theorem ggX5_load_X5_behindPart : GoodIn wsX5_load wsX5_behindPart := goodIn_r _ [12, 13, 14, 15, 6, 16, 2, 8, 17, 18, 19, 20, 21, 22, 23, 24, 25, 26, 27, 28, 29, 30, 57, 58, 59, 60, 61, 62, 63, 64, 65, 66] (by decide +kernel) (by decide +kernel)
set_option maxRecDepth 20000 in
theorem gX5_load_X5_behindPart : GoodIn wsX5_load (wsV RX5 101 RX5 yX5_behindPart wsX5_behindPart) := goodIn_app (goodIn_of _ (by decide +kernel)) ggX5_load_X5_behindPart
set_option maxRecDepth 20000 in
theorem ggX5_load_X5_takes : GoodIn wsX5_load wsX5_takes := goodIn_r _ [45, 8, 1, 17, 18, 19, 6, 20, 13, 14, 15, 16, 2, 57, 58, 59, 60, 61, 62, 63, 64, 65, 66] (by decide +kernel) (by decide +kernel)
set_option maxRecDepth 20000 in
theorem gX5_load_X5_takes : GoodIn wsX5_load (wsV RX5 107 RX5 yX5_takes wsX5_takes) := goodIn_app (goodIn_of _ (by decide +kernel)) ggX5_load_X5_takes
set_option maxRecDepth 20000 in
theorem ggX5_load_X5_anew : GoodIn wsX5_load wsX5_anew := goodIn_r _ [49, 1, 57, 58, 59, 60, 61, 62, 63, 64, 65, 66] (by decide +kernel) (by decide +kernel)
set_option maxRecDepth 20000 in
theorem gX5_load_X5_anew : GoodIn wsX5_load (wsV RX5 66 RX5 yX5_anew wsX5_anew) := goodIn_app (goodIn_of _ (by decide +kernel)) ggX5_load_X5_anew
set_option maxRecDepth 20000 in
theorem ggX5_load_X5_joins : GoodIn wsX5_load wsX5_joins := goodIn_r _ [53, 1, 54, 55, 6, 56, 57, 58, 59, 60, 61, 62, 63, 64, 65, 66] (by decide +kernel) (by decide +kernel)
set_option maxRecDepth 20000 in
theorem gX5_load_X5_joins : GoodIn wsX5_load (wsV RX5 111 RX5 yX5_joins wsX5_joins) := goodIn_app (goodIn_of _ (by decide +kernel)) ggX5_load_X5_joins
theorem dX5_load_0 : decode cX5_load 0 = .ok (.aload_n 0, 1) := by decide +kernel
theorem dX5_load_1 : decode cX5_load 1 = .ok (.aload_n 0, 1) := by decide +kernel
theorem dX5_load_2 : decode cX5_load 2 = .ok (.invokevirtual 104, 3) := by decide +kernel
theorem dX5_load_5 : decode cX5_load 5 = .ok (.iconst (-1), 1) := by decide +kernel
theorem dX5_load_6 : decode cX5_load 6 = .ok (.if_icmp .ne 7, 3) := by decide +kernel
theorem dX5_load_9 : decode cX5_load 9 = .ok (.iconst 0, 1) := by decide +kernel
theorem dX5_load_10 : decode cX5_load 10 = .ok (.goto 4, 3) := by decide +kernel
theorem dX5_load_13 : decode cX5_load 13 = .ok (.iconst 1, 1) := by decide +kernel
theorem dX5_load_14 : decode cX5_load 14 = .ok (.invokevirtual 72, 3) := by decide +kernel
theorem dX5_load_17 : decode cX5_load 17 = .ok (.ifCond .ne 5, 3) := by decide +kernel
theorem dX5_load_20 : decode cX5_load 20 = .ok (.iconst 0, 1) := by decide +kernel
theorem dX5_load_21 : decode cX5_load 21 = .ok (.ireturn, 1) := by decide +kernel
theorem dX5_load_22 : decode cX5_load 22 = .ok (.aload_n 0, 1) := by decide +kernel
theorem dX5_load_23 : decode cX5_load 23 = .ok (.invokevirtual 63, 3) := by decide +kernel
theorem dX5_load_26 : decode cX5_load 26 = .ok (.iconst 0, 1) := by decide +kernel
theorem dX5_load_27 : decode cX5_load 27 = .ok (.istore_n 1, 1) := by decide +kernel
theorem dX5_load_28 : decode cX5_load 28 = .ok (.iload_n 1, 1) := by decide +kernel
theorem dX5_load_29 : decode cX5_load 29 = .ok (.bipush 45, 2) := by decide +kernel
theorem dX5_load_31 : decode cX5_load 31 = .ok (.if_icmp .ge 16, 3) := by decide +kernel
theorem dX5_load_34 : decode cX5_load 34 = .ok (.aload_n 0, 1) := by decide +kernel
theorem dX5_load_35 : decode cX5_load 35 = .ok (.getfield 7, 3) := by decide +kernel
theorem dX5_load_38 : decode cX5_load 38 = .ok (.iload_n 1, 1) := by decide +kernel
theorem dX5_load_39 : decode cX5_load 39 = .ok (.iconst 0, 1) := by decide +kernel
theorem dX5_load_40 : decode cX5_load 40 = .ok (.iastore, 1) := by decide +kernel
theorem dX5_load_41 : decode cX5_load 41 = .ok (.iinc 1 1, 3) := by decide +kernel
theorem dX5_load_44 : decode cX5_load 44 = .ok (.goto (-16), 3) := by decide +kernel
theorem dX5_load_47 : decode cX5_load 47 = .ok (.iconst 0, 1) := by decide +kernel
theorem dX5_load_48 : decode cX5_load 48 = .ok (.istore_n 1, 1) := by decide +kernel
theorem dX5_load_49 : decode cX5_load 49 = .ok (.iload_n 1, 1) := by decide +kernel
theorem dX5_load_50 : decode cX5_load 50 = .ok (.aload_n 0, 1) := by decide +kernel
theorem dX5_load_51 : decode cX5_load 51 = .ok (.getfield 89, 3) := by decide +kernel
theorem dX5_load_54 : decode cX5_load 54 = .ok (.if_icmp .ge 22, 3) := by decide +kernel
theorem dX5_load_57 : decode cX5_load 57 = .ok (.aload_n 0, 1) := by decide +kernel
theorem dX5_load_58 : decode cX5_load 58 = .ok (.iload_n 1, 1) := by decide +kernel
theorem dX5_load_59 : decode cX5_load 59 = .ok (.invokevirtual 101, 3) := by decide +kernel
theorem dX5_load_62 : decode cX5_load 62 = .ok (.istore_n 2, 1) := by decide +kernel
theorem dX5_load_63 : decode cX5_load 63 = .ok (.aload_n 0, 1) := by decide +kernel
theorem dX5_load_64 : decode cX5_load 64 = .ok (.iload_n 1, 1) := by decide +kernel
theorem dX5_load_65 : decode cX5_load 65 = .ok (.iload_n 2, 1) := by decide +kernel
theorem dX5_load_66 : decode cX5_load 66 = .ok (.invokevirtual 107, 3) := by decide +kernel
theorem dX5_load_69 : decode cX5_load 69 = .ok (.iload_n 2, 1) := by decide +kernel
theorem dX5_load_70 : decode cX5_load 70 = .ok (.iconst 1, 1) := by decide +kernel
theorem dX5_load_71 : decode cX5_load 71 = .ok (.iadd, 1) := by decide +kernel
theorem dX5_load_72 : decode cX5_load 72 = .ok (.istore_n 1, 1) := by decide +kernel
theorem dX5_load_73 : decode cX5_load 73 = .ok (.goto (-24), 3) := by decide +kernel
theorem dX5_load_76 : decode cX5_load 76 = .ok (.aload_n 0, 1) := by decide +kernel
theorem dX5_load_77 : decode cX5_load 77 = .ok (.invokevirtual 66, 3) := by decide +kernel
theorem dX5_load_80 : decode cX5_load 80 = .ok (.aload_n 0, 1) := by decide +kernel
theorem dX5_load_81 : decode cX5_load 81 = .ok (.iconst 0, 1) := by decide +kernel
theorem dX5_load_82 : decode cX5_load 82 = .ok (.putfield 89, 3) := by decide +kernel
theorem dX5_load_85 : decode cX5_load 85 = .ok (.aload_n 0, 1) := by decide +kernel
theorem dX5_load_86 : decode cX5_load 86 = .ok (.invokevirtual 111, 3) := by decide +kernel
theorem dX5_load_89 : decode cX5_load 89 = .ok (.ireturn, 1) := by decide +kernel
set_option maxRecDepth 20000 in
theorem ggX5_keep_X5_in : GoodIn wsX5_keep wsX5_in := goodIn_r _ [7] (by decide +kernel) (by decide +kernel)
set_option maxRecDepth 20000 in
theorem gX5_keep_X5_in : GoodIn wsX5_keep (va_wsS RX5 33 yX5_in wsX5_in) := goodIn_app (goodIn_of _ (by decide +kernel)) ggX5_keep_X5_in
set_option maxRecDepth 20000 in
theorem ggX5_keep_X5_holds : GoodIn wsX5_keep wsX5_holds := goodIn_r _ [11, 12, 20, 21, 22, 23, 24, 25, 26, 27, 28, 29] (by decide +kernel) (by decide +kernel)
set_option maxRecDepth 20000 in
theorem gX5_keep_X5_holds : GoodIn wsX5_keep (wsV RX5 72 RX5 yX5_holds wsX5_holds) := goodIn_app (goodIn_of _ (by decide +kernel)) ggX5_keep_X5_holds
set_option maxRecDepth 20000 in
theorem ggX5_keep_X5_joins : GoodIn wsX5_keep wsX5_joins := goodIn_r _ [16, 2, 17, 18, 6, 19, 20, 21, 22, 23, 24, 25, 26, 27, 28, 29] (by decide +kernel) (by decide +kernel)
set_option maxRecDepth 20000 in
theorem gX5_keep_X5_joins : GoodIn wsX5_keep (wsV RX5 111 RX5 yX5_joins wsX5_joins) := goodIn_app (goodIn_of _ (by decide +kernel)) ggX5_keep_X5_joins
theorem dX5_keep_0 : decode cX5_keep 0 = .ok (.aload_n 0, 1) := by decide +kernel
theorem dX5_keep_1 : decode cX5_keep 1 = .ok (.iload_n 1, 1) := by decide +kernel
theorem dX5_keep_2 : decode cX5_keep 2 = .ok (.iconst 0, 1) := by decide +kernel
theorem dX5_keep_3 : decode cX5_keep 3 = .ok (.iconst 1, 1) := by decide +kernel
theorem dX5_keep_4 : decode cX5_keep 4 = .ok (.invokestatic 33, 3) := by decide +kernel
theorem dX5_keep_7 : decode cX5_keep 7 = .ok (.ifCond .eq 7, 3) := by decide +kernel
theorem dX5_keep_10 : decode cX5_keep 10 = .ok (.iconst 0, 1) := by decide +kernel
theorem dX5_keep_11 : decode cX5_keep 11 = .ok (.goto 4, 3) := by decide +kernel
theorem dX5_keep_14 : decode cX5_keep 14 = .ok (.iconst 1, 1) := by decide +kernel
theorem dX5_keep_15 : decode cX5_keep 15 = .ok (.invokevirtual 72, 3) := by decide +kernel
theorem dX5_keep_18 : decode cX5_keep 18 = .ok (.ifCond .ne 5, 3) := by decide +kernel
theorem dX5_keep_21 : decode cX5_keep 21 = .ok (.iconst 0, 1) := by decide +kernel
theorem dX5_keep_22 : decode cX5_keep 22 = .ok (.ireturn, 1) := by decide +kernel
theorem dX5_keep_23 : decode cX5_keep 23 = .ok (.iconst 0, 1) := by decide +kernel
theorem dX5_keep_24 : decode cX5_keep 24 = .ok (.istore_n 2, 1) := by decide +kernel
theorem dX5_keep_25 : decode cX5_keep 25 = .ok (.iload_n 2, 1) := by decide +kernel
theorem dX5_keep_26 : decode cX5_keep 26 = .ok (.bipush 72, 2) := by decide +kernel
theorem dX5_keep_28 : decode cX5_keep 28 = .ok (.if_icmp .ge 26, 3) := by decide +kernel
theorem dX5_keep_31 : decode cX5_keep 31 = .ok (.aload_n 0, 1) := by decide +kernel
theorem dX5_keep_32 : decode cX5_keep 32 = .ok (.getfield 16, 3) := by decide +kernel
theorem dX5_keep_35 : decode cX5_keep 35 = .ok (.bipush 72, 2) := by decide +kernel
theorem dX5_keep_37 : decode cX5_keep 37 = .ok (.iload_n 1, 1) := by decide +kernel
theorem dX5_keep_38 : decode cX5_keep 38 = .ok (.imul, 1) := by decide +kernel
theorem dX5_keep_39 : decode cX5_keep 39 = .ok (.iload_n 2, 1) := by decide +kernel
theorem dX5_keep_40 : decode cX5_keep 40 = .ok (.iadd, 1) := by decide +kernel
theorem dX5_keep_41 : decode cX5_keep 41 = .ok (.aload_n 0, 1) := by decide +kernel
theorem dX5_keep_42 : decode cX5_keep 42 = .ok (.getfield 7, 3) := by decide +kernel
theorem dX5_keep_45 : decode cX5_keep 45 = .ok (.iload_n 2, 1) := by decide +kernel
theorem dX5_keep_46 : decode cX5_keep 46 = .ok (.iaload, 1) := by decide +kernel
theorem dX5_keep_47 : decode cX5_keep 47 = .ok (.iastore, 1) := by decide +kernel
theorem dX5_keep_48 : decode cX5_keep 48 = .ok (.iinc 2 1, 3) := by decide +kernel
theorem dX5_keep_51 : decode cX5_keep 51 = .ok (.goto (-26), 3) := by decide +kernel
theorem dX5_keep_54 : decode cX5_keep 54 = .ok (.aload_n 0, 1) := by decide +kernel
theorem dX5_keep_55 : decode cX5_keep 55 = .ok (.getfield 19, 3) := by decide +kernel
theorem dX5_keep_58 : decode cX5_keep 58 = .ok (.iload_n 1, 1) := by decide +kernel
theorem dX5_keep_59 : decode cX5_keep 59 = .ok (.iconst 1, 1) := by decide +kernel
theorem dX5_keep_60 : decode cX5_keep 60 = .ok (.bastore, 1) := by decide +kernel
theorem dX5_keep_61 : decode cX5_keep 61 = .ok (.aload_n 0, 1) := by decide +kernel
theorem dX5_keep_62 : decode cX5_keep 62 = .ok (.invokevirtual 111, 3) := by decide +kernel
theorem dX5_keep_65 : decode cX5_keep 65 = .ok (.ireturn, 1) := by decide +kernel
set_option maxRecDepth 20000 in
theorem ggX5_goBack_X5_in : GoodIn wsX5_goBack wsX5_in := goodIn_r _ [7] (by decide +kernel) (by decide +kernel)
set_option maxRecDepth 20000 in
theorem gX5_goBack_X5_in : GoodIn wsX5_goBack (va_wsS RX5 33 yX5_in wsX5_in) := goodIn_app (goodIn_of _ (by decide +kernel)) ggX5_goBack_X5_in
set_option maxRecDepth 20000 in
theorem ggX5_goBack_X5_holds : GoodIn wsX5_goBack wsX5_holds := goodIn_r _ [11, 12, 26, 27, 28, 29, 30, 31, 32, 33, 34, 35] (by decide +kernel) (by decide +kernel)
set_option maxRecDepth 20000 in
theorem gX5_goBack_X5_holds : GoodIn wsX5_goBack (wsV RX5 72 RX5 yX5_holds wsX5_holds) := goodIn_app (goodIn_of _ (by decide +kernel)) ggX5_goBack_X5_holds
set_option maxRecDepth 20000 in
theorem ggX5_goBack_X5_save : GoodIn wsX5_goBack wsX5_save := goodIn_r _ [16, 17, 18, 2, 26, 27, 28, 29, 30, 31, 32, 33, 34, 35] (by decide +kernel) (by decide +kernel)
set_option maxRecDepth 20000 in
theorem gX5_goBack_X5_save : GoodIn wsX5_goBack (wsV RX5 63 RX5 yX5_save wsX5_save) := goodIn_app (goodIn_of _ (by decide +kernel)) ggX5_goBack_X5_save
set_option maxRecDepth 20000 in
theorem ggX5_goBack_X5_joins : GoodIn wsX5_goBack wsX5_joins := goodIn_r _ [22, 2, 23, 24, 6, 25, 26, 27, 28, 29, 30, 31, 32, 33, 34, 35] (by decide +kernel) (by decide +kernel)
set_option maxRecDepth 20000 in
theorem gX5_goBack_X5_joins : GoodIn wsX5_goBack (wsV RX5 111 RX5 yX5_joins wsX5_joins) := goodIn_app (goodIn_of _ (by decide +kernel)) ggX5_goBack_X5_joins
theorem dX5_goBack_0 : decode cX5_goBack 0 = .ok (.iload_n 1, 1) := by decide +kernel
theorem dX5_goBack_1 : decode cX5_goBack 1 = .ok (.iconst 0, 1) := by decide +kernel
theorem dX5_goBack_2 : decode cX5_goBack 2 = .ok (.iconst 1, 1) := by decide +kernel
theorem dX5_goBack_3 : decode cX5_goBack 3 = .ok (.invokestatic 33, 3) := by decide +kernel
theorem dX5_goBack_6 : decode cX5_goBack 6 = .ok (.istore_n 2, 1) := by decide +kernel
theorem dX5_goBack_7 : decode cX5_goBack 7 = .ok (.aload_n 0, 1) := by decide +kernel
theorem dX5_goBack_8 : decode cX5_goBack 8 = .ok (.iload_n 2, 1) := by decide +kernel
theorem dX5_goBack_9 : decode cX5_goBack 9 = .ok (.ifCond .ne 7, 3) := by decide +kernel
theorem dX5_goBack_12 : decode cX5_goBack 12 = .ok (.iconst 1, 1) := by decide +kernel
theorem dX5_goBack_13 : decode cX5_goBack 13 = .ok (.goto 17, 3) := by decide +kernel
theorem dX5_goBack_16 : decode cX5_goBack 16 = .ok (.aload_n 0, 1) := by decide +kernel
theorem dX5_goBack_17 : decode cX5_goBack 17 = .ok (.getfield 19, 3) := by decide +kernel
theorem dX5_goBack_20 : decode cX5_goBack 20 = .ok (.iload_n 1, 1) := by decide +kernel
theorem dX5_goBack_21 : decode cX5_goBack 21 = .ok (.baload, 1) := by decide +kernel
theorem dX5_goBack_22 : decode cX5_goBack 22 = .ok (.ifCond .ne 7, 3) := by decide +kernel
theorem dX5_goBack_25 : decode cX5_goBack 25 = .ok (.iconst 2, 1) := by decide +kernel
theorem dX5_goBack_26 : decode cX5_goBack 26 = .ok (.goto 4, 3) := by decide +kernel
theorem dX5_goBack_29 : decode cX5_goBack 29 = .ok (.iconst 0, 1) := by decide +kernel
theorem dX5_goBack_30 : decode cX5_goBack 30 = .ok (.invokevirtual 72, 3) := by decide +kernel
theorem dX5_goBack_33 : decode cX5_goBack 33 = .ok (.ifCond .ne 5, 3) := by decide +kernel
theorem dX5_goBack_36 : decode cX5_goBack 36 = .ok (.iconst 0, 1) := by decide +kernel
theorem dX5_goBack_37 : decode cX5_goBack 37 = .ok (.ireturn, 1) := by decide +kernel
theorem dX5_goBack_38 : decode cX5_goBack 38 = .ok (.aload_n 0, 1) := by decide +kernel
theorem dX5_goBack_39 : decode cX5_goBack 39 = .ok (.invokevirtual 63, 3) := by decide +kernel
theorem dX5_goBack_42 : decode cX5_goBack 42 = .ok (.iconst 0, 1) := by decide +kernel
theorem dX5_goBack_43 : decode cX5_goBack 43 = .ok (.istore_n 3, 1) := by decide +kernel
theorem dX5_goBack_44 : decode cX5_goBack 44 = .ok (.iload_n 3, 1) := by decide +kernel
theorem dX5_goBack_45 : decode cX5_goBack 45 = .ok (.bipush 72, 2) := by decide +kernel
theorem dX5_goBack_47 : decode cX5_goBack 47 = .ok (.if_icmp .ge 26, 3) := by decide +kernel
theorem dX5_goBack_50 : decode cX5_goBack 50 = .ok (.aload_n 0, 1) := by decide +kernel
theorem dX5_goBack_51 : decode cX5_goBack 51 = .ok (.getfield 7, 3) := by decide +kernel
theorem dX5_goBack_54 : decode cX5_goBack 54 = .ok (.iload_n 3, 1) := by decide +kernel
theorem dX5_goBack_55 : decode cX5_goBack 55 = .ok (.aload_n 0, 1) := by decide +kernel
theorem dX5_goBack_56 : decode cX5_goBack 56 = .ok (.getfield 16, 3) := by decide +kernel
theorem dX5_goBack_59 : decode cX5_goBack 59 = .ok (.bipush 72, 2) := by decide +kernel
theorem dX5_goBack_61 : decode cX5_goBack 61 = .ok (.iload_n 1, 1) := by decide +kernel
theorem dX5_goBack_62 : decode cX5_goBack 62 = .ok (.imul, 1) := by decide +kernel
theorem dX5_goBack_63 : decode cX5_goBack 63 = .ok (.iload_n 3, 1) := by decide +kernel
theorem dX5_goBack_64 : decode cX5_goBack 64 = .ok (.iadd, 1) := by decide +kernel
theorem dX5_goBack_65 : decode cX5_goBack 65 = .ok (.iaload, 1) := by decide +kernel
theorem dX5_goBack_66 : decode cX5_goBack 66 = .ok (.iastore, 1) := by decide +kernel
theorem dX5_goBack_67 : decode cX5_goBack 67 = .ok (.iinc 3 1, 3) := by decide +kernel
theorem dX5_goBack_70 : decode cX5_goBack 70 = .ok (.goto (-26), 3) := by decide +kernel
theorem dX5_goBack_73 : decode cX5_goBack 73 = .ok (.aload_n 0, 1) := by decide +kernel
theorem dX5_goBack_74 : decode cX5_goBack 74 = .ok (.invokevirtual 111, 3) := by decide +kernel
theorem dX5_goBack_77 : decode cX5_goBack 77 = .ok (.ireturn, 1) := by decide +kernel
set_option maxRecDepth 20000 in
theorem ggX5_undo_X5_holds : GoodIn wsX5_undo wsX5_holds := goodIn_r _ [8, 9, 10, 11, 12, 13, 14, 15, 16, 17, 18, 19] (by decide +kernel) (by decide +kernel)
set_option maxRecDepth 20000 in
theorem gX5_undo_X5_holds : GoodIn wsX5_undo (wsV RX5 72 RX5 yX5_holds wsX5_holds) := goodIn_app (goodIn_of _ (by decide +kernel)) ggX5_undo_X5_holds
theorem dX5_undo_0 : decode cX5_undo 0 = .ok (.aload_n 0, 1) := by decide +kernel
theorem dX5_undo_1 : decode cX5_undo 1 = .ok (.aload_n 0, 1) := by decide +kernel
theorem dX5_undo_2 : decode cX5_undo 2 = .ok (.getfield 37, 3) := by decide +kernel
theorem dX5_undo_5 : decode cX5_undo 5 = .ok (.ifCond .le 7, 3) := by decide +kernel
theorem dX5_undo_8 : decode cX5_undo 8 = .ok (.iconst 0, 1) := by decide +kernel
theorem dX5_undo_9 : decode cX5_undo 9 = .ok (.goto 4, 3) := by decide +kernel
theorem dX5_undo_12 : decode cX5_undo 12 = .ok (.iconst 1, 1) := by decide +kernel
theorem dX5_undo_13 : decode cX5_undo 13 = .ok (.invokevirtual 72, 3) := by decide +kernel
theorem dX5_undo_16 : decode cX5_undo 16 = .ok (.ifCond .ne 5, 3) := by decide +kernel
theorem dX5_undo_19 : decode cX5_undo 19 = .ok (.iconst 0, 1) := by decide +kernel
theorem dX5_undo_20 : decode cX5_undo 20 = .ok (.ireturn, 1) := by decide +kernel
theorem dX5_undo_21 : decode cX5_undo 21 = .ok (.aload_n 0, 1) := by decide +kernel
theorem dX5_undo_22 : decode cX5_undo 22 = .ok (.dup, 1) := by decide +kernel
theorem dX5_undo_23 : decode cX5_undo 23 = .ok (.getfield 37, 3) := by decide +kernel
theorem dX5_undo_26 : decode cX5_undo 26 = .ok (.iconst 1, 1) := by decide +kernel
theorem dX5_undo_27 : decode cX5_undo 27 = .ok (.isub, 1) := by decide +kernel
theorem dX5_undo_28 : decode cX5_undo 28 = .ok (.putfield 37, 3) := by decide +kernel
theorem dX5_undo_31 : decode cX5_undo 31 = .ok (.iconst 0, 1) := by decide +kernel
theorem dX5_undo_32 : decode cX5_undo 32 = .ok (.istore_n 1, 1) := by decide +kernel
theorem dX5_undo_33 : decode cX5_undo 33 = .ok (.iload_n 1, 1) := by decide +kernel
theorem dX5_undo_34 : decode cX5_undo 34 = .ok (.bipush 72, 2) := by decide +kernel
theorem dX5_undo_36 : decode cX5_undo 36 = .ok (.if_icmp .ge 29, 3) := by decide +kernel
theorem dX5_undo_39 : decode cX5_undo 39 = .ok (.aload_n 0, 1) := by decide +kernel
theorem dX5_undo_40 : decode cX5_undo 40 = .ok (.getfield 7, 3) := by decide +kernel
theorem dX5_undo_43 : decode cX5_undo 43 = .ok (.iload_n 1, 1) := by decide +kernel
theorem dX5_undo_44 : decode cX5_undo 44 = .ok (.aload_n 0, 1) := by decide +kernel
theorem dX5_undo_45 : decode cX5_undo 45 = .ok (.getfield 23, 3) := by decide +kernel
theorem dX5_undo_48 : decode cX5_undo 48 = .ok (.bipush 72, 2) := by decide +kernel
theorem dX5_undo_50 : decode cX5_undo 50 = .ok (.aload_n 0, 1) := by decide +kernel
theorem dX5_undo_51 : decode cX5_undo 51 = .ok (.getfield 37, 3) := by decide +kernel
theorem dX5_undo_54 : decode cX5_undo 54 = .ok (.imul, 1) := by decide +kernel
theorem dX5_undo_55 : decode cX5_undo 55 = .ok (.iload_n 1, 1) := by decide +kernel
theorem dX5_undo_56 : decode cX5_undo 56 = .ok (.iadd, 1) := by decide +kernel
theorem dX5_undo_57 : decode cX5_undo 57 = .ok (.iaload, 1) := by decide +kernel
theorem dX5_undo_58 : decode cX5_undo 58 = .ok (.iastore, 1) := by decide +kernel
theorem dX5_undo_59 : decode cX5_undo 59 = .ok (.iinc 1 1, 3) := by decide +kernel
theorem dX5_undo_62 : decode cX5_undo 62 = .ok (.goto (-29), 3) := by decide +kernel
theorem dX5_undo_65 : decode cX5_undo 65 = .ok (.aload_n 0, 1) := by decide +kernel
theorem dX5_undo_66 : decode cX5_undo 66 = .ok (.getfield 37, 3) := by decide +kernel
theorem dX5_undo_69 : decode cX5_undo 69 = .ok (.ireturn, 1) := by decide +kernel
theorem dX5_joinsTo_0 : decode cX5_joinsTo 0 = .ok (.iconst 0, 1) := by decide +kernel
theorem dX5_joinsTo_1 : decode cX5_joinsTo 1 = .ok (.istore_n 2, 1) := by decide +kernel
theorem dX5_joinsTo_2 : decode cX5_joinsTo 2 = .ok (.iconst 0, 1) := by decide +kernel
theorem dX5_joinsTo_3 : decode cX5_joinsTo 3 = .ok (.istore_n 3, 1) := by decide +kernel
theorem dX5_joinsTo_4 : decode cX5_joinsTo 4 = .ok (.iload_n 3, 1) := by decide +kernel
theorem dX5_joinsTo_5 : decode cX5_joinsTo 5 = .ok (.bipush 9, 2) := by decide +kernel
theorem dX5_joinsTo_7 : decode cX5_joinsTo 7 = .ok (.if_icmp .ge 25, 3) := by decide +kernel
theorem dX5_joinsTo_10 : decode cX5_joinsTo 10 = .ok (.iload_n 2, 1) := by decide +kernel
theorem dX5_joinsTo_11 : decode cX5_joinsTo 11 = .ok (.aload_n 0, 1) := by decide +kernel
theorem dX5_joinsTo_12 : decode cX5_joinsTo 12 = .ok (.getfield 7, 3) := by decide +kernel
theorem dX5_joinsTo_15 : decode cX5_joinsTo 15 = .ok (.bipush 27, 2) := by decide +kernel
theorem dX5_joinsTo_17 : decode cX5_joinsTo 17 = .ok (.iload_n 3, 1) := by decide +kernel
theorem dX5_joinsTo_18 : decode cX5_joinsTo 18 = .ok (.iadd, 1) := by decide +kernel
theorem dX5_joinsTo_19 : decode cX5_joinsTo 19 = .ok (.iaload, 1) := by decide +kernel
theorem dX5_joinsTo_20 : decode cX5_joinsTo 20 = .ok (.iload_n 1, 1) := by decide +kernel
theorem dX5_joinsTo_21 : decode cX5_joinsTo 21 = .ok (.ishr, 1) := by decide +kernel
theorem dX5_joinsTo_22 : decode cX5_joinsTo 22 = .ok (.iconst 1, 1) := by decide +kernel
theorem dX5_joinsTo_23 : decode cX5_joinsTo 23 = .ok (.iand, 1) := by decide +kernel
theorem dX5_joinsTo_24 : decode cX5_joinsTo 24 = .ok (.iadd, 1) := by decide +kernel
theorem dX5_joinsTo_25 : decode cX5_joinsTo 25 = .ok (.istore_n 2, 1) := by decide +kernel
theorem dX5_joinsTo_26 : decode cX5_joinsTo 26 = .ok (.iinc 3 1, 3) := by decide +kernel
theorem dX5_joinsTo_29 : decode cX5_joinsTo 29 = .ok (.goto (-25), 3) := by decide +kernel
theorem dX5_joinsTo_32 : decode cX5_joinsTo 32 = .ok (.iload_n 2, 1) := by decide +kernel
theorem dX5_joinsTo_33 : decode cX5_joinsTo 33 = .ok (.ireturn, 1) := by decide +kernel
set_option maxRecDepth 20000 in
theorem ggX5_property_X5_joinsTo : GoodIn wsX5_property wsX5_joinsTo := goodIn_r _ [6, 1, 26, 27, 28, 29, 30, 31, 32, 33, 34, 35] (by decide +kernel) (by decide +kernel)
set_option maxRecDepth 20000 in
theorem gX5_property_X5_joinsTo : GoodIn wsX5_property (wsV RX5 114 RX5 yX5_joinsTo wsX5_joinsTo) := goodIn_app (goodIn_of _ (by decide +kernel)) ggX5_property_X5_joinsTo
set_option maxRecDepth 20000 in
theorem ggX5_property_X5_many : GoodIn wsX5_property wsX5_many := goodIn_r _ [9] (by decide +kernel) (by decide +kernel)
set_option maxRecDepth 20000 in
theorem gX5_property_X5_many : GoodIn wsX5_property (va_wsS RX5 60 yX5_many wsX5_many) := goodIn_app (goodIn_of _ (by decide +kernel)) ggX5_property_X5_many
set_option maxRecDepth 20000 in
theorem ggX5_property_X5_behind : GoodIn wsX5_property wsX5_behind := goodIn_r _ [13, 1, 26, 27, 28, 29, 30, 31, 32, 33, 34, 35] (by decide +kernel) (by decide +kernel)
set_option maxRecDepth 20000 in
theorem gX5_property_X5_behind : GoodIn wsX5_property (wsV RX5 57 RX5 yX5_behind wsX5_behind) := goodIn_app (goodIn_of _ (by decide +kernel)) ggX5_property_X5_behind
set_option maxRecDepth 20000 in
theorem ggX5_property_X5_ways : GoodIn wsX5_property wsX5_ways := goodIn_r _ [17, 18, 19, 20, 5, 21, 1, 22, 23, 24, 25, 26, 27, 28, 29, 30, 31, 32, 33, 34, 35] (by decide +kernel) (by decide +kernel)
set_option maxRecDepth 20000 in
theorem gX5_property_X5_ways : GoodIn wsX5_property (wsV RX5 117 RX5 yX5_ways wsX5_ways) := goodIn_app (goodIn_of _ (by decide +kernel)) ggX5_property_X5_ways
theorem dX5_property_0 : decode cX5_property 0 = .ok (.iload_n 2, 1) := by decide +kernel
theorem dX5_property_1 : decode cX5_property 1 = .ok (.tableswitch 92 0 6 #[43, 43, 43, 55, 61, 74, 83], 43) := by decide +kernel
theorem dX5_property_44 : decode cX5_property 44 = .ok (.aload_n 0, 1) := by decide +kernel
theorem dX5_property_45 : decode cX5_property 45 = .ok (.getfield 7, 3) := by decide +kernel
theorem dX5_property_48 : decode cX5_property 48 = .ok (.bipush 9, 2) := by decide +kernel
theorem dX5_property_50 : decode cX5_property 50 = .ok (.iload_n 2, 1) := by decide +kernel
theorem dX5_property_51 : decode cX5_property 51 = .ok (.imul, 1) := by decide +kernel
theorem dX5_property_52 : decode cX5_property 52 = .ok (.iload_n 1, 1) := by decide +kernel
theorem dX5_property_53 : decode cX5_property 53 = .ok (.iadd, 1) := by decide +kernel
theorem dX5_property_54 : decode cX5_property 54 = .ok (.iaload, 1) := by decide +kernel
theorem dX5_property_55 : decode cX5_property 55 = .ok (.ireturn, 1) := by decide +kernel
theorem dX5_property_56 : decode cX5_property 56 = .ok (.aload_n 0, 1) := by decide +kernel
theorem dX5_property_57 : decode cX5_property 57 = .ok (.iload_n 1, 1) := by decide +kernel
theorem dX5_property_58 : decode cX5_property 58 = .ok (.invokevirtual 114, 3) := by decide +kernel
theorem dX5_property_61 : decode cX5_property 61 = .ok (.ireturn, 1) := by decide +kernel
theorem dX5_property_62 : decode cX5_property 62 = .ok (.aload_n 0, 1) := by decide +kernel
theorem dX5_property_63 : decode cX5_property 63 = .ok (.getfield 7, 3) := by decide +kernel
theorem dX5_property_66 : decode cX5_property 66 = .ok (.bipush 27, 2) := by decide +kernel
theorem dX5_property_68 : decode cX5_property 68 = .ok (.iload_n 1, 1) := by decide +kernel
theorem dX5_property_69 : decode cX5_property 69 = .ok (.iadd, 1) := by decide +kernel
theorem dX5_property_70 : decode cX5_property 70 = .ok (.iaload, 1) := by decide +kernel
theorem dX5_property_71 : decode cX5_property 71 = .ok (.invokestatic 60, 3) := by decide +kernel
theorem dX5_property_74 : decode cX5_property 74 = .ok (.ireturn, 1) := by decide +kernel
theorem dX5_property_75 : decode cX5_property 75 = .ok (.aload_n 0, 1) := by decide +kernel
theorem dX5_property_76 : decode cX5_property 76 = .ok (.iload_n 1, 1) := by decide +kernel
theorem dX5_property_77 : decode cX5_property 77 = .ok (.invokevirtual 57, 3) := by decide +kernel
theorem dX5_property_80 : decode cX5_property 80 = .ok (.invokestatic 60, 3) := by decide +kernel
theorem dX5_property_83 : decode cX5_property 83 = .ok (.ireturn, 1) := by decide +kernel
theorem dX5_property_84 : decode cX5_property 84 = .ok (.aload_n 0, 1) := by decide +kernel
theorem dX5_property_85 : decode cX5_property 85 = .ok (.iconst 1, 1) := by decide +kernel
theorem dX5_property_86 : decode cX5_property 86 = .ok (.iload_n 1, 1) := by decide +kernel
theorem dX5_property_87 : decode cX5_property 87 = .ok (.ishl, 1) := by decide +kernel
theorem dX5_property_88 : decode cX5_property 88 = .ok (.iconst 0, 1) := by decide +kernel
theorem dX5_property_89 : decode cX5_property 89 = .ok (.invokevirtual 117, 3) := by decide +kernel
theorem dX5_property_92 : decode cX5_property 92 = .ok (.ireturn, 1) := by decide +kernel
theorem dX5_property_93 : decode cX5_property 93 = .ok (.aload_n 0, 1) := by decide +kernel
theorem dX5_property_94 : decode cX5_property 94 = .ok (.getfield 7, 3) := by decide +kernel
theorem dX5_property_97 : decode cX5_property 97 = .ok (.bipush 36, 2) := by decide +kernel
theorem dX5_property_99 : decode cX5_property 99 = .ok (.iload_n 1, 1) := by decide +kernel
theorem dX5_property_100 : decode cX5_property 100 = .ok (.iadd, 1) := by decide +kernel
theorem dX5_property_101 : decode cX5_property 101 = .ok (.iaload, 1) := by decide +kernel
theorem dX5_property_102 : decode cX5_property 102 = .ok (.ireturn, 1) := by decide +kernel
set_option maxRecDepth 20000 in
theorem ggX5_pieceOf_X5_isPiece : GoodIn wsX5_pieceOf wsX5_isPiece := goodIn_r _ [4, 5, 6, 3, 7] (by decide +kernel) (by decide +kernel)
set_option maxRecDepth 20000 in
theorem gX5_pieceOf_X5_isPiece : GoodIn wsX5_pieceOf (va_wsS RX5 69 yX5_isPiece wsX5_isPiece) := goodIn_app (goodIn_of _ (by decide +kernel)) ggX5_pieceOf_X5_isPiece
set_option maxRecDepth 20000 in
theorem ggX5_pieceOf_X5_in : GoodIn wsX5_pieceOf wsX5_in := goodIn_r _ [7] (by decide +kernel) (by decide +kernel)
set_option maxRecDepth 20000 in
theorem gX5_pieceOf_X5_in : GoodIn wsX5_pieceOf (va_wsS RX5 33 yX5_in wsX5_in) := goodIn_app (goodIn_of _ (by decide +kernel)) ggX5_pieceOf_X5_in
set_option maxRecDepth 20000 in
theorem ggX5_pieceOf_X5_holds : GoodIn wsX5_pieceOf wsX5_holds := goodIn_r _ [11, 12, 41, 42, 43, 44, 45, 46, 47, 48, 49, 50] (by decide +kernel) (by decide +kernel)
set_option maxRecDepth 20000 in
theorem gX5_pieceOf_X5_holds : GoodIn wsX5_pieceOf (wsV RX5 72 RX5 yX5_holds wsX5_holds) := goodIn_app (goodIn_of _ (by decide +kernel)) ggX5_pieceOf_X5_holds
set_option maxRecDepth 20000 in
theorem ggX5_pieceOf_X5_property : GoodIn wsX5_pieceOf wsX5_property := goodIn_r _ [16, 17, 18, 19, 20, 3, 21, 22, 23, 24, 25, 26, 27, 28, 29, 30, 31, 32, 33, 34, 35, 36, 37, 38, 39, 40, 41, 42, 43, 44, 45, 46, 47, 48, 49, 50] (by decide +kernel) (by decide +kernel)
set_option maxRecDepth 20000 in
theorem gX5_pieceOf_X5_property : GoodIn wsX5_pieceOf (wsV RX5 121 RX5 yX5_property wsX5_property) := goodIn_app (goodIn_of _ (by decide +kernel)) ggX5_pieceOf_X5_property
theorem dX5_pieceOf_0 : decode cX5_pieceOf 0 = .ok (.aload_n 0, 1) := by decide +kernel
theorem dX5_pieceOf_1 : decode cX5_pieceOf 1 = .ok (.iload_n 1, 1) := by decide +kernel
theorem dX5_pieceOf_2 : decode cX5_pieceOf 2 = .ok (.invokestatic 69, 3) := by decide +kernel
theorem dX5_pieceOf_5 : decode cX5_pieceOf 5 = .ok (.ifCond .ne 7, 3) := by decide +kernel
theorem dX5_pieceOf_8 : decode cX5_pieceOf 8 = .ok (.iconst 1, 1) := by decide +kernel
theorem dX5_pieceOf_9 : decode cX5_pieceOf 9 = .ok (.goto 18, 3) := by decide +kernel
theorem dX5_pieceOf_12 : decode cX5_pieceOf 12 = .ok (.iload_n 2, 1) := by decide +kernel
theorem dX5_pieceOf_13 : decode cX5_pieceOf 13 = .ok (.iconst 0, 1) := by decide +kernel
theorem dX5_pieceOf_14 : decode cX5_pieceOf 14 = .ok (.bipush 7, 2) := by decide +kernel
theorem dX5_pieceOf_16 : decode cX5_pieceOf 16 = .ok (.invokestatic 33, 3) := by decide +kernel
theorem dX5_pieceOf_19 : decode cX5_pieceOf 19 = .ok (.ifCond .ne 7, 3) := by decide +kernel
theorem dX5_pieceOf_22 : decode cX5_pieceOf 22 = .ok (.iconst 2, 1) := by decide +kernel
theorem dX5_pieceOf_23 : decode cX5_pieceOf 23 = .ok (.goto 4, 3) := by decide +kernel
theorem dX5_pieceOf_26 : decode cX5_pieceOf 26 = .ok (.iconst 0, 1) := by decide +kernel
theorem dX5_pieceOf_27 : decode cX5_pieceOf 27 = .ok (.invokevirtual 72, 3) := by decide +kernel
theorem dX5_pieceOf_30 : decode cX5_pieceOf 30 = .ok (.ifCond .eq 12, 3) := by decide +kernel
theorem dX5_pieceOf_33 : decode cX5_pieceOf 33 = .ok (.aload_n 0, 1) := by decide +kernel
theorem dX5_pieceOf_34 : decode cX5_pieceOf 34 = .ok (.iload_n 1, 1) := by decide +kernel
theorem dX5_pieceOf_35 : decode cX5_pieceOf 35 = .ok (.iload_n 2, 1) := by decide +kernel
theorem dX5_pieceOf_36 : decode cX5_pieceOf 36 = .ok (.invokevirtual 121, 3) := by decide +kernel
theorem dX5_pieceOf_39 : decode cX5_pieceOf 39 = .ok (.goto 4, 3) := by decide +kernel
theorem dX5_pieceOf_42 : decode cX5_pieceOf 42 = .ok (.iconst 0, 1) := by decide +kernel
theorem dX5_pieceOf_43 : decode cX5_pieceOf 43 = .ok (.ireturn, 1) := by decide +kernel
set_option maxRecDepth 20000 in
theorem ggX5_isJoined_X5_isPiece : GoodIn wsX5_isJoined wsX5_isPiece := goodIn_r _ [5, 6, 7, 4, 8] (by decide +kernel) (by decide +kernel)
set_option maxRecDepth 20000 in
theorem gX5_isJoined_X5_isPiece : GoodIn wsX5_isJoined (va_wsS RX5 69 yX5_isPiece wsX5_isPiece) := goodIn_app (goodIn_of _ (by decide +kernel)) ggX5_isJoined_X5_isPiece
set_option maxRecDepth 20000 in
theorem ggX5_isJoined_X5_holds : GoodIn wsX5_isJoined wsX5_holds := goodIn_r _ [12, 13, 14, 15, 16, 17, 18, 19, 20, 21, 22, 23] (by decide +kernel) (by decide +kernel)
set_option maxRecDepth 20000 in
theorem gX5_isJoined_X5_holds : GoodIn wsX5_isJoined (wsV RX5 72 RX5 yX5_holds wsX5_holds) := goodIn_app (goodIn_of _ (by decide +kernel)) ggX5_isJoined_X5_holds
theorem dX5_isJoined_0 : decode cX5_isJoined 0 = .ok (.aload_n 0, 1) := by decide +kernel
theorem dX5_isJoined_1 : decode cX5_isJoined 1 = .ok (.iload_n 1, 1) := by decide +kernel
theorem dX5_isJoined_2 : decode cX5_isJoined 2 = .ok (.invokestatic 69, 3) := by decide +kernel
theorem dX5_isJoined_5 : decode cX5_isJoined 5 = .ok (.ifCond .eq 14, 3) := by decide +kernel
theorem dX5_isJoined_8 : decode cX5_isJoined 8 = .ok (.iload_n 2, 1) := by decide +kernel
theorem dX5_isJoined_9 : decode cX5_isJoined 9 = .ok (.invokestatic 69, 3) := by decide +kernel
theorem dX5_isJoined_12 : decode cX5_isJoined 12 = .ok (.ifCond .eq 7, 3) := by decide +kernel
theorem dX5_isJoined_15 : decode cX5_isJoined 15 = .ok (.iconst 0, 1) := by decide +kernel
theorem dX5_isJoined_16 : decode cX5_isJoined 16 = .ok (.goto 4, 3) := by decide +kernel
theorem dX5_isJoined_19 : decode cX5_isJoined 19 = .ok (.iconst 1, 1) := by decide +kernel
theorem dX5_isJoined_20 : decode cX5_isJoined 20 = .ok (.invokevirtual 72, 3) := by decide +kernel
theorem dX5_isJoined_23 : decode cX5_isJoined 23 = .ok (.ifCond .eq 19, 3) := by decide +kernel
theorem dX5_isJoined_26 : decode cX5_isJoined 26 = .ok (.aload_n 0, 1) := by decide +kernel
theorem dX5_isJoined_27 : decode cX5_isJoined 27 = .ok (.getfield 7, 3) := by decide +kernel
theorem dX5_isJoined_30 : decode cX5_isJoined 30 = .ok (.bipush 27, 2) := by decide +kernel
theorem dX5_isJoined_32 : decode cX5_isJoined 32 = .ok (.iload_n 1, 1) := by decide +kernel
theorem dX5_isJoined_33 : decode cX5_isJoined 33 = .ok (.iadd, 1) := by decide +kernel
theorem dX5_isJoined_34 : decode cX5_isJoined 34 = .ok (.iaload, 1) := by decide +kernel
theorem dX5_isJoined_35 : decode cX5_isJoined 35 = .ok (.iload_n 2, 1) := by decide +kernel
theorem dX5_isJoined_36 : decode cX5_isJoined 36 = .ok (.ishr, 1) := by decide +kernel
theorem dX5_isJoined_37 : decode cX5_isJoined 37 = .ok (.iconst 1, 1) := by decide +kernel
theorem dX5_isJoined_38 : decode cX5_isJoined 38 = .ok (.iand, 1) := by decide +kernel
theorem dX5_isJoined_39 : decode cX5_isJoined 39 = .ok (.goto 4, 3) := by decide +kernel
theorem dX5_isJoined_42 : decode cX5_isJoined 42 = .ok (.iconst 0, 1) := by decide +kernel
theorem dX5_isJoined_43 : decode cX5_isJoined 43 = .ok (.ireturn, 1) := by decide +kernel
set_option maxRecDepth 20000 in
theorem ggX5_note_X5_many : GoodIn wsX5_note wsX5_many := goodIn_r _ [5] (by decide +kernel) (by decide +kernel)
set_option maxRecDepth 20000 in
theorem gX5_note_X5_many : GoodIn wsX5_note (va_wsS RX5 60 yX5_many wsX5_many) := goodIn_app (goodIn_of _ (by decide +kernel)) ggX5_note_X5_many
theorem dX5_note_0 : decode cX5_note 0 = .ok (.iload_n 1, 1) := by decide +kernel
theorem dX5_note_1 : decode cX5_note 1 = .ok (.aload_n 0, 1) := by decide +kernel
theorem dX5_note_2 : decode cX5_note 2 = .ok (.getfield 7, 3) := by decide +kernel
theorem dX5_note_5 : decode cX5_note 5 = .ok (.bipush 45, 2) := by decide +kernel
theorem dX5_note_7 : decode cX5_note 7 = .ok (.iaload, 1) := by decide +kernel
theorem dX5_note_8 : decode cX5_note 8 = .ok (.if_icmp .lt 7, 3) := by decide +kernel
theorem dX5_note_11 : decode cX5_note 11 = .ok (.iconst (-1), 1) := by decide +kernel
theorem dX5_note_12 : decode cX5_note 12 = .ok (.goto 40, 3) := by decide +kernel
theorem dX5_note_15 : decode cX5_note 15 = .ok (.iload_n 2, 1) := by decide +kernel
theorem dX5_note_16 : decode cX5_note 16 = .ok (.iconst 2, 1) := by decide +kernel
theorem dX5_note_17 : decode cX5_note 17 = .ok (.if_icmp .ge 19, 3) := by decide +kernel
theorem dX5_note_20 : decode cX5_note 20 = .ok (.aload_n 0, 1) := by decide +kernel
theorem dX5_note_21 : decode cX5_note 21 = .ok (.getfield 7, 3) := by decide +kernel
theorem dX5_note_24 : decode cX5_note 24 = .ok (.bipush 46, 2) := by decide +kernel
theorem dX5_note_26 : decode cX5_note 26 = .ok (.iconst 2, 1) := by decide +kernel
theorem dX5_note_27 : decode cX5_note 27 = .ok (.iload_n 1, 1) := by decide +kernel
theorem dX5_note_28 : decode cX5_note 28 = .ok (.imul, 1) := by decide +kernel
theorem dX5_note_29 : decode cX5_note 29 = .ok (.iadd, 1) := by decide +kernel
theorem dX5_note_30 : decode cX5_note 30 = .ok (.iload_n 2, 1) := by decide +kernel
theorem dX5_note_31 : decode cX5_note 31 = .ok (.iadd, 1) := by decide +kernel
theorem dX5_note_32 : decode cX5_note 32 = .ok (.iaload, 1) := by decide +kernel
theorem dX5_note_33 : decode cX5_note 33 = .ok (.goto 19, 3) := by decide +kernel
theorem dX5_note_36 : decode cX5_note 36 = .ok (.aload_n 0, 1) := by decide +kernel
theorem dX5_note_37 : decode cX5_note 37 = .ok (.getfield 7, 3) := by decide +kernel
theorem dX5_note_40 : decode cX5_note 40 = .ok (.bipush 46, 2) := by decide +kernel
theorem dX5_note_42 : decode cX5_note 42 = .ok (.iconst 2, 1) := by decide +kernel
theorem dX5_note_43 : decode cX5_note 43 = .ok (.iload_n 1, 1) := by decide +kernel
theorem dX5_note_44 : decode cX5_note 44 = .ok (.imul, 1) := by decide +kernel
theorem dX5_note_45 : decode cX5_note 45 = .ok (.iadd, 1) := by decide +kernel
theorem dX5_note_46 : decode cX5_note 46 = .ok (.iconst 1, 1) := by decide +kernel
theorem dX5_note_47 : decode cX5_note 47 = .ok (.iadd, 1) := by decide +kernel
theorem dX5_note_48 : decode cX5_note 48 = .ok (.iaload, 1) := by decide +kernel
theorem dX5_note_49 : decode cX5_note 49 = .ok (.invokestatic 60, 3) := by decide +kernel
theorem dX5_note_52 : decode cX5_note 52 = .ok (.ireturn, 1) := by decide +kernel
set_option maxRecDepth 20000 in
theorem ggX5_noted_X5_in : GoodIn wsX5_noted wsX5_in := goodIn_r _ [4] (by decide +kernel) (by decide +kernel)
set_option maxRecDepth 20000 in
theorem gX5_noted_X5_in : GoodIn wsX5_noted (va_wsS RX5 33 yX5_in wsX5_in) := goodIn_app (goodIn_of _ (by decide +kernel)) ggX5_noted_X5_in
set_option maxRecDepth 20000 in
theorem ggX5_noted_X5_holds : GoodIn wsX5_noted wsX5_holds := goodIn_r _ [8, 9, 18, 19, 20, 21, 22, 23, 24, 25, 26, 27] (by decide +kernel) (by decide +kernel)
set_option maxRecDepth 20000 in
theorem gX5_noted_X5_holds : GoodIn wsX5_noted (wsV RX5 72 RX5 yX5_holds wsX5_holds) := goodIn_app (goodIn_of _ (by decide +kernel)) ggX5_noted_X5_holds
set_option maxRecDepth 20000 in
theorem ggX5_noted_X5_note : GoodIn wsX5_noted wsX5_note := goodIn_r _ [13, 14, 15, 16, 3, 17, 18, 19, 20, 21, 22, 23, 24, 25, 26, 27] (by decide +kernel) (by decide +kernel)
set_option maxRecDepth 20000 in
theorem gX5_noted_X5_note : GoodIn wsX5_noted (wsV RX5 124 RX5 yX5_note wsX5_note) := goodIn_app (goodIn_of _ (by decide +kernel)) ggX5_noted_X5_note
theorem dX5_noted_0 : decode cX5_noted 0 = .ok (.aload_n 0, 1) := by decide +kernel
theorem dX5_noted_1 : decode cX5_noted 1 = .ok (.iload_n 1, 1) := by decide +kernel
theorem dX5_noted_2 : decode cX5_noted 2 = .ok (.ifCond .lt 16, 3) := by decide +kernel
theorem dX5_noted_5 : decode cX5_noted 5 = .ok (.iload_n 2, 1) := by decide +kernel
theorem dX5_noted_6 : decode cX5_noted 6 = .ok (.iconst 0, 1) := by decide +kernel
theorem dX5_noted_7 : decode cX5_noted 7 = .ok (.iconst 2, 1) := by decide +kernel
theorem dX5_noted_8 : decode cX5_noted 8 = .ok (.invokestatic 33, 3) := by decide +kernel
theorem dX5_noted_11 : decode cX5_noted 11 = .ok (.ifCond .eq 7, 3) := by decide +kernel
theorem dX5_noted_14 : decode cX5_noted 14 = .ok (.iconst 0, 1) := by decide +kernel
theorem dX5_noted_15 : decode cX5_noted 15 = .ok (.goto 4, 3) := by decide +kernel
theorem dX5_noted_18 : decode cX5_noted 18 = .ok (.iconst 1, 1) := by decide +kernel
theorem dX5_noted_19 : decode cX5_noted 19 = .ok (.invokevirtual 72, 3) := by decide +kernel
theorem dX5_noted_22 : decode cX5_noted 22 = .ok (.ifCond .eq 12, 3) := by decide +kernel
theorem dX5_noted_25 : decode cX5_noted 25 = .ok (.aload_n 0, 1) := by decide +kernel
theorem dX5_noted_26 : decode cX5_noted 26 = .ok (.iload_n 1, 1) := by decide +kernel
theorem dX5_noted_27 : decode cX5_noted 27 = .ok (.iload_n 2, 1) := by decide +kernel
theorem dX5_noted_28 : decode cX5_noted 28 = .ok (.invokevirtual 124, 3) := by decide +kernel
theorem dX5_noted_31 : decode cX5_noted 31 = .ok (.goto 4, 3) := by decide +kernel
theorem dX5_noted_34 : decode cX5_noted 34 = .ok (.iconst 0, 1) := by decide +kernel
theorem dX5_noted_35 : decode cX5_noted 35 = .ok (.ireturn, 1) := by decide +kernel
theorem dX5_sum_0 : decode cX5_sum 0 = .ok (.iconst 0, 1) := by decide +kernel
theorem dX5_sum_1 : decode cX5_sum 1 = .ok (.istore_n 2, 1) := by decide +kernel
theorem dX5_sum_2 : decode cX5_sum 2 = .ok (.iconst 0, 1) := by decide +kernel
theorem dX5_sum_3 : decode cX5_sum 3 = .ok (.istore_n 3, 1) := by decide +kernel
theorem dX5_sum_4 : decode cX5_sum 4 = .ok (.iload_n 3, 1) := by decide +kernel
theorem dX5_sum_5 : decode cX5_sum 5 = .ok (.bipush 9, 2) := by decide +kernel
theorem dX5_sum_7 : decode cX5_sum 7 = .ok (.if_icmp .ge 20, 3) := by decide +kernel
theorem dX5_sum_10 : decode cX5_sum 10 = .ok (.iload_n 2, 1) := by decide +kernel
theorem dX5_sum_11 : decode cX5_sum 11 = .ok (.aload_n 0, 1) := by decide +kernel
theorem dX5_sum_12 : decode cX5_sum 12 = .ok (.getfield 7, 3) := by decide +kernel
theorem dX5_sum_15 : decode cX5_sum 15 = .ok (.iload_n 1, 1) := by decide +kernel
theorem dX5_sum_16 : decode cX5_sum 16 = .ok (.iload_n 3, 1) := by decide +kernel
theorem dX5_sum_17 : decode cX5_sum 17 = .ok (.iadd, 1) := by decide +kernel
theorem dX5_sum_18 : decode cX5_sum 18 = .ok (.iaload, 1) := by decide +kernel
theorem dX5_sum_19 : decode cX5_sum 19 = .ok (.iadd, 1) := by decide +kernel
theorem dX5_sum_20 : decode cX5_sum 20 = .ok (.istore_n 2, 1) := by decide +kernel
theorem dX5_sum_21 : decode cX5_sum 21 = .ok (.iinc 3 1, 3) := by decide +kernel
theorem dX5_sum_24 : decode cX5_sum 24 = .ok (.goto (-20), 3) := by decide +kernel
theorem dX5_sum_27 : decode cX5_sum 27 = .ok (.iload_n 2, 1) := by decide +kernel
theorem dX5_sum_28 : decode cX5_sum 28 = .ok (.ireturn, 1) := by decide +kernel
set_option maxRecDepth 20000 in
theorem ggX5_counted_X5_joins : GoodIn wsX5_counted wsX5_joins := goodIn_r _ [7, 1, 8, 9, 6, 10, 35, 36, 37, 38, 39, 40, 41, 42, 43, 44] (by decide +kernel) (by decide +kernel)
set_option maxRecDepth 20000 in
theorem gX5_counted_X5_joins : GoodIn wsX5_counted (wsV RX5 111 RX5 yX5_joins wsX5_joins) := goodIn_app (goodIn_of _ (by decide +kernel)) ggX5_counted_X5_joins
set_option maxRecDepth 20000 in
theorem ggX5_counted_X5_sum : GoodIn wsX5_counted wsX5_sum := goodIn_r _ [14, 1, 35, 36, 37, 38, 39, 40, 41, 42, 43, 44] (by decide +kernel) (by decide +kernel)
set_option maxRecDepth 20000 in
theorem gX5_counted_X5_sum : GoodIn wsX5_counted (wsV RX5 127 RX5 yX5_sum wsX5_sum) := goodIn_app (goodIn_of _ (by decide +kernel)) ggX5_counted_X5_sum
set_option maxRecDepth 20000 in
theorem ggX5_counted_X5_ways : GoodIn wsX5_counted wsX5_ways := goodIn_r _ [18, 19, 20, 21, 6, 22, 1, 23, 24, 25, 26, 35, 36, 37, 38, 39, 40, 41, 42, 43, 44] (by decide +kernel) (by decide +kernel)
set_option maxRecDepth 20000 in
theorem gX5_counted_X5_ways : GoodIn wsX5_counted (wsV RX5 117 RX5 yX5_ways wsX5_ways) := goodIn_app (goodIn_of _ (by decide +kernel)) ggX5_counted_X5_ways
set_option maxRecDepth 20000 in
theorem ggX5_counted_X5_rows : GoodIn wsX5_counted wsX5_rows := goodIn_r _ [30, 31, 32, 33, 6, 34, 1, 8, 9, 10, 35, 36, 37, 38, 39, 40, 41, 42, 43, 44] (by decide +kernel) (by decide +kernel)
set_option maxRecDepth 20000 in
theorem gX5_counted_X5_rows : GoodIn wsX5_counted (wsV RX5 130 RX5 yX5_rows wsX5_rows) := goodIn_app (goodIn_of _ (by decide +kernel)) ggX5_counted_X5_rows
theorem dX5_counted_0 : decode cX5_counted 0 = .ok (.iload_n 1, 1) := by decide +kernel
theorem dX5_counted_1 : decode cX5_counted 1 = .ok (.tableswitch 120 0 10 #[59, 64, 70, 77, 85, 85, 85, 102, 102, 107, 107], 59) := by decide +kernel
theorem dX5_counted_60 : decode cX5_counted 60 = .ok (.aload_n 0, 1) := by decide +kernel
theorem dX5_counted_61 : decode cX5_counted 61 = .ok (.invokevirtual 111, 3) := by decide +kernel
theorem dX5_counted_64 : decode cX5_counted 64 = .ok (.ireturn, 1) := by decide +kernel
theorem dX5_counted_65 : decode cX5_counted 65 = .ok (.aload_n 0, 1) := by decide +kernel
theorem dX5_counted_66 : decode cX5_counted 66 = .ok (.iconst 0, 1) := by decide +kernel
theorem dX5_counted_67 : decode cX5_counted 67 = .ok (.invokevirtual 127, 3) := by decide +kernel
theorem dX5_counted_70 : decode cX5_counted 70 = .ok (.ireturn, 1) := by decide +kernel
theorem dX5_counted_71 : decode cX5_counted 71 = .ok (.aload_n 0, 1) := by decide +kernel
theorem dX5_counted_72 : decode cX5_counted 72 = .ok (.bipush 9, 2) := by decide +kernel
theorem dX5_counted_74 : decode cX5_counted 74 = .ok (.invokevirtual 127, 3) := by decide +kernel
theorem dX5_counted_77 : decode cX5_counted 77 = .ok (.ireturn, 1) := by decide +kernel
theorem dX5_counted_78 : decode cX5_counted 78 = .ok (.aload_n 0, 1) := by decide +kernel
theorem dX5_counted_79 : decode cX5_counted 79 = .ok (.getfield 7, 3) := by decide +kernel
theorem dX5_counted_82 : decode cX5_counted 82 = .ok (.bipush 45, 2) := by decide +kernel
theorem dX5_counted_84 : decode cX5_counted 84 = .ok (.iaload, 1) := by decide +kernel
theorem dX5_counted_85 : decode cX5_counted 85 = .ok (.ireturn, 1) := by decide +kernel
theorem dX5_counted_86 : decode cX5_counted 86 = .ok (.aload_n 0, 1) := by decide +kernel
theorem dX5_counted_87 : decode cX5_counted 87 = .ok (.iconst 0, 1) := by decide +kernel
theorem dX5_counted_88 : decode cX5_counted 88 = .ok (.iload_n 1, 1) := by decide +kernel
theorem dX5_counted_89 : decode cX5_counted 89 = .ok (.bipush 6, 2) := by decide +kernel
theorem dX5_counted_91 : decode cX5_counted 91 = .ok (.if_icmp .ne 7, 3) := by decide +kernel
theorem dX5_counted_94 : decode cX5_counted 94 = .ok (.iconst 1, 1) := by decide +kernel
theorem dX5_counted_95 : decode cX5_counted 95 = .ok (.goto 4, 3) := by decide +kernel
theorem dX5_counted_98 : decode cX5_counted 98 = .ok (.iconst 0, 1) := by decide +kernel
theorem dX5_counted_99 : decode cX5_counted 99 = .ok (.invokevirtual 117, 3) := by decide +kernel
theorem dX5_counted_102 : decode cX5_counted 102 = .ok (.ireturn, 1) := by decide +kernel
theorem dX5_counted_103 : decode cX5_counted 103 = .ok (.aload_n 0, 1) := by decide +kernel
theorem dX5_counted_104 : decode cX5_counted 104 = .ok (.invokevirtual 130, 3) := by decide +kernel
theorem dX5_counted_107 : decode cX5_counted 107 = .ok (.ireturn, 1) := by decide +kernel
theorem dX5_counted_108 : decode cX5_counted 108 = .ok (.aload_n 0, 1) := by decide +kernel
theorem dX5_counted_109 : decode cX5_counted 109 = .ok (.getfield 7, 3) := by decide +kernel
theorem dX5_counted_112 : decode cX5_counted 112 = .ok (.bipush 70, 2) := by decide +kernel
theorem dX5_counted_114 : decode cX5_counted 114 = .ok (.iload_n 1, 1) := by decide +kernel
theorem dX5_counted_115 : decode cX5_counted 115 = .ok (.iadd, 1) := by decide +kernel
theorem dX5_counted_116 : decode cX5_counted 116 = .ok (.bipush 9, 2) := by decide +kernel
theorem dX5_counted_118 : decode cX5_counted 118 = .ok (.isub, 1) := by decide +kernel
theorem dX5_counted_119 : decode cX5_counted 119 = .ok (.iaload, 1) := by decide +kernel
theorem dX5_counted_120 : decode cX5_counted 120 = .ok (.ireturn, 1) := by decide +kernel
theorem dX5_counted_121 : decode cX5_counted 121 = .ok (.aload_n 0, 1) := by decide +kernel
theorem dX5_counted_122 : decode cX5_counted 122 = .ok (.getfield 37, 3) := by decide +kernel
theorem dX5_counted_125 : decode cX5_counted 125 = .ok (.ireturn, 1) := by decide +kernel
set_option maxRecDepth 20000 in
theorem ggX5_count_X5_in : GoodIn wsX5_count wsX5_in := goodIn_r _ [4] (by decide +kernel) (by decide +kernel)
set_option maxRecDepth 20000 in
theorem gX5_count_X5_in : GoodIn wsX5_count (va_wsS RX5 33 yX5_in wsX5_in) := goodIn_app (goodIn_of _ (by decide +kernel)) ggX5_count_X5_in
set_option maxRecDepth 20000 in
theorem ggX5_count_X5_holds : GoodIn wsX5_count wsX5_holds := goodIn_r _ [8, 9, 47, 48, 49, 50, 51, 52, 53, 54, 55, 56] (by decide +kernel) (by decide +kernel)
set_option maxRecDepth 20000 in
theorem gX5_count_X5_holds : GoodIn wsX5_count (wsV RX5 72 RX5 yX5_holds wsX5_holds) := goodIn_app (goodIn_of _ (by decide +kernel)) ggX5_count_X5_holds
set_option maxRecDepth 20000 in
theorem ggX5_count_X5_counted : GoodIn wsX5_count wsX5_counted := goodIn_r _ [13, 14, 15, 16, 17, 18, 3, 19, 20, 21, 22, 23, 24, 25, 26, 27, 28, 29, 30, 31, 32, 33, 34, 35, 36, 37, 38, 39, 40, 41, 42, 43, 44, 45, 46, 47, 48, 49, 50, 51, 52, 53, 54, 55, 56] (by decide +kernel) (by decide +kernel)
set_option maxRecDepth 20000 in
theorem gX5_count_X5_counted : GoodIn wsX5_count (wsV RX5 133 RX5 yX5_counted wsX5_counted) := goodIn_app (goodIn_of _ (by decide +kernel)) ggX5_count_X5_counted
theorem dX5_count_0 : decode cX5_count 0 = .ok (.aload_n 0, 1) := by decide +kernel
theorem dX5_count_1 : decode cX5_count 1 = .ok (.iload_n 1, 1) := by decide +kernel
theorem dX5_count_2 : decode cX5_count 2 = .ok (.iconst 0, 1) := by decide +kernel
theorem dX5_count_3 : decode cX5_count 3 = .ok (.bipush 11, 2) := by decide +kernel
theorem dX5_count_5 : decode cX5_count 5 = .ok (.invokestatic 33, 3) := by decide +kernel
theorem dX5_count_8 : decode cX5_count 8 = .ok (.ifCond .eq 7, 3) := by decide +kernel
theorem dX5_count_11 : decode cX5_count 11 = .ok (.iconst 0, 1) := by decide +kernel
theorem dX5_count_12 : decode cX5_count 12 = .ok (.goto 4, 3) := by decide +kernel
theorem dX5_count_15 : decode cX5_count 15 = .ok (.iconst 1, 1) := by decide +kernel
theorem dX5_count_16 : decode cX5_count 16 = .ok (.invokevirtual 72, 3) := by decide +kernel
theorem dX5_count_19 : decode cX5_count 19 = .ok (.ifCond .eq 11, 3) := by decide +kernel
theorem dX5_count_22 : decode cX5_count 22 = .ok (.aload_n 0, 1) := by decide +kernel
theorem dX5_count_23 : decode cX5_count 23 = .ok (.iload_n 1, 1) := by decide +kernel
theorem dX5_count_24 : decode cX5_count 24 = .ok (.invokevirtual 133, 3) := by decide +kernel
theorem dX5_count_27 : decode cX5_count 27 = .ok (.goto 4, 3) := by decide +kernel
theorem dX5_count_30 : decode cX5_count 30 = .ok (.iconst 0, 1) := by decide +kernel
theorem dX5_count_31 : decode cX5_count 31 = .ok (.ireturn, 1) := by decide +kernel
set_option maxRecDepth 20000 in
theorem ggX5_heavy_X5_heaviestWay : GoodIn wsX5_heavy wsX5_heaviestWay := goodIn_r _ [5, 6, 7, 8, 4, 9, 10, 11, 12, 13, 14, 15, 16, 17, 18, 19, 20, 21, 22, 23, 24, 25, 26, 27, 28, 29, 30, 31, 32, 33, 34] (by decide +kernel) (by decide +kernel)
set_option maxRecDepth 20000 in
theorem gX5_heavy_X5_heaviestWay : GoodIn wsX5_heavy (wsV RX5 79 RX5 yX5_heaviestWay wsX5_heaviestWay) := goodIn_app (goodIn_of _ (by decide +kernel)) ggX5_heavy_X5_heaviestWay
set_option maxRecDepth 20000 in
theorem ggX5_heavy_X5_weight : GoodIn wsX5_heavy wsX5_weight := goodIn_r _ [18, 10, 25, 26, 27, 28, 29, 30, 31, 32, 33, 34] (by decide +kernel) (by decide +kernel)
set_option maxRecDepth 20000 in
theorem gX5_heavy_X5_weight : GoodIn wsX5_heavy (wsV RX5 51 RX5 yX5_weight wsX5_weight) := goodIn_app (goodIn_of _ (by decide +kernel)) ggX5_heavy_X5_weight
theorem dX5_heavy_0 : decode cX5_heavy 0 = .ok (.aload_n 0, 1) := by decide +kernel
theorem dX5_heavy_1 : decode cX5_heavy 1 = .ok (.invokevirtual 79, 3) := by decide +kernel
theorem dX5_heavy_4 : decode cX5_heavy 4 = .ok (.istore_n 2, 1) := by decide +kernel
theorem dX5_heavy_5 : decode cX5_heavy 5 = .ok (.iload_n 2, 1) := by decide +kernel
theorem dX5_heavy_6 : decode cX5_heavy 6 = .ok (.ifCond .ne 7, 3) := by decide +kernel
theorem dX5_heavy_9 : decode cX5_heavy 9 = .ok (.iconst (-1), 1) := by decide +kernel
theorem dX5_heavy_10 : decode cX5_heavy 10 = .ok (.goto 16, 3) := by decide +kernel
theorem dX5_heavy_13 : decode cX5_heavy 13 = .ok (.iload_n 1, 1) := by decide +kernel
theorem dX5_heavy_14 : decode cX5_heavy 14 = .ok (.ifCond .ne 11, 3) := by decide +kernel
theorem dX5_heavy_17 : decode cX5_heavy 17 = .ok (.aload_n 0, 1) := by decide +kernel
theorem dX5_heavy_18 : decode cX5_heavy 18 = .ok (.iload_n 2, 1) := by decide +kernel
theorem dX5_heavy_19 : decode cX5_heavy 19 = .ok (.invokevirtual 51, 3) := by decide +kernel
theorem dX5_heavy_22 : decode cX5_heavy 22 = .ok (.goto 4, 3) := by decide +kernel
theorem dX5_heavy_25 : decode cX5_heavy 25 = .ok (.iload_n 2, 1) := by decide +kernel
theorem dX5_heavy_26 : decode cX5_heavy 26 = .ok (.ireturn, 1) := by decide +kernel
set_option maxRecDepth 20000 in
theorem ggX5_heaviest_X5_in : GoodIn wsX5_heaviest wsX5_in := goodIn_r _ [4] (by decide +kernel) (by decide +kernel)
set_option maxRecDepth 20000 in
theorem gX5_heaviest_X5_in : GoodIn wsX5_heaviest (va_wsS RX5 33 yX5_in wsX5_in) := goodIn_app (goodIn_of _ (by decide +kernel)) ggX5_heaviest_X5_in
set_option maxRecDepth 20000 in
theorem ggX5_heaviest_X5_holds : GoodIn wsX5_heaviest wsX5_holds := goodIn_r _ [8, 9, 37, 38, 39, 40, 41, 42, 43, 44, 45, 46] (by decide +kernel) (by decide +kernel)
set_option maxRecDepth 20000 in
theorem gX5_heaviest_X5_holds : GoodIn wsX5_heaviest (wsV RX5 72 RX5 yX5_holds wsX5_holds) := goodIn_app (goodIn_of _ (by decide +kernel)) ggX5_heaviest_X5_holds
set_option maxRecDepth 20000 in
theorem ggX5_heaviest_X5_heavy : GoodIn wsX5_heaviest wsX5_heavy := goodIn_r _ [13, 14, 15, 16, 3, 17, 18, 19, 20, 21, 22, 23, 24, 25, 26, 27, 28, 29, 30, 31, 32, 33, 34, 35, 36, 37, 38, 39, 40, 41, 42, 43, 44, 45, 46] (by decide +kernel) (by decide +kernel)
set_option maxRecDepth 20000 in
theorem gX5_heaviest_X5_heavy : GoodIn wsX5_heaviest (wsV RX5 136 RX5 yX5_heavy wsX5_heavy) := goodIn_app (goodIn_of _ (by decide +kernel)) ggX5_heaviest_X5_heavy
theorem dX5_heaviest_0 : decode cX5_heaviest 0 = .ok (.aload_n 0, 1) := by decide +kernel
theorem dX5_heaviest_1 : decode cX5_heaviest 1 = .ok (.iload_n 1, 1) := by decide +kernel
theorem dX5_heaviest_2 : decode cX5_heaviest 2 = .ok (.iconst 0, 1) := by decide +kernel
theorem dX5_heaviest_3 : decode cX5_heaviest 3 = .ok (.iconst 1, 1) := by decide +kernel
theorem dX5_heaviest_4 : decode cX5_heaviest 4 = .ok (.invokestatic 33, 3) := by decide +kernel
theorem dX5_heaviest_7 : decode cX5_heaviest 7 = .ok (.ifCond .eq 7, 3) := by decide +kernel
theorem dX5_heaviest_10 : decode cX5_heaviest 10 = .ok (.iconst 0, 1) := by decide +kernel
theorem dX5_heaviest_11 : decode cX5_heaviest 11 = .ok (.goto 4, 3) := by decide +kernel
theorem dX5_heaviest_14 : decode cX5_heaviest 14 = .ok (.iconst 1, 1) := by decide +kernel
theorem dX5_heaviest_15 : decode cX5_heaviest 15 = .ok (.invokevirtual 72, 3) := by decide +kernel
theorem dX5_heaviest_18 : decode cX5_heaviest 18 = .ok (.ifCond .eq 11, 3) := by decide +kernel
theorem dX5_heaviest_21 : decode cX5_heaviest 21 = .ok (.aload_n 0, 1) := by decide +kernel
theorem dX5_heaviest_22 : decode cX5_heaviest 22 = .ok (.iload_n 1, 1) := by decide +kernel
theorem dX5_heaviest_23 : decode cX5_heaviest 23 = .ok (.invokevirtual 136, 3) := by decide +kernel
theorem dX5_heaviest_26 : decode cX5_heaviest 26 = .ok (.goto 4, 3) := by decide +kernel
theorem dX5_heaviest_29 : decode cX5_heaviest 29 = .ok (.iconst 0, 1) := by decide +kernel
theorem dX5_heaviest_30 : decode cX5_heaviest 30 = .ok (.ireturn, 1) := by decide +kernel
set_option maxRecDepth 20000 in
theorem ggX5_openAt_X5_isOpen : GoodIn wsX5_openAt wsX5_isOpen := goodIn_r _ [5, 6, 7, 8, 9, 4, 10, 17, 18, 19, 20, 21, 22, 23, 24, 25, 26] (by decide +kernel) (by decide +kernel)
set_option maxRecDepth 20000 in
theorem gX5_openAt_X5_isOpen : GoodIn wsX5_openAt (wsV RX5 48 RX5 yX5_isOpen wsX5_isOpen) := goodIn_app (goodIn_of _ (by decide +kernel)) ggX5_openAt_X5_isOpen
set_option maxRecDepth 20000 in
theorem ggX5_openAt_X5_next : GoodIn wsX5_openAt wsX5_next := goodIn_r _ [13, 14, 15, 4, 16] (by decide +kernel) (by decide +kernel)
set_option maxRecDepth 20000 in
theorem gX5_openAt_X5_next : GoodIn wsX5_openAt (va_wsS RX5 54 yX5_next wsX5_next) := goodIn_app (goodIn_of _ (by decide +kernel)) ggX5_openAt_X5_next
theorem dX5_openAt_0 : decode cX5_openAt 0 = .ok (.iconst 0, 1) := by decide +kernel
theorem dX5_openAt_1 : decode cX5_openAt 1 = .ok (.istore_n 2, 1) := by decide +kernel
theorem dX5_openAt_2 : decode cX5_openAt 2 = .ok (.iconst 1, 1) := by decide +kernel
theorem dX5_openAt_3 : decode cX5_openAt 3 = .ok (.istore_n 3, 1) := by decide +kernel
theorem dX5_openAt_4 : decode cX5_openAt 4 = .ok (.iload_n 3, 1) := by decide +kernel
theorem dX5_openAt_5 : decode cX5_openAt 5 = .ok (.ifCond .le 29, 3) := by decide +kernel
theorem dX5_openAt_8 : decode cX5_openAt 8 = .ok (.aload_n 0, 1) := by decide +kernel
theorem dX5_openAt_9 : decode cX5_openAt 9 = .ok (.iload_n 3, 1) := by decide +kernel
theorem dX5_openAt_10 : decode cX5_openAt 10 = .ok (.invokevirtual 48, 3) := by decide +kernel
theorem dX5_openAt_13 : decode cX5_openAt 13 = .ok (.ifCond .eq 13, 3) := by decide +kernel
theorem dX5_openAt_16 : decode cX5_openAt 16 = .ok (.iload_n 2, 1) := by decide +kernel
theorem dX5_openAt_17 : decode cX5_openAt 17 = .ok (.iload_n 1, 1) := by decide +kernel
theorem dX5_openAt_18 : decode cX5_openAt 18 = .ok (.if_icmp .ne 5, 3) := by decide +kernel
theorem dX5_openAt_21 : decode cX5_openAt 21 = .ok (.iload_n 3, 1) := by decide +kernel
theorem dX5_openAt_22 : decode cX5_openAt 22 = .ok (.ireturn, 1) := by decide +kernel
theorem dX5_openAt_23 : decode cX5_openAt 23 = .ok (.iinc 2 1, 3) := by decide +kernel
theorem dX5_openAt_26 : decode cX5_openAt 26 = .ok (.iload_n 3, 1) := by decide +kernel
theorem dX5_openAt_27 : decode cX5_openAt 27 = .ok (.invokestatic 54, 3) := by decide +kernel
theorem dX5_openAt_30 : decode cX5_openAt 30 = .ok (.istore_n 3, 1) := by decide +kernel
theorem dX5_openAt_31 : decode cX5_openAt 31 = .ok (.goto (-27), 3) := by decide +kernel
theorem dX5_openAt_34 : decode cX5_openAt 34 = .ok (.iconst (-1), 1) := by decide +kernel
theorem dX5_openAt_35 : decode cX5_openAt 35 = .ok (.ireturn, 1) := by decide +kernel
set_option maxRecDepth 20000 in
theorem ggX5_openWay_X5_holds : GoodIn wsX5_openWay wsX5_holds := goodIn_r _ [5, 6, 26, 27, 28, 29, 30, 31, 32, 33, 34, 35] (by decide +kernel) (by decide +kernel)
set_option maxRecDepth 20000 in
theorem gX5_openWay_X5_holds : GoodIn wsX5_openWay (wsV RX5 72 RX5 yX5_holds wsX5_holds) := goodIn_app (goodIn_of _ (by decide +kernel)) ggX5_openWay_X5_holds
set_option maxRecDepth 20000 in
theorem ggX5_openWay_X5_openAt : GoodIn wsX5_openWay wsX5_openAt := goodIn_r _ [10, 11, 12, 13, 4, 14, 15, 16, 17, 18, 19, 20, 21, 22, 23, 24, 25, 26, 27, 28, 29, 30, 31, 32, 33, 34, 35] (by decide +kernel) (by decide +kernel)
set_option maxRecDepth 20000 in
theorem gX5_openWay_X5_openAt : GoodIn wsX5_openWay (wsV RX5 139 RX5 yX5_openAt wsX5_openAt) := goodIn_app (goodIn_of _ (by decide +kernel)) ggX5_openWay_X5_openAt
theorem dX5_openWay_0 : decode cX5_openWay 0 = .ok (.aload_n 0, 1) := by decide +kernel
theorem dX5_openWay_1 : decode cX5_openWay 1 = .ok (.iload_n 1, 1) := by decide +kernel
theorem dX5_openWay_2 : decode cX5_openWay 2 = .ok (.ifCond .lt 7, 3) := by decide +kernel
theorem dX5_openWay_5 : decode cX5_openWay 5 = .ok (.iconst 0, 1) := by decide +kernel
theorem dX5_openWay_6 : decode cX5_openWay 6 = .ok (.goto 4, 3) := by decide +kernel
theorem dX5_openWay_9 : decode cX5_openWay 9 = .ok (.iconst 1, 1) := by decide +kernel
theorem dX5_openWay_10 : decode cX5_openWay 10 = .ok (.invokevirtual 72, 3) := by decide +kernel
theorem dX5_openWay_13 : decode cX5_openWay 13 = .ok (.ifCond .eq 11, 3) := by decide +kernel
theorem dX5_openWay_16 : decode cX5_openWay 16 = .ok (.aload_n 0, 1) := by decide +kernel
theorem dX5_openWay_17 : decode cX5_openWay 17 = .ok (.iload_n 1, 1) := by decide +kernel
theorem dX5_openWay_18 : decode cX5_openWay 18 = .ok (.invokevirtual 139, 3) := by decide +kernel
theorem dX5_openWay_21 : decode cX5_openWay 21 = .ok (.goto 4, 3) := by decide +kernel
theorem dX5_openWay_24 : decode cX5_openWay 24 = .ok (.iconst 0, 1) := by decide +kernel
theorem dX5_openWay_25 : decode cX5_openWay 25 = .ok (.ireturn, 1) := by decide +kernel
set_option maxRecDepth 20000 in
theorem ggX5_unexplained_X5_putAside : GoodIn wsX5_unexplained wsX5_putAside := goodIn_r _ [5, 6, 7, 46, 47, 48, 49, 50, 51, 52, 53, 54, 55] (by decide +kernel) (by decide +kernel)
set_option maxRecDepth 20000 in
theorem gX5_unexplained_X5_putAside : GoodIn wsX5_unexplained (wsV RX5 142 RX5 yX5_putAside wsX5_putAside) := goodIn_app (goodIn_of _ (by decide +kernel)) ggX5_unexplained_X5_putAside
set_option maxRecDepth 20000 in
theorem ggX5_unexplained_X5_splits : GoodIn wsX5_unexplained wsX5_splits := goodIn_r _ [11, 12, 13, 14, 4, 15, 7, 16, 17, 18, 19, 20, 21, 22, 23, 24, 25, 26, 27, 28, 29, 30, 31, 32, 33, 34, 35, 36, 37, 46, 47, 48, 49, 50, 51, 52, 53, 54, 55] (by decide +kernel) (by decide +kernel)
set_option maxRecDepth 20000 in
theorem gX5_unexplained_X5_splits : GoodIn wsX5_unexplained (wsV RX5 86 RX5 yX5_splits wsX5_splits) := goodIn_app (goodIn_of _ (by decide +kernel)) ggX5_unexplained_X5_splits
set_option maxRecDepth 20000 in
theorem ggX5_unexplained_X5_sum : GoodIn wsX5_unexplained wsX5_sum := goodIn_r _ [41, 7, 46, 47, 48, 49, 50, 51, 52, 53, 54, 55] (by decide +kernel) (by decide +kernel)
set_option maxRecDepth 20000 in
theorem gX5_unexplained_X5_sum : GoodIn wsX5_unexplained (wsV RX5 127 RX5 yX5_sum wsX5_sum) := goodIn_app (goodIn_of _ (by decide +kernel)) ggX5_unexplained_X5_sum
set_option maxRecDepth 20000 in
theorem ggX5_unexplained_X5_putBack : GoodIn wsX5_unexplained wsX5_putBack := goodIn_r _ [45, 7, 6, 46, 47, 48, 49, 50, 51, 52, 53, 54, 55] (by decide +kernel) (by decide +kernel)
set_option maxRecDepth 20000 in
theorem gX5_unexplained_X5_putBack : GoodIn wsX5_unexplained (wsV RX5 145 RX5 yX5_putBack wsX5_putBack) := goodIn_app (goodIn_of _ (by decide +kernel)) ggX5_unexplained_X5_putBack
theorem dX5_unexplained_0 : decode cX5_unexplained 0 = .ok (.aload_n 0, 1) := by decide +kernel
theorem dX5_unexplained_1 : decode cX5_unexplained 1 = .ok (.invokevirtual 142, 3) := by decide +kernel
theorem dX5_unexplained_4 : decode cX5_unexplained 4 = .ok (.aload_n 0, 1) := by decide +kernel
theorem dX5_unexplained_5 : decode cX5_unexplained 5 = .ok (.invokevirtual 86, 3) := by decide +kernel
theorem dX5_unexplained_8 : decode cX5_unexplained 8 = .ok (.istore_n 1, 1) := by decide +kernel
theorem dX5_unexplained_9 : decode cX5_unexplained 9 = .ok (.aload_n 0, 1) := by decide +kernel
theorem dX5_unexplained_10 : decode cX5_unexplained 10 = .ok (.bipush 9, 2) := by decide +kernel
theorem dX5_unexplained_12 : decode cX5_unexplained 12 = .ok (.invokevirtual 127, 3) := by decide +kernel
theorem dX5_unexplained_15 : decode cX5_unexplained 15 = .ok (.istore_n 2, 1) := by decide +kernel
theorem dX5_unexplained_16 : decode cX5_unexplained 16 = .ok (.aload_n 0, 1) := by decide +kernel
theorem dX5_unexplained_17 : decode cX5_unexplained 17 = .ok (.invokevirtual 145, 3) := by decide +kernel
theorem dX5_unexplained_20 : decode cX5_unexplained 20 = .ok (.iload_n 2, 1) := by decide +kernel
theorem dX5_unexplained_21 : decode cX5_unexplained 21 = .ok (.ireturn, 1) := by decide +kernel
set_option maxRecDepth 20000 in
theorem ggX5_ifSplit_X5_unexplained : GoodIn wsX5_ifSplit wsX5_unexplained := goodIn_r _ [6, 7, 8, 9, 5, 10, 11, 12, 13, 14, 15, 16, 17, 18, 19, 20, 21, 22, 23, 24, 25, 26, 27, 28, 29, 30, 31, 32, 33, 34, 35, 36, 37, 38, 39, 40, 41, 42, 43, 44, 45, 46, 47, 48, 49, 50, 51, 52, 53, 54, 55, 56, 57, 58, 59, 60] (by decide +kernel) (by decide +kernel)
set_option maxRecDepth 20000 in
theorem gX5_ifSplit_X5_unexplained : GoodIn wsX5_ifSplit (wsV RX5 148 RX5 yX5_unexplained wsX5_unexplained) := goodIn_app (goodIn_of _ (by decide +kernel)) ggX5_ifSplit_X5_unexplained
theorem dX5_ifSplit_0 : decode cX5_ifSplit 0 = .ok (.aload_n 0, 1) := by decide +kernel
theorem dX5_ifSplit_1 : decode cX5_ifSplit 1 = .ok (.iconst 0, 1) := by decide +kernel
theorem dX5_ifSplit_2 : decode cX5_ifSplit 2 = .ok (.putfield 29, 3) := by decide +kernel
theorem dX5_ifSplit_5 : decode cX5_ifSplit 5 = .ok (.aload_n 0, 1) := by decide +kernel
theorem dX5_ifSplit_6 : decode cX5_ifSplit 6 = .ok (.invokevirtual 148, 3) := by decide +kernel
theorem dX5_ifSplit_9 : decode cX5_ifSplit 9 = .ok (.ireturn, 1) := by decide +kernel
set_option maxRecDepth 20000 in
theorem ggX5_mainOne_X5_ways : GoodIn wsX5_mainOne wsX5_ways := goodIn_r _ [5, 6, 7, 8, 4, 9, 10, 11, 12, 13, 14, 15, 16, 17, 18, 19, 20, 21, 22, 23, 24] (by decide +kernel) (by decide +kernel)
set_option maxRecDepth 20000 in
theorem gX5_mainOne_X5_ways : GoodIn wsX5_mainOne (wsV RX5 117 RX5 yX5_ways wsX5_ways) := goodIn_app (goodIn_of _ (by decide +kernel)) ggX5_mainOne_X5_ways
theorem dX5_mainOne_0 : decode cX5_mainOne 0 = .ok (.iconst (-1), 1) := by decide +kernel
theorem dX5_mainOne_1 : decode cX5_mainOne 1 = .ok (.istore_n 1, 1) := by decide +kernel
theorem dX5_mainOne_2 : decode cX5_mainOne 2 = .ok (.iconst 0, 1) := by decide +kernel
theorem dX5_mainOne_3 : decode cX5_mainOne 3 = .ok (.istore_n 2, 1) := by decide +kernel
theorem dX5_mainOne_4 : decode cX5_mainOne 4 = .ok (.iconst 0, 1) := by decide +kernel
theorem dX5_mainOne_5 : decode cX5_mainOne 5 = .ok (.istore_n 3, 1) := by decide +kernel
theorem dX5_mainOne_6 : decode cX5_mainOne 6 = .ok (.iload_n 3, 1) := by decide +kernel
theorem dX5_mainOne_7 : decode cX5_mainOne 7 = .ok (.bipush 9, 2) := by decide +kernel
theorem dX5_mainOne_9 : decode cX5_mainOne 9 = .ok (.if_icmp .ge 44, 3) := by decide +kernel
theorem dX5_mainOne_12 : decode cX5_mainOne 12 = .ok (.aload_n 0, 1) := by decide +kernel
theorem dX5_mainOne_13 : decode cX5_mainOne 13 = .ok (.iconst 1, 1) := by decide +kernel
theorem dX5_mainOne_14 : decode cX5_mainOne 14 = .ok (.iload_n 3, 1) := by decide +kernel
theorem dX5_mainOne_15 : decode cX5_mainOne 15 = .ok (.ishl, 1) := by decide +kernel
theorem dX5_mainOne_16 : decode cX5_mainOne 16 = .ok (.iconst 1, 1) := by decide +kernel
theorem dX5_mainOne_17 : decode cX5_mainOne 17 = .ok (.invokevirtual 117, 3) := by decide +kernel
theorem dX5_mainOne_20 : decode cX5_mainOne 20 = .ok (.istore 4, 2) := by decide +kernel
theorem dX5_mainOne_22 : decode cX5_mainOne 22 = .ok (.iload 4, 2) := by decide +kernel
theorem dX5_mainOne_24 : decode cX5_mainOne 24 = .ok (.iload_n 2, 1) := by decide +kernel
theorem dX5_mainOne_25 : decode cX5_mainOne 25 = .ok (.if_icmp .le 7, 3) := by decide +kernel
theorem dX5_mainOne_28 : decode cX5_mainOne 28 = .ok (.iload_n 3, 1) := by decide +kernel
theorem dX5_mainOne_29 : decode cX5_mainOne 29 = .ok (.goto 4, 3) := by decide +kernel
theorem dX5_mainOne_32 : decode cX5_mainOne 32 = .ok (.iload_n 1, 1) := by decide +kernel
theorem dX5_mainOne_33 : decode cX5_mainOne 33 = .ok (.istore_n 1, 1) := by decide +kernel
theorem dX5_mainOne_34 : decode cX5_mainOne 34 = .ok (.iload 4, 2) := by decide +kernel
theorem dX5_mainOne_36 : decode cX5_mainOne 36 = .ok (.iload_n 2, 1) := by decide +kernel
theorem dX5_mainOne_37 : decode cX5_mainOne 37 = .ok (.if_icmp .le 8, 3) := by decide +kernel
theorem dX5_mainOne_40 : decode cX5_mainOne 40 = .ok (.iload 4, 2) := by decide +kernel
theorem dX5_mainOne_42 : decode cX5_mainOne 42 = .ok (.goto 4, 3) := by decide +kernel
theorem dX5_mainOne_45 : decode cX5_mainOne 45 = .ok (.iload_n 2, 1) := by decide +kernel
theorem dX5_mainOne_46 : decode cX5_mainOne 46 = .ok (.istore_n 2, 1) := by decide +kernel
theorem dX5_mainOne_47 : decode cX5_mainOne 47 = .ok (.iinc 3 1, 3) := by decide +kernel
theorem dX5_mainOne_50 : decode cX5_mainOne 50 = .ok (.goto (-44), 3) := by decide +kernel
theorem dX5_mainOne_53 : decode cX5_mainOne 53 = .ok (.iload_n 1, 1) := by decide +kernel
theorem dX5_mainOne_54 : decode cX5_mainOne 54 = .ok (.ireturn, 1) := by decide +kernel
set_option maxRecDepth 20000 in
theorem ggX5_mainPiece_X5_mainOne : GoodIn wsX5_mainPiece wsX5_mainOne := goodIn_r _ [6, 7, 8, 9, 5, 10, 11, 12, 13, 14, 15, 16, 17, 18, 19, 20, 21, 22, 23, 24, 25, 26, 27, 28, 29] (by decide +kernel) (by decide +kernel)
set_option maxRecDepth 20000 in
theorem gX5_mainPiece_X5_mainOne : GoodIn wsX5_mainPiece (wsV RX5 151 RX5 yX5_mainOne wsX5_mainOne) := goodIn_app (goodIn_of _ (by decide +kernel)) ggX5_mainPiece_X5_mainOne
theorem dX5_mainPiece_0 : decode cX5_mainPiece 0 = .ok (.aload_n 0, 1) := by decide +kernel
theorem dX5_mainPiece_1 : decode cX5_mainPiece 1 = .ok (.iconst 0, 1) := by decide +kernel
theorem dX5_mainPiece_2 : decode cX5_mainPiece 2 = .ok (.putfield 29, 3) := by decide +kernel
theorem dX5_mainPiece_5 : decode cX5_mainPiece 5 = .ok (.aload_n 0, 1) := by decide +kernel
theorem dX5_mainPiece_6 : decode cX5_mainPiece 6 = .ok (.invokevirtual 151, 3) := by decide +kernel
theorem dX5_mainPiece_9 : decode cX5_mainPiece 9 = .ok (.ireturn, 1) := by decide +kernel
set_option maxRecDepth 20000 in
theorem ggX5_share_X5_sum : GoodIn wsX5_share wsX5_sum := goodIn_r _ [5, 6, 7, 8, 9, 10, 11, 12, 13, 14, 15, 16] (by decide +kernel) (by decide +kernel)
set_option maxRecDepth 20000 in
theorem gX5_share_X5_sum : GoodIn wsX5_share (wsV RX5 127 RX5 yX5_sum wsX5_sum) := goodIn_app (goodIn_of _ (by decide +kernel)) ggX5_share_X5_sum
theorem dX5_share_0 : decode cX5_share 0 = .ok (.aload_n 0, 1) := by decide +kernel
theorem dX5_share_1 : decode cX5_share 1 = .ok (.iconst 0, 1) := by decide +kernel
theorem dX5_share_2 : decode cX5_share 2 = .ok (.invokevirtual 127, 3) := by decide +kernel
theorem dX5_share_5 : decode cX5_share 5 = .ok (.ifCond .ne 7, 3) := by decide +kernel
theorem dX5_share_8 : decode cX5_share 8 = .ok (.dconst 1, 1) := by decide +kernel
theorem dX5_share_9 : decode cX5_share 9 = .ok (.goto 23, 3) := by decide +kernel
theorem dX5_share_12 : decode cX5_share 12 = .ok (.aload_n 0, 1) := by decide +kernel
theorem dX5_share_13 : decode cX5_share 13 = .ok (.iconst 0, 1) := by decide +kernel
theorem dX5_share_14 : decode cX5_share 14 = .ok (.invokevirtual 127, 3) := by decide +kernel
theorem dX5_share_17 : decode cX5_share 17 = .ok (.aload_n 0, 1) := by decide +kernel
theorem dX5_share_18 : decode cX5_share 18 = .ok (.bipush 9, 2) := by decide +kernel
theorem dX5_share_20 : decode cX5_share 20 = .ok (.invokevirtual 127, 3) := by decide +kernel
theorem dX5_share_23 : decode cX5_share 23 = .ok (.isub, 1) := by decide +kernel
theorem dX5_share_24 : decode cX5_share 24 = .ok (.i2d, 1) := by decide +kernel
theorem dX5_share_25 : decode cX5_share 25 = .ok (.aload_n 0, 1) := by decide +kernel
theorem dX5_share_26 : decode cX5_share 26 = .ok (.iconst 0, 1) := by decide +kernel
theorem dX5_share_27 : decode cX5_share 27 = .ok (.invokevirtual 127, 3) := by decide +kernel
theorem dX5_share_30 : decode cX5_share 30 = .ok (.i2d, 1) := by decide +kernel
theorem dX5_share_31 : decode cX5_share 31 = .ok (.ddiv, 1) := by decide +kernel
theorem dX5_share_32 : decode cX5_share 32 = .ok (.dreturn, 1) := by decide +kernel
set_option maxRecDepth 20000 in
theorem ggX5_explained_X5_share : GoodIn wsX5_explained wsX5_share := goodIn_r _ [6, 7, 8, 9, 5, 10, 11, 12, 13, 14, 15, 16, 17, 18, 19, 20, 21] (by decide +kernel) (by decide +kernel)
set_option maxRecDepth 20000 in
theorem gX5_explained_X5_share : GoodIn wsX5_explained (wsV RX5 154 RX5 yX5_share wsX5_share) := goodIn_app (goodIn_of _ (by decide +kernel)) ggX5_explained_X5_share
theorem dX5_explained_0 : decode cX5_explained 0 = .ok (.aload_n 0, 1) := by decide +kernel
theorem dX5_explained_1 : decode cX5_explained 1 = .ok (.iconst 0, 1) := by decide +kernel
theorem dX5_explained_2 : decode cX5_explained 2 = .ok (.putfield 29, 3) := by decide +kernel
theorem dX5_explained_5 : decode cX5_explained 5 = .ok (.aload_n 0, 1) := by decide +kernel
theorem dX5_explained_6 : decode cX5_explained 6 = .ok (.invokevirtual 154, 3) := by decide +kernel
theorem dX5_explained_9 : decode cX5_explained 9 = .ok (.dreturn, 1) := by decide +kernel
theorem dX5_bitsOf_0 : decode cX5_bitsOf 0 = .ok (.dload_n 0, 1) := by decide +kernel
theorem dX5_bitsOf_1 : decode cX5_bitsOf 1 = .ok (.dconst 0, 1) := by decide +kernel
theorem dX5_bitsOf_2 : decode cX5_bitsOf 2 = .ok (.dcmp .l, 1) := by decide +kernel
theorem dX5_bitsOf_3 : decode cX5_bitsOf 3 = .ok (.ifCond .ne 5, 3) := by decide +kernel
theorem dX5_bitsOf_6 : decode cX5_bitsOf 6 = .ok (.lconst 0, 1) := by decide +kernel
theorem dX5_bitsOf_7 : decode cX5_bitsOf 7 = .ok (.lreturn, 1) := by decide +kernel
theorem dX5_bitsOf_8 : decode cX5_bitsOf 8 = .ok (.ldc2_w 158, 3) := by decide +kernel
theorem dX5_bitsOf_11 : decode cX5_bitsOf 11 = .ok (.lstore_n 2, 1) := by decide +kernel
theorem dX5_bitsOf_12 : decode cX5_bitsOf 12 = .ok (.dload_n 0, 1) := by decide +kernel
theorem dX5_bitsOf_13 : decode cX5_bitsOf 13 = .ok (.dstore 4, 2) := by decide +kernel
theorem dX5_bitsOf_15 : decode cX5_bitsOf 15 = .ok (.dload 4, 2) := by decide +kernel
theorem dX5_bitsOf_17 : decode cX5_bitsOf 17 = .ok (.dconst 1, 1) := by decide +kernel
theorem dX5_bitsOf_18 : decode cX5_bitsOf 18 = .ok (.dcmp .g, 1) := by decide +kernel
theorem dX5_bitsOf_19 : decode cX5_bitsOf 19 = .ok (.ifCond .ge 18, 3) := by decide +kernel
theorem dX5_bitsOf_22 : decode cX5_bitsOf 22 = .ok (.dload 4, 2) := by decide +kernel
theorem dX5_bitsOf_24 : decode cX5_bitsOf 24 = .ok (.ldc2_w 160, 3) := by decide +kernel
theorem dX5_bitsOf_27 : decode cX5_bitsOf 27 = .ok (.dmul, 1) := by decide +kernel
theorem dX5_bitsOf_28 : decode cX5_bitsOf 28 = .ok (.dstore 4, 2) := by decide +kernel
theorem dX5_bitsOf_30 : decode cX5_bitsOf 30 = .ok (.lload_n 2, 1) := by decide +kernel
theorem dX5_bitsOf_31 : decode cX5_bitsOf 31 = .ok (.lconst 1, 1) := by decide +kernel
theorem dX5_bitsOf_32 : decode cX5_bitsOf 32 = .ok (.lsub, 1) := by decide +kernel
theorem dX5_bitsOf_33 : decode cX5_bitsOf 33 = .ok (.lstore_n 2, 1) := by decide +kernel
theorem dX5_bitsOf_34 : decode cX5_bitsOf 34 = .ok (.goto (-19), 3) := by decide +kernel
theorem dX5_bitsOf_37 : decode cX5_bitsOf 37 = .ok (.lload_n 2, 1) := by decide +kernel
theorem dX5_bitsOf_38 : decode cX5_bitsOf 38 = .ok (.ldc2_w 162, 3) := by decide +kernel
theorem dX5_bitsOf_41 : decode cX5_bitsOf 41 = .ok (.lmul, 1) := by decide +kernel
theorem dX5_bitsOf_42 : decode cX5_bitsOf 42 = .ok (.dload 4, 2) := by decide +kernel
theorem dX5_bitsOf_44 : decode cX5_bitsOf 44 = .ok (.dconst 1, 1) := by decide +kernel
theorem dX5_bitsOf_45 : decode cX5_bitsOf 45 = .ok (.dsub, 1) := by decide +kernel
theorem dX5_bitsOf_46 : decode cX5_bitsOf 46 = .ok (.ldc2_w 164, 3) := by decide +kernel
theorem dX5_bitsOf_49 : decode cX5_bitsOf 49 = .ok (.dmul, 1) := by decide +kernel
theorem dX5_bitsOf_50 : decode cX5_bitsOf 50 = .ok (.d2l, 1) := by decide +kernel
theorem dX5_bitsOf_51 : decode cX5_bitsOf 51 = .ok (.ladd, 1) := by decide +kernel
theorem dX5_bitsOf_52 : decode cX5_bitsOf 52 = .ok (.lreturn, 1) := by decide +kernel
theorem dX5_digestOne_0 : decode cX5_digestOne 0 = .ok (.aload_n 0, 1) := by decide +kernel
theorem dX5_digestOne_1 : decode cX5_digestOne 1 = .ok (.ldc2_w 166, 3) := by decide +kernel
theorem dX5_digestOne_4 : decode cX5_digestOne 4 = .ok (.aload_n 0, 1) := by decide +kernel
theorem dX5_digestOne_5 : decode cX5_digestOne 5 = .ok (.getfield 168, 3) := by decide +kernel
theorem dX5_digestOne_8 : decode cX5_digestOne 8 = .ok (.lmul, 1) := by decide +kernel
theorem dX5_digestOne_9 : decode cX5_digestOne 9 = .ok (.lload_n 1, 1) := by decide +kernel
theorem dX5_digestOne_10 : decode cX5_digestOne 10 = .ok (.ladd, 1) := by decide +kernel
theorem dX5_digestOne_11 : decode cX5_digestOne 11 = .ok (.putfield 168, 3) := by decide +kernel
theorem dX5_digestOne_14 : decode cX5_digestOne 14 = .ok (.return_, 1) := by decide +kernel
set_option maxRecDepth 20000 in
theorem ggX5_digestPiece_X5_property : GoodIn wsX5_digestPiece wsX5_property := goodIn_r _ [6, 1, 7, 8, 9, 5, 10, 11, 12, 13, 14, 15, 16, 17, 18, 19, 20, 21, 22, 23, 24, 25, 26, 27, 28, 29, 36, 37, 38, 39, 40, 41, 42, 43, 44, 45] (by decide +kernel) (by decide +kernel)
set_option maxRecDepth 20000 in
theorem gX5_digestPiece_X5_property : GoodIn wsX5_digestPiece (wsV RX5 121 RX5 yX5_property wsX5_property) := goodIn_app (goodIn_of _ (by decide +kernel)) ggX5_digestPiece_X5_property
set_option maxRecDepth 20000 in
theorem ggX5_digestPiece_X5_digestOne : GoodIn wsX5_digestPiece wsX5_digestOne := goodIn_r _ [33, 34, 35, 36, 37, 38, 39, 40, 41, 42, 43, 44, 45] (by decide +kernel) (by decide +kernel)
set_option maxRecDepth 20000 in
theorem gX5_digestPiece_X5_digestOne : GoodIn wsX5_digestPiece (wsV RX5 172 RX5 yX5_digestOne wsX5_digestOne) := goodIn_app (goodIn_of _ (by decide +kernel)) ggX5_digestPiece_X5_digestOne
theorem dX5_digestPiece_0 : decode cX5_digestPiece 0 = .ok (.iconst 0, 1) := by decide +kernel
theorem dX5_digestPiece_1 : decode cX5_digestPiece 1 = .ok (.istore_n 2, 1) := by decide +kernel
theorem dX5_digestPiece_2 : decode cX5_digestPiece 2 = .ok (.iload_n 2, 1) := by decide +kernel
theorem dX5_digestPiece_3 : decode cX5_digestPiece 3 = .ok (.bipush 8, 2) := by decide +kernel
theorem dX5_digestPiece_5 : decode cX5_digestPiece 5 = .ok (.if_icmp .ge 20, 3) := by decide +kernel
theorem dX5_digestPiece_8 : decode cX5_digestPiece 8 = .ok (.aload_n 0, 1) := by decide +kernel
theorem dX5_digestPiece_9 : decode cX5_digestPiece 9 = .ok (.aload_n 0, 1) := by decide +kernel
theorem dX5_digestPiece_10 : decode cX5_digestPiece 10 = .ok (.iload_n 1, 1) := by decide +kernel
theorem dX5_digestPiece_11 : decode cX5_digestPiece 11 = .ok (.iload_n 2, 1) := by decide +kernel
theorem dX5_digestPiece_12 : decode cX5_digestPiece 12 = .ok (.invokevirtual 121, 3) := by decide +kernel
theorem dX5_digestPiece_15 : decode cX5_digestPiece 15 = .ok (.i2l, 1) := by decide +kernel
theorem dX5_digestPiece_16 : decode cX5_digestPiece 16 = .ok (.invokevirtual 172, 3) := by decide +kernel
theorem dX5_digestPiece_19 : decode cX5_digestPiece 19 = .ok (.iinc 2 1, 3) := by decide +kernel
theorem dX5_digestPiece_22 : decode cX5_digestPiece 22 = .ok (.goto (-20), 3) := by decide +kernel
theorem dX5_digestPiece_25 : decode cX5_digestPiece 25 = .ok (.iconst 0, 1) := by decide +kernel
theorem dX5_digestPiece_26 : decode cX5_digestPiece 26 = .ok (.istore_n 2, 1) := by decide +kernel
theorem dX5_digestPiece_27 : decode cX5_digestPiece 27 = .ok (.iload_n 2, 1) := by decide +kernel
theorem dX5_digestPiece_28 : decode cX5_digestPiece 28 = .ok (.bipush 9, 2) := by decide +kernel
theorem dX5_digestPiece_30 : decode cX5_digestPiece 30 = .ok (.if_icmp .ge 27, 3) := by decide +kernel
theorem dX5_digestPiece_33 : decode cX5_digestPiece 33 = .ok (.aload_n 0, 1) := by decide +kernel
theorem dX5_digestPiece_34 : decode cX5_digestPiece 34 = .ok (.aload_n 0, 1) := by decide +kernel
theorem dX5_digestPiece_35 : decode cX5_digestPiece 35 = .ok (.getfield 7, 3) := by decide +kernel
theorem dX5_digestPiece_38 : decode cX5_digestPiece 38 = .ok (.bipush 27, 2) := by decide +kernel
theorem dX5_digestPiece_40 : decode cX5_digestPiece 40 = .ok (.iload_n 1, 1) := by decide +kernel
theorem dX5_digestPiece_41 : decode cX5_digestPiece 41 = .ok (.iadd, 1) := by decide +kernel
theorem dX5_digestPiece_42 : decode cX5_digestPiece 42 = .ok (.iaload, 1) := by decide +kernel
theorem dX5_digestPiece_43 : decode cX5_digestPiece 43 = .ok (.iload_n 2, 1) := by decide +kernel
theorem dX5_digestPiece_44 : decode cX5_digestPiece 44 = .ok (.ishr, 1) := by decide +kernel
theorem dX5_digestPiece_45 : decode cX5_digestPiece 45 = .ok (.iconst 1, 1) := by decide +kernel
theorem dX5_digestPiece_46 : decode cX5_digestPiece 46 = .ok (.iand, 1) := by decide +kernel
theorem dX5_digestPiece_47 : decode cX5_digestPiece 47 = .ok (.i2l, 1) := by decide +kernel
theorem dX5_digestPiece_48 : decode cX5_digestPiece 48 = .ok (.invokevirtual 172, 3) := by decide +kernel
theorem dX5_digestPiece_51 : decode cX5_digestPiece 51 = .ok (.iinc 2 1, 3) := by decide +kernel
theorem dX5_digestPiece_54 : decode cX5_digestPiece 54 = .ok (.goto (-27), 3) := by decide +kernel
theorem dX5_digestPiece_57 : decode cX5_digestPiece 57 = .ok (.return_, 1) := by decide +kernel
set_option maxRecDepth 20000 in
theorem ggX5_digest_X5_counted : GoodIn wsX5_digest wsX5_counted := goodIn_r _ [12, 4, 13, 14, 15, 16, 11, 17, 18, 19, 20, 21, 22, 23, 24, 25, 26, 27, 28, 29, 30, 31, 32, 33, 34, 35, 36, 37, 38, 39, 40, 41, 42, 43, 44, 124, 125, 126, 127, 128, 129, 130, 131, 132, 133] (by decide +kernel) (by decide +kernel)
set_option maxRecDepth 20000 in
theorem gX5_digest_X5_counted : GoodIn wsX5_digest (wsV RX5 133 RX5 yX5_counted wsX5_counted) := goodIn_app (goodIn_of _ (by decide +kernel)) ggX5_digest_X5_counted
set_option maxRecDepth 20000 in
theorem ggX5_digest_X5_digestOne : GoodIn wsX5_digest wsX5_digestOne := goodIn_r _ [48, 49, 3, 124, 125, 126, 127, 128, 129, 130, 131, 132, 133] (by decide +kernel) (by decide +kernel)
set_option maxRecDepth 20000 in
theorem gX5_digest_X5_digestOne : GoodIn wsX5_digest (wsV RX5 172 RX5 yX5_digestOne wsX5_digestOne) := goodIn_app (goodIn_of _ (by decide +kernel)) ggX5_digest_X5_digestOne
set_option maxRecDepth 20000 in
theorem ggX5_digest_X5_digestPiece : GoodIn wsX5_digest wsX5_digestPiece := goodIn_r _ [53, 4, 54, 55, 56, 11, 57, 58, 59, 60, 61, 18, 19, 20, 41, 42, 43, 44, 25, 26, 27, 28, 29, 30, 31, 32, 33, 34, 35, 36, 45, 46, 47, 48, 49, 3, 124, 125, 126, 127, 128, 129, 130, 131, 132, 133] (by decide +kernel) (by decide +kernel)
set_option maxRecDepth 20000 in
theorem gX5_digest_X5_digestPiece : GoodIn wsX5_digest (wsV RX5 178 RX5 yX5_digestPiece wsX5_digestPiece) := goodIn_app (goodIn_of _ (by decide +kernel)) ggX5_digest_X5_digestPiece
set_option maxRecDepth 20000 in
theorem ggX5_digest_X5_note : GoodIn wsX5_digest wsX5_note := goodIn_r _ [65, 4, 18, 19, 11, 20, 124, 125, 126, 127, 128, 129, 130, 131, 132, 133] (by decide +kernel) (by decide +kernel)
set_option maxRecDepth 20000 in
theorem gX5_digest_X5_note : GoodIn wsX5_digest (wsV RX5 124 RX5 yX5_note wsX5_note) := goodIn_app (goodIn_of _ (by decide +kernel)) ggX5_digest_X5_note
set_option maxRecDepth 20000 in
theorem ggX5_digest_X5_heavy : GoodIn wsX5_digest wsX5_heavy := goodIn_r _ [69, 70, 71, 72, 11, 73, 29, 30, 31, 32, 4, 33, 34, 35, 36, 74, 75, 76, 77, 78, 79, 80, 81, 82, 83, 124, 125, 126, 127, 128, 129, 130, 131, 132, 133] (by decide +kernel) (by decide +kernel)
set_option maxRecDepth 20000 in
theorem gX5_digest_X5_heavy : GoodIn wsX5_digest (wsV RX5 136 RX5 yX5_heavy wsX5_heavy) := goodIn_app (goodIn_of _ (by decide +kernel)) ggX5_digest_X5_heavy
set_option maxRecDepth 20000 in
theorem ggX5_digest_X5_openAt : GoodIn wsX5_digest wsX5_openAt := goodIn_r _ [87, 29, 30, 31, 11, 32, 4, 33, 34, 35, 36, 78, 79, 80, 81, 82, 83, 124, 125, 126, 127, 128, 129, 130, 131, 132, 133] (by decide +kernel) (by decide +kernel)
set_option maxRecDepth 20000 in
theorem gX5_digest_X5_openAt : GoodIn wsX5_digest (wsV RX5 139 RX5 yX5_openAt wsX5_openAt) := goodIn_app (goodIn_of _ (by decide +kernel)) ggX5_digest_X5_openAt
set_option maxRecDepth 20000 in
theorem ggX5_digest_X5_unexplained : GoodIn wsX5_digest wsX5_unexplained := goodIn_r _ [91, 92, 93, 94, 11, 95, 96, 4, 97, 98, 99, 100, 101, 102, 103, 104, 70, 71, 72, 73, 29, 30, 31, 32, 33, 34, 35, 36, 74, 75, 76, 77, 78, 79, 80, 81, 82, 83, 21, 22, 23, 24, 105, 106, 107, 108, 124, 125, 126, 127, 128, 129, 130, 131, 132, 133] (by decide +kernel) (by decide +kernel)
set_option maxRecDepth 20000 in
theorem gX5_digest_X5_unexplained : GoodIn wsX5_digest (wsV RX5 148 RX5 yX5_unexplained wsX5_unexplained) := goodIn_app (goodIn_of _ (by decide +kernel)) ggX5_digest_X5_unexplained
set_option maxRecDepth 20000 in
theorem ggX5_digest_X5_mainOne : GoodIn wsX5_digest wsX5_mainOne := goodIn_r _ [112, 25, 26, 27, 11, 28, 29, 30, 31, 32, 4, 33, 34, 35, 36, 124, 125, 126, 127, 128, 129, 130, 131, 132, 133] (by decide +kernel) (by decide +kernel)
set_option maxRecDepth 20000 in
theorem gX5_digest_X5_mainOne : GoodIn wsX5_digest (wsV RX5 151 RX5 yX5_mainOne wsX5_mainOne) := goodIn_app (goodIn_of _ (by decide +kernel)) ggX5_digest_X5_mainOne
set_option maxRecDepth 20000 in
theorem ggX5_digest_X5_share : GoodIn wsX5_digest wsX5_share := goodIn_r _ [116, 21, 22, 23, 11, 24, 4, 124, 125, 126, 127, 128, 129, 130, 131, 132, 133] (by decide +kernel) (by decide +kernel)
set_option maxRecDepth 20000 in
theorem gX5_digest_X5_share : GoodIn wsX5_digest (wsV RX5 154 RX5 yX5_share wsX5_share) := goodIn_app (goodIn_of _ (by decide +kernel)) ggX5_digest_X5_share
set_option maxRecDepth 20000 in
theorem ggX5_digest_X5_bitsOf : GoodIn wsX5_digest wsX5_bitsOf := goodIn_r _ [119, 120, 121, 122, 123] (by decide +kernel) (by decide +kernel)
set_option maxRecDepth 20000 in
theorem gX5_digest_X5_bitsOf : GoodIn wsX5_digest (va_wsS RX5 182 yX5_bitsOf wsX5_bitsOf) := goodIn_app (goodIn_of _ (by decide +kernel)) ggX5_digest_X5_bitsOf
theorem dX5_digest_0 : decode cX5_digest 0 = .ok (.aload_n 0, 1) := by decide +kernel
theorem dX5_digest_1 : decode cX5_digest 1 = .ok (.iconst 0, 1) := by decide +kernel
theorem dX5_digest_2 : decode cX5_digest 2 = .ok (.putfield 29, 3) := by decide +kernel
theorem dX5_digest_5 : decode cX5_digest 5 = .ok (.aload_n 0, 1) := by decide +kernel
theorem dX5_digest_6 : decode cX5_digest 6 = .ok (.ldc2_w 176, 3) := by decide +kernel
theorem dX5_digest_9 : decode cX5_digest 9 = .ok (.putfield 168, 3) := by decide +kernel
theorem dX5_digest_12 : decode cX5_digest 12 = .ok (.iconst 0, 1) := by decide +kernel
theorem dX5_digest_13 : decode cX5_digest 13 = .ok (.istore_n 1, 1) := by decide +kernel
theorem dX5_digest_14 : decode cX5_digest 14 = .ok (.iload_n 1, 1) := by decide +kernel
theorem dX5_digest_15 : decode cX5_digest 15 = .ok (.bipush 12, 2) := by decide +kernel
theorem dX5_digest_17 : decode cX5_digest 17 = .ok (.if_icmp .ge 19, 3) := by decide +kernel
theorem dX5_digest_20 : decode cX5_digest 20 = .ok (.aload_n 0, 1) := by decide +kernel
theorem dX5_digest_21 : decode cX5_digest 21 = .ok (.aload_n 0, 1) := by decide +kernel
theorem dX5_digest_22 : decode cX5_digest 22 = .ok (.iload_n 1, 1) := by decide +kernel
theorem dX5_digest_23 : decode cX5_digest 23 = .ok (.invokevirtual 133, 3) := by decide +kernel
theorem dX5_digest_26 : decode cX5_digest 26 = .ok (.i2l, 1) := by decide +kernel
theorem dX5_digest_27 : decode cX5_digest 27 = .ok (.invokevirtual 172, 3) := by decide +kernel
theorem dX5_digest_30 : decode cX5_digest 30 = .ok (.iinc 1 1, 3) := by decide +kernel
theorem dX5_digest_33 : decode cX5_digest 33 = .ok (.goto (-19), 3) := by decide +kernel
theorem dX5_digest_36 : decode cX5_digest 36 = .ok (.iconst 0, 1) := by decide +kernel
theorem dX5_digest_37 : decode cX5_digest 37 = .ok (.istore_n 1, 1) := by decide +kernel
theorem dX5_digest_38 : decode cX5_digest 38 = .ok (.iload_n 1, 1) := by decide +kernel
theorem dX5_digest_39 : decode cX5_digest 39 = .ok (.bipush 9, 2) := by decide +kernel
theorem dX5_digest_41 : decode cX5_digest 41 = .ok (.if_icmp .ge 14, 3) := by decide +kernel
theorem dX5_digest_44 : decode cX5_digest 44 = .ok (.aload_n 0, 1) := by decide +kernel
theorem dX5_digest_45 : decode cX5_digest 45 = .ok (.iload_n 1, 1) := by decide +kernel
theorem dX5_digest_46 : decode cX5_digest 46 = .ok (.invokevirtual 178, 3) := by decide +kernel
theorem dX5_digest_49 : decode cX5_digest 49 = .ok (.iinc 1 1, 3) := by decide +kernel
theorem dX5_digest_52 : decode cX5_digest 52 = .ok (.goto (-14), 3) := by decide +kernel
theorem dX5_digest_55 : decode cX5_digest 55 = .ok (.iconst 0, 1) := by decide +kernel
theorem dX5_digest_56 : decode cX5_digest 56 = .ok (.istore_n 1, 1) := by decide +kernel
theorem dX5_digest_57 : decode cX5_digest 57 = .ok (.iload_n 1, 1) := by decide +kernel
theorem dX5_digest_58 : decode cX5_digest 58 = .ok (.iconst 3, 1) := by decide +kernel
theorem dX5_digest_59 : decode cX5_digest 59 = .ok (.aload_n 0, 1) := by decide +kernel
theorem dX5_digest_60 : decode cX5_digest 60 = .ok (.getfield 7, 3) := by decide +kernel
theorem dX5_digest_63 : decode cX5_digest 63 = .ok (.bipush 45, 2) := by decide +kernel
theorem dX5_digest_65 : decode cX5_digest 65 = .ok (.iaload, 1) := by decide +kernel
theorem dX5_digest_66 : decode cX5_digest 66 = .ok (.imul, 1) := by decide +kernel
theorem dX5_digest_67 : decode cX5_digest 67 = .ok (.if_icmp .ge 24, 3) := by decide +kernel
theorem dX5_digest_70 : decode cX5_digest 70 = .ok (.aload_n 0, 1) := by decide +kernel
theorem dX5_digest_71 : decode cX5_digest 71 = .ok (.aload_n 0, 1) := by decide +kernel
theorem dX5_digest_72 : decode cX5_digest 72 = .ok (.iload_n 1, 1) := by decide +kernel
theorem dX5_digest_73 : decode cX5_digest 73 = .ok (.iconst 3, 1) := by decide +kernel
theorem dX5_digest_74 : decode cX5_digest 74 = .ok (.idiv, 1) := by decide +kernel
theorem dX5_digest_75 : decode cX5_digest 75 = .ok (.iload_n 1, 1) := by decide +kernel
theorem dX5_digest_76 : decode cX5_digest 76 = .ok (.iconst 3, 1) := by decide +kernel
theorem dX5_digest_77 : decode cX5_digest 77 = .ok (.irem, 1) := by decide +kernel
theorem dX5_digest_78 : decode cX5_digest 78 = .ok (.invokevirtual 124, 3) := by decide +kernel
theorem dX5_digest_81 : decode cX5_digest 81 = .ok (.i2l, 1) := by decide +kernel
theorem dX5_digest_82 : decode cX5_digest 82 = .ok (.invokevirtual 172, 3) := by decide +kernel
theorem dX5_digest_85 : decode cX5_digest 85 = .ok (.iinc 1 1, 3) := by decide +kernel
theorem dX5_digest_88 : decode cX5_digest 88 = .ok (.goto (-31), 3) := by decide +kernel
theorem dX5_digest_91 : decode cX5_digest 91 = .ok (.aload_n 0, 1) := by decide +kernel
theorem dX5_digest_92 : decode cX5_digest 92 = .ok (.aload_n 0, 1) := by decide +kernel
theorem dX5_digest_93 : decode cX5_digest 93 = .ok (.iconst 0, 1) := by decide +kernel
theorem dX5_digest_94 : decode cX5_digest 94 = .ok (.invokevirtual 136, 3) := by decide +kernel
theorem dX5_digest_97 : decode cX5_digest 97 = .ok (.i2l, 1) := by decide +kernel
theorem dX5_digest_98 : decode cX5_digest 98 = .ok (.invokevirtual 172, 3) := by decide +kernel
theorem dX5_digest_101 : decode cX5_digest 101 = .ok (.aload_n 0, 1) := by decide +kernel
theorem dX5_digest_102 : decode cX5_digest 102 = .ok (.aload_n 0, 1) := by decide +kernel
theorem dX5_digest_103 : decode cX5_digest 103 = .ok (.iconst 1, 1) := by decide +kernel
theorem dX5_digest_104 : decode cX5_digest 104 = .ok (.invokevirtual 136, 3) := by decide +kernel
theorem dX5_digest_107 : decode cX5_digest 107 = .ok (.i2l, 1) := by decide +kernel
theorem dX5_digest_108 : decode cX5_digest 108 = .ok (.invokevirtual 172, 3) := by decide +kernel
theorem dX5_digest_111 : decode cX5_digest 111 = .ok (.iconst 0, 1) := by decide +kernel
theorem dX5_digest_112 : decode cX5_digest 112 = .ok (.istore_n 1, 1) := by decide +kernel
theorem dX5_digest_113 : decode cX5_digest 113 = .ok (.iload_n 1, 1) := by decide +kernel
theorem dX5_digest_114 : decode cX5_digest 114 = .ok (.iconst 5, 1) := by decide +kernel
theorem dX5_digest_115 : decode cX5_digest 115 = .ok (.if_icmp .ge 19, 3) := by decide +kernel
theorem dX5_digest_118 : decode cX5_digest 118 = .ok (.aload_n 0, 1) := by decide +kernel
theorem dX5_digest_119 : decode cX5_digest 119 = .ok (.aload_n 0, 1) := by decide +kernel
theorem dX5_digest_120 : decode cX5_digest 120 = .ok (.iload_n 1, 1) := by decide +kernel
theorem dX5_digest_121 : decode cX5_digest 121 = .ok (.invokevirtual 139, 3) := by decide +kernel
theorem dX5_digest_124 : decode cX5_digest 124 = .ok (.i2l, 1) := by decide +kernel
theorem dX5_digest_125 : decode cX5_digest 125 = .ok (.invokevirtual 172, 3) := by decide +kernel
theorem dX5_digest_128 : decode cX5_digest 128 = .ok (.iinc 1 1, 3) := by decide +kernel
theorem dX5_digest_131 : decode cX5_digest 131 = .ok (.goto (-18), 3) := by decide +kernel
theorem dX5_digest_134 : decode cX5_digest 134 = .ok (.aload_n 0, 1) := by decide +kernel
theorem dX5_digest_135 : decode cX5_digest 135 = .ok (.aload_n 0, 1) := by decide +kernel
theorem dX5_digest_136 : decode cX5_digest 136 = .ok (.invokevirtual 148, 3) := by decide +kernel
theorem dX5_digest_139 : decode cX5_digest 139 = .ok (.i2l, 1) := by decide +kernel
theorem dX5_digest_140 : decode cX5_digest 140 = .ok (.invokevirtual 172, 3) := by decide +kernel
theorem dX5_digest_143 : decode cX5_digest 143 = .ok (.aload_n 0, 1) := by decide +kernel
theorem dX5_digest_144 : decode cX5_digest 144 = .ok (.aload_n 0, 1) := by decide +kernel
theorem dX5_digest_145 : decode cX5_digest 145 = .ok (.invokevirtual 151, 3) := by decide +kernel
theorem dX5_digest_148 : decode cX5_digest 148 = .ok (.i2l, 1) := by decide +kernel
theorem dX5_digest_149 : decode cX5_digest 149 = .ok (.invokevirtual 172, 3) := by decide +kernel
theorem dX5_digest_152 : decode cX5_digest 152 = .ok (.aload_n 0, 1) := by decide +kernel
theorem dX5_digest_153 : decode cX5_digest 153 = .ok (.aload_n 0, 1) := by decide +kernel
theorem dX5_digest_154 : decode cX5_digest 154 = .ok (.invokevirtual 154, 3) := by decide +kernel
theorem dX5_digest_157 : decode cX5_digest 157 = .ok (.invokestatic 182, 3) := by decide +kernel
theorem dX5_digest_160 : decode cX5_digest 160 = .ok (.invokevirtual 172, 3) := by decide +kernel
theorem dX5_digest_163 : decode cX5_digest 163 = .ok (.aload_n 0, 1) := by decide +kernel
theorem dX5_digest_164 : decode cX5_digest 164 = .ok (.aload_n 0, 1) := by decide +kernel
theorem dX5_digest_165 : decode cX5_digest 165 = .ok (.getfield 19, 3) := by decide +kernel
theorem dX5_digest_168 : decode cX5_digest 168 = .ok (.iconst 0, 1) := by decide +kernel
theorem dX5_digest_169 : decode cX5_digest 169 = .ok (.baload, 1) := by decide +kernel
theorem dX5_digest_170 : decode cX5_digest 170 = .ok (.ifCond .eq 7, 3) := by decide +kernel
theorem dX5_digest_173 : decode cX5_digest 173 = .ok (.lconst 1, 1) := by decide +kernel
theorem dX5_digest_174 : decode cX5_digest 174 = .ok (.goto 4, 3) := by decide +kernel
theorem dX5_digest_177 : decode cX5_digest 177 = .ok (.lconst 0, 1) := by decide +kernel
theorem dX5_digest_178 : decode cX5_digest 178 = .ok (.invokevirtual 172, 3) := by decide +kernel
theorem dX5_digest_181 : decode cX5_digest 181 = .ok (.aload_n 0, 1) := by decide +kernel
theorem dX5_digest_182 : decode cX5_digest 182 = .ok (.aload_n 0, 1) := by decide +kernel
theorem dX5_digest_183 : decode cX5_digest 183 = .ok (.getfield 19, 3) := by decide +kernel
theorem dX5_digest_186 : decode cX5_digest 186 = .ok (.iconst 1, 1) := by decide +kernel
theorem dX5_digest_187 : decode cX5_digest 187 = .ok (.baload, 1) := by decide +kernel
theorem dX5_digest_188 : decode cX5_digest 188 = .ok (.ifCond .eq 7, 3) := by decide +kernel
theorem dX5_digest_191 : decode cX5_digest 191 = .ok (.lconst 1, 1) := by decide +kernel
theorem dX5_digest_192 : decode cX5_digest 192 = .ok (.goto 4, 3) := by decide +kernel
theorem dX5_digest_195 : decode cX5_digest 195 = .ok (.lconst 0, 1) := by decide +kernel
theorem dX5_digest_196 : decode cX5_digest 196 = .ok (.invokevirtual 172, 3) := by decide +kernel
theorem dX5_digest_199 : decode cX5_digest 199 = .ok (.aload_n 0, 1) := by decide +kernel
theorem dX5_digest_200 : decode cX5_digest 200 = .ok (.aload_n 0, 1) := by decide +kernel
theorem dX5_digest_201 : decode cX5_digest 201 = .ok (.getfield 89, 3) := by decide +kernel
theorem dX5_digest_204 : decode cX5_digest 204 = .ok (.i2l, 1) := by decide +kernel
theorem dX5_digest_205 : decode cX5_digest 205 = .ok (.invokevirtual 172, 3) := by decide +kernel
theorem dX5_digest_208 : decode cX5_digest 208 = .ok (.iconst 0, 1) := by decide +kernel
theorem dX5_digest_209 : decode cX5_digest 209 = .ok (.istore_n 1, 1) := by decide +kernel
theorem dX5_digest_210 : decode cX5_digest 210 = .ok (.iload_n 1, 1) := by decide +kernel
theorem dX5_digest_211 : decode cX5_digest 211 = .ok (.aload_n 0, 1) := by decide +kernel
theorem dX5_digest_212 : decode cX5_digest 212 = .ok (.getfield 89, 3) := by decide +kernel
theorem dX5_digest_215 : decode cX5_digest 215 = .ok (.if_icmp .ge 20, 3) := by decide +kernel
theorem dX5_digest_218 : decode cX5_digest 218 = .ok (.aload_n 0, 1) := by decide +kernel
theorem dX5_digest_219 : decode cX5_digest 219 = .ok (.aload_n 0, 1) := by decide +kernel
theorem dX5_digest_220 : decode cX5_digest 220 = .ok (.getfield 26, 3) := by decide +kernel
theorem dX5_digest_223 : decode cX5_digest 223 = .ok (.iload_n 1, 1) := by decide +kernel
theorem dX5_digest_224 : decode cX5_digest 224 = .ok (.iaload, 1) := by decide +kernel
theorem dX5_digest_225 : decode cX5_digest 225 = .ok (.i2l, 1) := by decide +kernel
theorem dX5_digest_226 : decode cX5_digest 226 = .ok (.invokevirtual 172, 3) := by decide +kernel
theorem dX5_digest_229 : decode cX5_digest 229 = .ok (.iinc 1 1, 3) := by decide +kernel
theorem dX5_digest_232 : decode cX5_digest 232 = .ok (.goto (-22), 3) := by decide +kernel
theorem dX5_digest_235 : decode cX5_digest 235 = .ok (.aload_n 0, 1) := by decide +kernel
theorem dX5_digest_236 : decode cX5_digest 236 = .ok (.getfield 168, 3) := by decide +kernel
theorem dX5_digest_239 : decode cX5_digest 239 = .ok (.lreturn, 1) := by decide +kernel
theorem dJ6_bitCount_0f7a4_0 : decode cJ6_bitCount_0f7a4 0 = .ok (.iload_n 0, 1) := by decide +kernel
theorem dJ6_bitCount_0f7a4_1 : decode cJ6_bitCount_0f7a4 1 = .ok (.iload_n 0, 1) := by decide +kernel
theorem dJ6_bitCount_0f7a4_2 : decode cJ6_bitCount_0f7a4 2 = .ok (.iconst 1, 1) := by decide +kernel
theorem dJ6_bitCount_0f7a4_3 : decode cJ6_bitCount_0f7a4 3 = .ok (.iushr, 1) := by decide +kernel
theorem dJ6_bitCount_0f7a4_4 : decode cJ6_bitCount_0f7a4 4 = .ok (.ldc_w 265, 3) := by decide +kernel
theorem dJ6_bitCount_0f7a4_7 : decode cJ6_bitCount_0f7a4 7 = .ok (.iand, 1) := by decide +kernel
theorem dJ6_bitCount_0f7a4_8 : decode cJ6_bitCount_0f7a4 8 = .ok (.isub, 1) := by decide +kernel
theorem dJ6_bitCount_0f7a4_9 : decode cJ6_bitCount_0f7a4 9 = .ok (.istore_n 0, 1) := by decide +kernel
theorem dJ6_bitCount_0f7a4_10 : decode cJ6_bitCount_0f7a4 10 = .ok (.iload_n 0, 1) := by decide +kernel
theorem dJ6_bitCount_0f7a4_11 : decode cJ6_bitCount_0f7a4 11 = .ok (.ldc_w 266, 3) := by decide +kernel
theorem dJ6_bitCount_0f7a4_14 : decode cJ6_bitCount_0f7a4 14 = .ok (.iand, 1) := by decide +kernel
theorem dJ6_bitCount_0f7a4_15 : decode cJ6_bitCount_0f7a4 15 = .ok (.iload_n 0, 1) := by decide +kernel
theorem dJ6_bitCount_0f7a4_16 : decode cJ6_bitCount_0f7a4 16 = .ok (.iconst 2, 1) := by decide +kernel
theorem dJ6_bitCount_0f7a4_17 : decode cJ6_bitCount_0f7a4 17 = .ok (.iushr, 1) := by decide +kernel
theorem dJ6_bitCount_0f7a4_18 : decode cJ6_bitCount_0f7a4 18 = .ok (.ldc_w 266, 3) := by decide +kernel
theorem dJ6_bitCount_0f7a4_21 : decode cJ6_bitCount_0f7a4 21 = .ok (.iand, 1) := by decide +kernel
theorem dJ6_bitCount_0f7a4_22 : decode cJ6_bitCount_0f7a4 22 = .ok (.iadd, 1) := by decide +kernel
theorem dJ6_bitCount_0f7a4_23 : decode cJ6_bitCount_0f7a4 23 = .ok (.istore_n 0, 1) := by decide +kernel
theorem dJ6_bitCount_0f7a4_24 : decode cJ6_bitCount_0f7a4 24 = .ok (.iload_n 0, 1) := by decide +kernel
theorem dJ6_bitCount_0f7a4_25 : decode cJ6_bitCount_0f7a4 25 = .ok (.iload_n 0, 1) := by decide +kernel
theorem dJ6_bitCount_0f7a4_26 : decode cJ6_bitCount_0f7a4 26 = .ok (.iconst 4, 1) := by decide +kernel
theorem dJ6_bitCount_0f7a4_27 : decode cJ6_bitCount_0f7a4 27 = .ok (.iushr, 1) := by decide +kernel
theorem dJ6_bitCount_0f7a4_28 : decode cJ6_bitCount_0f7a4 28 = .ok (.iadd, 1) := by decide +kernel
theorem dJ6_bitCount_0f7a4_29 : decode cJ6_bitCount_0f7a4 29 = .ok (.ldc_w 267, 3) := by decide +kernel
theorem dJ6_bitCount_0f7a4_32 : decode cJ6_bitCount_0f7a4 32 = .ok (.iand, 1) := by decide +kernel
theorem dJ6_bitCount_0f7a4_33 : decode cJ6_bitCount_0f7a4 33 = .ok (.istore_n 0, 1) := by decide +kernel
theorem dJ6_bitCount_0f7a4_34 : decode cJ6_bitCount_0f7a4 34 = .ok (.iload_n 0, 1) := by decide +kernel
theorem dJ6_bitCount_0f7a4_35 : decode cJ6_bitCount_0f7a4 35 = .ok (.iload_n 0, 1) := by decide +kernel
theorem dJ6_bitCount_0f7a4_36 : decode cJ6_bitCount_0f7a4 36 = .ok (.bipush 8, 2) := by decide +kernel
theorem dJ6_bitCount_0f7a4_38 : decode cJ6_bitCount_0f7a4 38 = .ok (.iushr, 1) := by decide +kernel
theorem dJ6_bitCount_0f7a4_39 : decode cJ6_bitCount_0f7a4 39 = .ok (.iadd, 1) := by decide +kernel
theorem dJ6_bitCount_0f7a4_40 : decode cJ6_bitCount_0f7a4 40 = .ok (.istore_n 0, 1) := by decide +kernel
theorem dJ6_bitCount_0f7a4_41 : decode cJ6_bitCount_0f7a4 41 = .ok (.iload_n 0, 1) := by decide +kernel
theorem dJ6_bitCount_0f7a4_42 : decode cJ6_bitCount_0f7a4 42 = .ok (.iload_n 0, 1) := by decide +kernel
theorem dJ6_bitCount_0f7a4_43 : decode cJ6_bitCount_0f7a4 43 = .ok (.bipush 16, 2) := by decide +kernel
theorem dJ6_bitCount_0f7a4_45 : decode cJ6_bitCount_0f7a4 45 = .ok (.iushr, 1) := by decide +kernel
theorem dJ6_bitCount_0f7a4_46 : decode cJ6_bitCount_0f7a4 46 = .ok (.iadd, 1) := by decide +kernel
theorem dJ6_bitCount_0f7a4_47 : decode cJ6_bitCount_0f7a4 47 = .ok (.istore_n 0, 1) := by decide +kernel
theorem dJ6_bitCount_0f7a4_48 : decode cJ6_bitCount_0f7a4 48 = .ok (.iload_n 0, 1) := by decide +kernel
theorem dJ6_bitCount_0f7a4_49 : decode cJ6_bitCount_0f7a4 49 = .ok (.bipush 63, 2) := by decide +kernel
theorem dJ6_bitCount_0f7a4_51 : decode cJ6_bitCount_0f7a4 51 = .ok (.iand, 1) := by decide +kernel
theorem dJ6_bitCount_0f7a4_52 : decode cJ6_bitCount_0f7a4 52 = .ok (.ireturn, 1) := by decide +kernel
set_option maxRecDepth 20000 in
theorem ggL_cover_X4_cover : GoodIn wsL_cover wsX4_cover := goodIn_ca (goodIn_ca (goodIn_r _ [7, 8, 9, 10, 11, 12, 13, 14, 15, 6, 16, 17, 18, 19, 20, 21, 22, 23, 24, 25, 26, 27, 28, 29, 30, 31, 32, 33, 34, 35, 36, 37, 38, 39, 40, 41, 42, 43, 44, 45, 46, 47, 48, 49, 50, 51, 52, 53, 54, 55, 56, 57, 58, 59, 60, 61, 62, 63, 64, 65, 66, 67, 68, 69, 70, 71] (by decide +kernel) (by decide +kernel)) (goodIn_sub (fun _ h => List.mem_cons_of_mem _ (List.mem_append_left _ (List.mem_append_right _ h))) (by decide +kernel))) (goodIn_sub (fun _ h => List.mem_cons_of_mem _ (List.mem_append_right _ h)) (by decide +kernel))
set_option maxRecDepth 20000 in
theorem gL_cover_X4_cover : GoodIn wsL_cover (wsV RL 7 RX4 yX4_cover wsX4_cover) := goodIn_app (goodIn_of _ (by decide +kernel)) ggL_cover_X4_cover
theorem dL_cover_0 : decode cL_cover 0 = .ok (.aload_n 3, 1) := by decide +kernel
theorem dL_cover_1 : decode cL_cover 1 = .ok (.iconst 0, 1) := by decide +kernel
theorem dL_cover_2 : decode cL_cover 2 = .ok (.aload_n 0, 1) := by decide +kernel
theorem dL_cover_3 : decode cL_cover 3 = .ok (.iload_n 1, 1) := by decide +kernel
theorem dL_cover_4 : decode cL_cover 4 = .ok (.iload_n 2, 1) := by decide +kernel
theorem dL_cover_5 : decode cL_cover 5 = .ok (.invokevirtual 7, 3) := by decide +kernel
theorem dL_cover_8 : decode cL_cover 8 = .ok (.i2l, 1) := by decide +kernel
theorem dL_cover_9 : decode cL_cover 9 = .ok (.lastore, 1) := by decide +kernel
theorem dL_cover_10 : decode cL_cover 10 = .ok (.goto 11, 3) := by decide +kernel
theorem dL_cover_13 : decode cL_cover 13 = .ok (.astore 4, 2) := by decide +kernel
theorem dL_cover_15 : decode cL_cover 15 = .ok (.iconst 1, 1) := by decide +kernel
theorem dL_cover_16 : decode cL_cover 16 = .ok (.ireturn, 1) := by decide +kernel
theorem dL_cover_17 : decode cL_cover 17 = .ok (.astore 4, 2) := by decide +kernel
theorem dL_cover_19 : decode cL_cover 19 = .ok (.iconst 2, 1) := by decide +kernel
theorem dL_cover_20 : decode cL_cover 20 = .ok (.ireturn, 1) := by decide +kernel
theorem dL_cover_21 : decode cL_cover 21 = .ok (.iconst 0, 1) := by decide +kernel
theorem dL_cover_22 : decode cL_cover 22 = .ok (.ireturn, 1) := by decide +kernel
set_option maxRecDepth 20000 in
theorem ggL_join_X4_join : GoodIn wsL_join wsX4_join := goodIn_ca (goodIn_ca (goodIn_r _ [7, 8, 9, 10, 11, 12, 13, 14, 15, 6, 16, 17, 18, 19, 20, 21, 22, 23, 24, 25, 26, 27, 28, 29, 30, 31, 32, 33, 34, 35, 36, 37, 38, 39, 40, 41, 42, 43, 44, 45, 46, 47, 48, 49, 50, 51, 52, 53, 54, 55, 56, 57, 58, 59, 60, 61, 62, 63, 64, 65, 66, 67, 68, 69, 70, 71, 72, 73, 74] (by decide +kernel) (by decide +kernel)) (goodIn_sub (fun _ h => List.mem_cons_of_mem _ (List.mem_append_left _ (List.mem_append_right _ h))) (by decide +kernel))) (goodIn_sub (fun _ h => List.mem_cons_of_mem _ (List.mem_append_right _ h)) (by decide +kernel))
set_option maxRecDepth 20000 in
theorem gL_join_X4_join : GoodIn wsL_join (wsV RL 17 RX4 yX4_join wsX4_join) := goodIn_app (goodIn_of _ (by decide +kernel)) ggL_join_X4_join
theorem dL_join_0 : decode cL_join 0 = .ok (.aload_n 3, 1) := by decide +kernel
theorem dL_join_1 : decode cL_join 1 = .ok (.iconst 0, 1) := by decide +kernel
theorem dL_join_2 : decode cL_join 2 = .ok (.aload_n 0, 1) := by decide +kernel
theorem dL_join_3 : decode cL_join 3 = .ok (.iload_n 1, 1) := by decide +kernel
theorem dL_join_4 : decode cL_join 4 = .ok (.iload_n 2, 1) := by decide +kernel
theorem dL_join_5 : decode cL_join 5 = .ok (.invokevirtual 17, 3) := by decide +kernel
theorem dL_join_8 : decode cL_join 8 = .ok (.i2l, 1) := by decide +kernel
theorem dL_join_9 : decode cL_join 9 = .ok (.lastore, 1) := by decide +kernel
theorem dL_join_10 : decode cL_join 10 = .ok (.goto 11, 3) := by decide +kernel
theorem dL_join_13 : decode cL_join 13 = .ok (.astore 4, 2) := by decide +kernel
theorem dL_join_15 : decode cL_join 15 = .ok (.iconst 1, 1) := by decide +kernel
theorem dL_join_16 : decode cL_join 16 = .ok (.ireturn, 1) := by decide +kernel
theorem dL_join_17 : decode cL_join 17 = .ok (.astore 4, 2) := by decide +kernel
theorem dL_join_19 : decode cL_join 19 = .ok (.iconst 2, 1) := by decide +kernel
theorem dL_join_20 : decode cL_join 20 = .ok (.ireturn, 1) := by decide +kernel
theorem dL_join_21 : decode cL_join 21 = .ok (.iconst 0, 1) := by decide +kernel
theorem dL_join_22 : decode cL_join 22 = .ok (.ireturn, 1) := by decide +kernel
set_option maxRecDepth 20000 in
theorem ggL_mark_X4_mark : GoodIn wsL_mark wsX4_mark := goodIn_ca (goodIn_ca (goodIn_r _ [7, 8, 9, 10, 11, 12, 13, 14, 15, 6, 16, 17, 18, 19, 20, 21, 22, 23, 24, 25, 26, 27, 28, 29, 30, 31, 32, 33, 34, 35, 36, 37, 38, 39, 40, 41, 42, 43, 44, 45, 46, 47, 48, 49, 50, 51, 52, 53, 54, 55, 56, 57, 58, 59, 60, 61, 62, 63, 64, 65, 66, 67, 68, 69, 70, 71] (by decide +kernel) (by decide +kernel)) (goodIn_sub (fun _ h => List.mem_cons_of_mem _ (List.mem_append_left _ (List.mem_append_right _ h))) (by decide +kernel))) (goodIn_sub (fun _ h => List.mem_cons_of_mem _ (List.mem_append_right _ h)) (by decide +kernel))
set_option maxRecDepth 20000 in
theorem gL_mark_X4_mark : GoodIn wsL_mark (wsV RL 20 RX4 yX4_mark wsX4_mark) := goodIn_app (goodIn_of _ (by decide +kernel)) ggL_mark_X4_mark
theorem dL_mark_0 : decode cL_mark 0 = .ok (.aload_n 3, 1) := by decide +kernel
theorem dL_mark_1 : decode cL_mark 1 = .ok (.iconst 0, 1) := by decide +kernel
theorem dL_mark_2 : decode cL_mark 2 = .ok (.aload_n 0, 1) := by decide +kernel
theorem dL_mark_3 : decode cL_mark 3 = .ok (.iload_n 1, 1) := by decide +kernel
theorem dL_mark_4 : decode cL_mark 4 = .ok (.iload_n 2, 1) := by decide +kernel
theorem dL_mark_5 : decode cL_mark 5 = .ok (.invokevirtual 20, 3) := by decide +kernel
theorem dL_mark_8 : decode cL_mark 8 = .ok (.i2l, 1) := by decide +kernel
theorem dL_mark_9 : decode cL_mark 9 = .ok (.lastore, 1) := by decide +kernel
theorem dL_mark_10 : decode cL_mark 10 = .ok (.goto 11, 3) := by decide +kernel
theorem dL_mark_13 : decode cL_mark 13 = .ok (.astore 4, 2) := by decide +kernel
theorem dL_mark_15 : decode cL_mark 15 = .ok (.iconst 1, 1) := by decide +kernel
theorem dL_mark_16 : decode cL_mark 16 = .ok (.ireturn, 1) := by decide +kernel
theorem dL_mark_17 : decode cL_mark 17 = .ok (.astore 4, 2) := by decide +kernel
theorem dL_mark_19 : decode cL_mark 19 = .ok (.iconst 2, 1) := by decide +kernel
theorem dL_mark_20 : decode cL_mark 20 = .ok (.ireturn, 1) := by decide +kernel
theorem dL_mark_21 : decode cL_mark 21 = .ok (.iconst 0, 1) := by decide +kernel
theorem dL_mark_22 : decode cL_mark 22 = .ok (.ireturn, 1) := by decide +kernel
set_option maxRecDepth 20000 in
theorem ggL_bar_X4_bar : GoodIn wsL_bar wsX4_bar := goodIn_ca (goodIn_ca (goodIn_r _ [7, 8, 9, 10, 11, 12, 13, 14, 15, 6, 16, 17, 18, 19, 20, 21, 22, 23, 24, 25, 26, 27, 28, 29, 30, 31, 32, 33, 34, 35, 36, 37, 38, 39, 40, 41, 42, 43, 44, 45, 46, 47, 48, 49, 50, 51, 52, 53, 54, 55, 56, 57, 58, 59, 60, 61, 62, 63, 64, 65, 66, 67, 68, 69, 70, 71, 72, 73, 74] (by decide +kernel) (by decide +kernel)) (goodIn_sub (fun _ h => List.mem_cons_of_mem _ (List.mem_append_left _ (List.mem_append_right _ h))) (by decide +kernel))) (goodIn_sub (fun _ h => List.mem_cons_of_mem _ (List.mem_append_right _ h)) (by decide +kernel))
set_option maxRecDepth 20000 in
theorem gL_bar_X4_bar : GoodIn wsL_bar (wsV RL 23 RX4 yX4_bar wsX4_bar) := goodIn_app (goodIn_of _ (by decide +kernel)) ggL_bar_X4_bar
theorem dL_bar_0 : decode cL_bar 0 = .ok (.aload_n 3, 1) := by decide +kernel
theorem dL_bar_1 : decode cL_bar 1 = .ok (.iconst 0, 1) := by decide +kernel
theorem dL_bar_2 : decode cL_bar 2 = .ok (.aload_n 0, 1) := by decide +kernel
theorem dL_bar_3 : decode cL_bar 3 = .ok (.iload_n 1, 1) := by decide +kernel
theorem dL_bar_4 : decode cL_bar 4 = .ok (.iload_n 2, 1) := by decide +kernel
theorem dL_bar_5 : decode cL_bar 5 = .ok (.invokevirtual 23, 3) := by decide +kernel
theorem dL_bar_8 : decode cL_bar 8 = .ok (.i2l, 1) := by decide +kernel
theorem dL_bar_9 : decode cL_bar 9 = .ok (.lastore, 1) := by decide +kernel
theorem dL_bar_10 : decode cL_bar 10 = .ok (.goto 11, 3) := by decide +kernel
theorem dL_bar_13 : decode cL_bar 13 = .ok (.astore 4, 2) := by decide +kernel
theorem dL_bar_15 : decode cL_bar 15 = .ok (.iconst 1, 1) := by decide +kernel
theorem dL_bar_16 : decode cL_bar 16 = .ok (.ireturn, 1) := by decide +kernel
theorem dL_bar_17 : decode cL_bar 17 = .ok (.astore 4, 2) := by decide +kernel
theorem dL_bar_19 : decode cL_bar 19 = .ok (.iconst 2, 1) := by decide +kernel
theorem dL_bar_20 : decode cL_bar 20 = .ok (.ireturn, 1) := by decide +kernel
theorem dL_bar_21 : decode cL_bar 21 = .ok (.iconst 0, 1) := by decide +kernel
theorem dL_bar_22 : decode cL_bar 22 = .ok (.ireturn, 1) := by decide +kernel
set_option maxRecDepth 20000 in
theorem ggL_append_X4_append : GoodIn wsL_append wsX4_append := goodIn_ca (goodIn_ca (goodIn_r _ [7, 8, 9, 10, 11, 12, 13, 14, 15, 16, 17, 18, 19, 20, 21, 22, 23, 24, 25, 26, 27, 28, 29] (by decide +kernel) (by decide +kernel)) (goodIn_sub (fun _ h => List.mem_cons_of_mem _ (List.mem_append_left _ (List.mem_append_right _ h))) (by decide +kernel))) (goodIn_sub (fun _ h => List.mem_cons_of_mem _ (List.mem_append_right _ h)) (by decide +kernel))
set_option maxRecDepth 20000 in
theorem gL_append_X4_append : GoodIn wsL_append (wsV RL 26 RX4 yX4_append wsX4_append) := goodIn_app (goodIn_of _ (by decide +kernel)) ggL_append_X4_append
theorem dL_append_0 : decode cL_append 0 = .ok (.aload_n 2, 1) := by decide +kernel
theorem dL_append_1 : decode cL_append 1 = .ok (.iconst 0, 1) := by decide +kernel
theorem dL_append_2 : decode cL_append 2 = .ok (.aload_n 0, 1) := by decide +kernel
theorem dL_append_3 : decode cL_append 3 = .ok (.iload_n 1, 1) := by decide +kernel
theorem dL_append_4 : decode cL_append 4 = .ok (.invokevirtual 26, 3) := by decide +kernel
theorem dL_append_7 : decode cL_append 7 = .ok (.i2l, 1) := by decide +kernel
theorem dL_append_8 : decode cL_append 8 = .ok (.lastore, 1) := by decide +kernel
theorem dL_append_9 : decode cL_append 9 = .ok (.goto 9, 3) := by decide +kernel
theorem dL_append_12 : decode cL_append 12 = .ok (.astore_n 3, 1) := by decide +kernel
theorem dL_append_13 : decode cL_append 13 = .ok (.iconst 1, 1) := by decide +kernel
theorem dL_append_14 : decode cL_append 14 = .ok (.ireturn, 1) := by decide +kernel
theorem dL_append_15 : decode cL_append 15 = .ok (.astore_n 3, 1) := by decide +kernel
theorem dL_append_16 : decode cL_append 16 = .ok (.iconst 2, 1) := by decide +kernel
theorem dL_append_17 : decode cL_append 17 = .ok (.ireturn, 1) := by decide +kernel
theorem dL_append_18 : decode cL_append 18 = .ok (.iconst 0, 1) := by decide +kernel
theorem dL_append_19 : decode cL_append 19 = .ok (.ireturn, 1) := by decide +kernel
set_option maxRecDepth 20000 in
theorem ggL_load_X4_load : GoodIn wsL_load wsX4_load := goodIn_ca (goodIn_r _ [6, 7, 8, 9, 10, 11, 12, 13, 14, 15, 16, 17, 18, 19, 20, 21, 22, 23, 24, 25, 26, 27, 28, 29, 30, 31, 32, 33, 34, 35, 36, 37, 38, 39, 40, 41, 42, 43, 5, 44, 45, 46, 47, 48, 49, 50, 51, 52, 53, 54, 55, 56, 57, 58, 59, 60, 61, 62, 63, 64, 65, 66, 67, 68, 69, 70, 71, 72, 73, 74, 75, 76, 77, 78, 79, 80, 81, 82, 83, 84, 85, 86, 87, 88, 89, 90, 91, 92, 93, 94, 95, 96, 97, 98, 99, 100, 101, 102, 103, 104, 105, 106, 107, 108, 109, 110, 111, 112, 113, 114, 115, 116, 117, 118, 119, 120, 121, 122, 123, 124, 125, 126, 127, 128, 129, 130, 131, 132, 133] (by decide +kernel) (by decide +kernel)) (goodIn_sub (fun _ h => List.mem_cons_of_mem _ (List.mem_append_right _ h)) (by decide +kernel))
set_option maxRecDepth 20000 in
theorem gL_load_X4_load : GoodIn wsL_load (wsV RL 32 RX4 yX4_load wsX4_load) := goodIn_app (goodIn_of _ (by decide +kernel)) ggL_load_X4_load
theorem dL_load_0 : decode cL_load 0 = .ok (.aload_n 1, 1) := by decide +kernel
theorem dL_load_1 : decode cL_load 1 = .ok (.iconst 0, 1) := by decide +kernel
theorem dL_load_2 : decode cL_load 2 = .ok (.aload_n 0, 1) := by decide +kernel
theorem dL_load_3 : decode cL_load 3 = .ok (.invokevirtual 32, 3) := by decide +kernel
theorem dL_load_6 : decode cL_load 6 = .ok (.i2l, 1) := by decide +kernel
theorem dL_load_7 : decode cL_load 7 = .ok (.lastore, 1) := by decide +kernel
theorem dL_load_8 : decode cL_load 8 = .ok (.goto 6, 3) := by decide +kernel
theorem dL_load_11 : decode cL_load 11 = .ok (.astore_n 2, 1) := by decide +kernel
theorem dL_load_12 : decode cL_load 12 = .ok (.iconst 1, 1) := by decide +kernel
theorem dL_load_13 : decode cL_load 13 = .ok (.ireturn, 1) := by decide +kernel
theorem dL_load_14 : decode cL_load 14 = .ok (.iconst 0, 1) := by decide +kernel
theorem dL_load_15 : decode cL_load 15 = .ok (.ireturn, 1) := by decide +kernel
set_option maxRecDepth 20000 in
theorem ggL_keep_X4_keep : GoodIn wsL_keep wsX4_keep := goodIn_ca (goodIn_r _ [6, 7, 8, 9, 10, 11, 12, 13, 5, 14, 15, 16, 17, 18, 19, 20, 21, 22, 23, 24, 25, 26, 27, 28, 29, 30, 31, 32, 33, 34, 35, 36, 37, 38, 39, 40, 41, 42, 43, 44, 45, 46, 47, 48, 49, 50, 51, 52, 53, 54, 55, 56, 57, 58, 59, 60, 61, 62, 63, 64, 65, 66] (by decide +kernel) (by decide +kernel)) (goodIn_sub (fun _ h => List.mem_cons_of_mem _ (List.mem_append_right _ h)) (by decide +kernel))
set_option maxRecDepth 20000 in
theorem gL_keep_X4_keep : GoodIn wsL_keep (wsV RL 36 RX4 yX4_keep wsX4_keep) := goodIn_app (goodIn_of _ (by decide +kernel)) ggL_keep_X4_keep
theorem dL_keep_0 : decode cL_keep 0 = .ok (.aload_n 2, 1) := by decide +kernel
theorem dL_keep_1 : decode cL_keep 1 = .ok (.iconst 0, 1) := by decide +kernel
theorem dL_keep_2 : decode cL_keep 2 = .ok (.aload_n 0, 1) := by decide +kernel
theorem dL_keep_3 : decode cL_keep 3 = .ok (.iload_n 1, 1) := by decide +kernel
theorem dL_keep_4 : decode cL_keep 4 = .ok (.invokevirtual 36, 3) := by decide +kernel
theorem dL_keep_7 : decode cL_keep 7 = .ok (.i2l, 1) := by decide +kernel
theorem dL_keep_8 : decode cL_keep 8 = .ok (.lastore, 1) := by decide +kernel
theorem dL_keep_9 : decode cL_keep 9 = .ok (.goto 6, 3) := by decide +kernel
theorem dL_keep_12 : decode cL_keep 12 = .ok (.astore_n 3, 1) := by decide +kernel
theorem dL_keep_13 : decode cL_keep 13 = .ok (.iconst 1, 1) := by decide +kernel
theorem dL_keep_14 : decode cL_keep 14 = .ok (.ireturn, 1) := by decide +kernel
theorem dL_keep_15 : decode cL_keep 15 = .ok (.iconst 0, 1) := by decide +kernel
theorem dL_keep_16 : decode cL_keep 16 = .ok (.ireturn, 1) := by decide +kernel
set_option maxRecDepth 20000 in
theorem ggL_goBack_X4_goBack : GoodIn wsL_goBack wsX4_goBack := goodIn_ca (goodIn_ca (goodIn_r _ [7, 8, 9, 10, 11, 12, 13, 14, 15, 16, 6, 17, 18, 19, 20, 21, 22, 23, 24, 25, 26, 27, 28, 29, 30, 31, 32, 33, 34, 35, 36, 37, 38, 39, 40, 41, 42, 43, 44, 45, 46, 47, 48, 49, 50, 51, 52, 53, 54, 55, 56, 57, 58, 59, 60, 61, 62, 63, 64, 65, 66, 67, 68, 69, 70, 71, 72, 73, 74, 75, 76, 77, 78, 79] (by decide +kernel) (by decide +kernel)) (goodIn_sub (fun _ h => List.mem_cons_of_mem _ (List.mem_append_left _ (List.mem_append_right _ h))) (by decide +kernel))) (goodIn_sub (fun _ h => List.mem_cons_of_mem _ (List.mem_append_right _ h)) (by decide +kernel))
set_option maxRecDepth 20000 in
theorem gL_goBack_X4_goBack : GoodIn wsL_goBack (wsV RL 39 RX4 yX4_goBack wsX4_goBack) := goodIn_app (goodIn_of _ (by decide +kernel)) ggL_goBack_X4_goBack
theorem dL_goBack_0 : decode cL_goBack 0 = .ok (.aload_n 2, 1) := by decide +kernel
theorem dL_goBack_1 : decode cL_goBack 1 = .ok (.iconst 0, 1) := by decide +kernel
theorem dL_goBack_2 : decode cL_goBack 2 = .ok (.aload_n 0, 1) := by decide +kernel
theorem dL_goBack_3 : decode cL_goBack 3 = .ok (.iload_n 1, 1) := by decide +kernel
theorem dL_goBack_4 : decode cL_goBack 4 = .ok (.invokevirtual 39, 3) := by decide +kernel
theorem dL_goBack_7 : decode cL_goBack 7 = .ok (.i2l, 1) := by decide +kernel
theorem dL_goBack_8 : decode cL_goBack 8 = .ok (.lastore, 1) := by decide +kernel
theorem dL_goBack_9 : decode cL_goBack 9 = .ok (.goto 9, 3) := by decide +kernel
theorem dL_goBack_12 : decode cL_goBack 12 = .ok (.astore_n 3, 1) := by decide +kernel
theorem dL_goBack_13 : decode cL_goBack 13 = .ok (.iconst 1, 1) := by decide +kernel
theorem dL_goBack_14 : decode cL_goBack 14 = .ok (.ireturn, 1) := by decide +kernel
theorem dL_goBack_15 : decode cL_goBack 15 = .ok (.astore_n 3, 1) := by decide +kernel
theorem dL_goBack_16 : decode cL_goBack 16 = .ok (.iconst 2, 1) := by decide +kernel
theorem dL_goBack_17 : decode cL_goBack 17 = .ok (.ireturn, 1) := by decide +kernel
theorem dL_goBack_18 : decode cL_goBack 18 = .ok (.iconst 0, 1) := by decide +kernel
theorem dL_goBack_19 : decode cL_goBack 19 = .ok (.ireturn, 1) := by decide +kernel
set_option maxRecDepth 20000 in
theorem ggL_undo_X4_undo : GoodIn wsL_undo wsX4_undo := goodIn_ca (goodIn_r _ [6, 7, 8, 9, 10, 11, 12, 13, 5, 14, 15, 16, 17, 18, 19, 20, 21, 22, 23, 24, 25, 26, 27, 28, 29, 30, 31, 32, 33, 34, 35, 36, 37, 38, 39, 40, 41, 42, 43, 44, 45, 46, 47, 48, 49, 50, 51, 52] (by decide +kernel) (by decide +kernel)) (goodIn_sub (fun _ h => List.mem_cons_of_mem _ (List.mem_append_right _ h)) (by decide +kernel))
set_option maxRecDepth 20000 in
theorem gL_undo_X4_undo : GoodIn wsL_undo (wsV RL 42 RX4 yX4_undo wsX4_undo) := goodIn_app (goodIn_of _ (by decide +kernel)) ggL_undo_X4_undo
theorem dL_undo_0 : decode cL_undo 0 = .ok (.aload_n 1, 1) := by decide +kernel
theorem dL_undo_1 : decode cL_undo 1 = .ok (.iconst 0, 1) := by decide +kernel
theorem dL_undo_2 : decode cL_undo 2 = .ok (.aload_n 0, 1) := by decide +kernel
theorem dL_undo_3 : decode cL_undo 3 = .ok (.invokevirtual 42, 3) := by decide +kernel
theorem dL_undo_6 : decode cL_undo 6 = .ok (.i2l, 1) := by decide +kernel
theorem dL_undo_7 : decode cL_undo 7 = .ok (.lastore, 1) := by decide +kernel
theorem dL_undo_8 : decode cL_undo 8 = .ok (.goto 6, 3) := by decide +kernel
theorem dL_undo_11 : decode cL_undo 11 = .ok (.astore_n 2, 1) := by decide +kernel
theorem dL_undo_12 : decode cL_undo 12 = .ok (.iconst 1, 1) := by decide +kernel
theorem dL_undo_13 : decode cL_undo 13 = .ok (.ireturn, 1) := by decide +kernel
theorem dL_undo_14 : decode cL_undo 14 = .ok (.iconst 0, 1) := by decide +kernel
theorem dL_undo_15 : decode cL_undo 15 = .ok (.ireturn, 1) := by decide +kernel
set_option maxRecDepth 20000 in
theorem ggL_pieceOf_X4_pieceOf : GoodIn wsL_pieceOf wsX4_pieceOf := goodIn_ca (goodIn_ca (goodIn_r _ [7, 8, 9, 10, 11, 12, 13, 14, 15, 16, 17, 18, 19, 20, 21, 22, 23, 24, 6, 25, 26, 27, 28, 29, 30, 31, 32, 33, 34, 35, 36, 37, 38, 39, 40, 41, 42, 43, 44, 45, 46, 47, 48, 49, 50, 51, 52, 53, 54, 55, 56, 57, 58, 59, 60, 61, 62, 63, 64, 65, 66, 67, 68, 69, 70, 71, 72, 73, 74, 75, 76, 77, 78, 79, 80, 81, 82, 83, 84, 85, 86, 87, 88, 89, 90, 91, 92, 93, 94, 95, 96, 97, 98, 99, 100, 101, 102, 103, 104, 105, 106, 107, 108, 109, 110, 111, 112, 113, 114] (by decide +kernel) (by decide +kernel)) (goodIn_sub (fun _ h => List.mem_cons_of_mem _ (List.mem_append_left _ (List.mem_append_right _ h))) (by decide +kernel))) (goodIn_sub (fun _ h => List.mem_cons_of_mem _ (List.mem_append_right _ h)) (by decide +kernel))
set_option maxRecDepth 20000 in
theorem gL_pieceOf_X4_pieceOf : GoodIn wsL_pieceOf (wsV RL 45 RX4 yX4_pieceOf wsX4_pieceOf) := goodIn_app (goodIn_of _ (by decide +kernel)) ggL_pieceOf_X4_pieceOf
theorem dL_pieceOf_0 : decode cL_pieceOf 0 = .ok (.aload_n 3, 1) := by decide +kernel
theorem dL_pieceOf_1 : decode cL_pieceOf 1 = .ok (.iconst 0, 1) := by decide +kernel
theorem dL_pieceOf_2 : decode cL_pieceOf 2 = .ok (.aload_n 0, 1) := by decide +kernel
theorem dL_pieceOf_3 : decode cL_pieceOf 3 = .ok (.iload_n 1, 1) := by decide +kernel
theorem dL_pieceOf_4 : decode cL_pieceOf 4 = .ok (.iload_n 2, 1) := by decide +kernel
theorem dL_pieceOf_5 : decode cL_pieceOf 5 = .ok (.invokevirtual 45, 3) := by decide +kernel
theorem dL_pieceOf_8 : decode cL_pieceOf 8 = .ok (.i2l, 1) := by decide +kernel
theorem dL_pieceOf_9 : decode cL_pieceOf 9 = .ok (.lastore, 1) := by decide +kernel
theorem dL_pieceOf_10 : decode cL_pieceOf 10 = .ok (.goto 11, 3) := by decide +kernel
theorem dL_pieceOf_13 : decode cL_pieceOf 13 = .ok (.astore 4, 2) := by decide +kernel
theorem dL_pieceOf_15 : decode cL_pieceOf 15 = .ok (.iconst 1, 1) := by decide +kernel
theorem dL_pieceOf_16 : decode cL_pieceOf 16 = .ok (.ireturn, 1) := by decide +kernel
theorem dL_pieceOf_17 : decode cL_pieceOf 17 = .ok (.astore 4, 2) := by decide +kernel
theorem dL_pieceOf_19 : decode cL_pieceOf 19 = .ok (.iconst 2, 1) := by decide +kernel
theorem dL_pieceOf_20 : decode cL_pieceOf 20 = .ok (.ireturn, 1) := by decide +kernel
theorem dL_pieceOf_21 : decode cL_pieceOf 21 = .ok (.iconst 0, 1) := by decide +kernel
theorem dL_pieceOf_22 : decode cL_pieceOf 22 = .ok (.ireturn, 1) := by decide +kernel
set_option maxRecDepth 20000 in
theorem ggL_isJoined_X4_isJoined : GoodIn wsL_isJoined wsX4_isJoined := goodIn_ca (goodIn_r _ [6, 7, 8, 9, 10, 11, 12, 5, 13, 14, 15, 16, 17, 18, 19, 20, 21, 22, 23, 24, 25, 26, 27, 28, 29, 30, 31, 32, 33, 34, 35] (by decide +kernel) (by decide +kernel)) (goodIn_sub (fun _ h => List.mem_cons_of_mem _ (List.mem_append_right _ h)) (by decide +kernel))
set_option maxRecDepth 20000 in
theorem gL_isJoined_X4_isJoined : GoodIn wsL_isJoined (wsV RL 48 RX4 yX4_isJoined wsX4_isJoined) := goodIn_app (goodIn_of _ (by decide +kernel)) ggL_isJoined_X4_isJoined
theorem dL_isJoined_0 : decode cL_isJoined 0 = .ok (.aload_n 3, 1) := by decide +kernel
theorem dL_isJoined_1 : decode cL_isJoined 1 = .ok (.iconst 0, 1) := by decide +kernel
theorem dL_isJoined_2 : decode cL_isJoined 2 = .ok (.aload_n 0, 1) := by decide +kernel
theorem dL_isJoined_3 : decode cL_isJoined 3 = .ok (.iload_n 1, 1) := by decide +kernel
theorem dL_isJoined_4 : decode cL_isJoined 4 = .ok (.iload_n 2, 1) := by decide +kernel
theorem dL_isJoined_5 : decode cL_isJoined 5 = .ok (.invokevirtual 48, 3) := by decide +kernel
theorem dL_isJoined_8 : decode cL_isJoined 8 = .ok (.i2l, 1) := by decide +kernel
theorem dL_isJoined_9 : decode cL_isJoined 9 = .ok (.lastore, 1) := by decide +kernel
theorem dL_isJoined_10 : decode cL_isJoined 10 = .ok (.goto 7, 3) := by decide +kernel
theorem dL_isJoined_13 : decode cL_isJoined 13 = .ok (.astore 4, 2) := by decide +kernel
theorem dL_isJoined_15 : decode cL_isJoined 15 = .ok (.iconst 1, 1) := by decide +kernel
theorem dL_isJoined_16 : decode cL_isJoined 16 = .ok (.ireturn, 1) := by decide +kernel
theorem dL_isJoined_17 : decode cL_isJoined 17 = .ok (.iconst 0, 1) := by decide +kernel
theorem dL_isJoined_18 : decode cL_isJoined 18 = .ok (.ireturn, 1) := by decide +kernel
set_option maxRecDepth 20000 in
theorem ggL_noted_X4_noted : GoodIn wsL_noted wsX4_noted := goodIn_ca (goodIn_r _ [6, 7, 8, 9, 10, 11, 12, 13, 14, 15, 16, 17, 18, 19, 20, 21, 22, 23, 24, 25, 26, 27, 28, 29, 30, 31, 32, 33, 34, 35, 36, 37, 38] (by decide +kernel) (by decide +kernel)) (goodIn_sub (fun _ h => List.mem_cons_of_mem _ (List.mem_append_right _ h)) (by decide +kernel))
set_option maxRecDepth 20000 in
theorem gL_noted_X4_noted : GoodIn wsL_noted (wsV RL 51 RX4 yX4_noted wsX4_noted) := goodIn_app (goodIn_of _ (by decide +kernel)) ggL_noted_X4_noted
theorem dL_noted_0 : decode cL_noted 0 = .ok (.aload_n 3, 1) := by decide +kernel
theorem dL_noted_1 : decode cL_noted 1 = .ok (.iconst 0, 1) := by decide +kernel
theorem dL_noted_2 : decode cL_noted 2 = .ok (.aload_n 0, 1) := by decide +kernel
theorem dL_noted_3 : decode cL_noted 3 = .ok (.iload_n 1, 1) := by decide +kernel
theorem dL_noted_4 : decode cL_noted 4 = .ok (.iload_n 2, 1) := by decide +kernel
theorem dL_noted_5 : decode cL_noted 5 = .ok (.invokevirtual 51, 3) := by decide +kernel
theorem dL_noted_8 : decode cL_noted 8 = .ok (.i2l, 1) := by decide +kernel
theorem dL_noted_9 : decode cL_noted 9 = .ok (.lastore, 1) := by decide +kernel
theorem dL_noted_10 : decode cL_noted 10 = .ok (.goto 7, 3) := by decide +kernel
theorem dL_noted_13 : decode cL_noted 13 = .ok (.astore 4, 2) := by decide +kernel
theorem dL_noted_15 : decode cL_noted 15 = .ok (.iconst 1, 1) := by decide +kernel
theorem dL_noted_16 : decode cL_noted 16 = .ok (.ireturn, 1) := by decide +kernel
theorem dL_noted_17 : decode cL_noted 17 = .ok (.iconst 0, 1) := by decide +kernel
theorem dL_noted_18 : decode cL_noted 18 = .ok (.ireturn, 1) := by decide +kernel
set_option maxRecDepth 20000 in
theorem ggL_count_X4_count : GoodIn wsL_count wsX4_count := goodIn_ca (goodIn_r _ [6, 7, 8, 9, 10, 11, 12, 13, 14, 15, 16, 17, 18, 19, 20, 21, 22, 23, 24, 25, 26, 27, 28, 29, 30, 31, 32, 33, 34, 5, 35, 36, 37, 38, 39, 40, 41, 42, 43, 44, 45, 46, 47, 48, 49, 50, 51, 52, 53, 54, 55, 56, 57, 58, 59, 60, 61, 62, 63, 64, 65, 66, 67, 68, 69, 70, 71, 72, 73, 74, 75, 76, 77, 78, 79, 80, 81, 82, 83, 84, 85, 86, 87, 88, 89, 90, 91, 92, 93, 94, 95, 96, 97, 98, 99, 100, 101, 102, 103, 104, 105, 106, 107, 108, 109, 110, 111, 112, 113, 114, 115, 116, 117, 118, 119, 120, 121, 122, 123, 124, 125, 126, 127, 128, 129, 130, 131, 132] (by decide +kernel) (by decide +kernel)) (goodIn_sub (fun _ h => List.mem_cons_of_mem _ (List.mem_append_right _ h)) (by decide +kernel))
set_option maxRecDepth 20000 in
theorem gL_count_X4_count : GoodIn wsL_count (wsV RL 54 RX4 yX4_count wsX4_count) := goodIn_app (goodIn_of _ (by decide +kernel)) ggL_count_X4_count
theorem dL_count_0 : decode cL_count 0 = .ok (.aload_n 2, 1) := by decide +kernel
theorem dL_count_1 : decode cL_count 1 = .ok (.iconst 0, 1) := by decide +kernel
theorem dL_count_2 : decode cL_count 2 = .ok (.aload_n 0, 1) := by decide +kernel
theorem dL_count_3 : decode cL_count 3 = .ok (.iload_n 1, 1) := by decide +kernel
theorem dL_count_4 : decode cL_count 4 = .ok (.invokevirtual 54, 3) := by decide +kernel
theorem dL_count_7 : decode cL_count 7 = .ok (.i2l, 1) := by decide +kernel
theorem dL_count_8 : decode cL_count 8 = .ok (.lastore, 1) := by decide +kernel
theorem dL_count_9 : decode cL_count 9 = .ok (.goto 6, 3) := by decide +kernel
theorem dL_count_12 : decode cL_count 12 = .ok (.astore_n 3, 1) := by decide +kernel
theorem dL_count_13 : decode cL_count 13 = .ok (.iconst 1, 1) := by decide +kernel
theorem dL_count_14 : decode cL_count 14 = .ok (.ireturn, 1) := by decide +kernel
theorem dL_count_15 : decode cL_count 15 = .ok (.iconst 0, 1) := by decide +kernel
theorem dL_count_16 : decode cL_count 16 = .ok (.ireturn, 1) := by decide +kernel
set_option maxRecDepth 20000 in
theorem ggL_heaviest_X4_heaviest : GoodIn wsL_heaviest wsX4_heaviest := goodIn_ca (goodIn_r _ [6, 7, 8, 9, 10, 11, 12, 13, 14, 15, 16, 17, 18, 19, 20, 21, 22, 23, 24, 25, 26, 27, 28, 29, 30, 31, 32, 33, 34, 35, 36, 37, 38, 5, 39, 40, 41, 42, 43, 44, 45, 46, 47, 48, 49, 50, 51, 52, 53, 54, 55, 56, 57, 58, 59, 60, 61, 62, 63, 64, 65, 66, 67, 68, 69, 70, 71, 72, 73, 74, 75, 76, 77, 78, 79, 80, 81, 82, 83, 84, 85, 86, 87] (by decide +kernel) (by decide +kernel)) (goodIn_sub (fun _ h => List.mem_cons_of_mem _ (List.mem_append_right _ h)) (by decide +kernel))
set_option maxRecDepth 20000 in
theorem gL_heaviest_X4_heaviest : GoodIn wsL_heaviest (wsV RL 57 RX4 yX4_heaviest wsX4_heaviest) := goodIn_app (goodIn_of _ (by decide +kernel)) ggL_heaviest_X4_heaviest
theorem dL_heaviest_0 : decode cL_heaviest 0 = .ok (.aload_n 2, 1) := by decide +kernel
theorem dL_heaviest_1 : decode cL_heaviest 1 = .ok (.iconst 0, 1) := by decide +kernel
theorem dL_heaviest_2 : decode cL_heaviest 2 = .ok (.aload_n 0, 1) := by decide +kernel
theorem dL_heaviest_3 : decode cL_heaviest 3 = .ok (.iload_n 1, 1) := by decide +kernel
theorem dL_heaviest_4 : decode cL_heaviest 4 = .ok (.invokevirtual 57, 3) := by decide +kernel
theorem dL_heaviest_7 : decode cL_heaviest 7 = .ok (.i2l, 1) := by decide +kernel
theorem dL_heaviest_8 : decode cL_heaviest 8 = .ok (.lastore, 1) := by decide +kernel
theorem dL_heaviest_9 : decode cL_heaviest 9 = .ok (.goto 6, 3) := by decide +kernel
theorem dL_heaviest_12 : decode cL_heaviest 12 = .ok (.astore_n 3, 1) := by decide +kernel
theorem dL_heaviest_13 : decode cL_heaviest 13 = .ok (.iconst 1, 1) := by decide +kernel
theorem dL_heaviest_14 : decode cL_heaviest 14 = .ok (.ireturn, 1) := by decide +kernel
theorem dL_heaviest_15 : decode cL_heaviest 15 = .ok (.iconst 0, 1) := by decide +kernel
theorem dL_heaviest_16 : decode cL_heaviest 16 = .ok (.ireturn, 1) := by decide +kernel
set_option maxRecDepth 20000 in
theorem ggL_openWay_X4_openWay : GoodIn wsL_openWay wsX4_openWay := goodIn_ca (goodIn_r _ [6, 7, 8, 9, 10, 11, 12, 13, 14, 15, 16, 17, 18, 19, 20, 21, 22, 23, 24, 25, 26, 27, 28, 29, 30, 31, 32, 33, 34, 35, 36, 37, 38, 39, 40, 5, 41, 42, 43, 44, 45, 46, 47, 48, 49, 50, 51, 52, 53, 54, 55, 56, 57, 58, 59, 60, 61, 62, 63, 64, 65, 66, 67, 68, 69, 70, 71, 72, 73, 74, 75, 76, 77, 78] (by decide +kernel) (by decide +kernel)) (goodIn_sub (fun _ h => List.mem_cons_of_mem _ (List.mem_append_right _ h)) (by decide +kernel))
set_option maxRecDepth 20000 in
theorem gL_openWay_X4_openWay : GoodIn wsL_openWay (wsV RL 60 RX4 yX4_openWay wsX4_openWay) := goodIn_app (goodIn_of _ (by decide +kernel)) ggL_openWay_X4_openWay
theorem dL_openWay_0 : decode cL_openWay 0 = .ok (.aload_n 2, 1) := by decide +kernel
theorem dL_openWay_1 : decode cL_openWay 1 = .ok (.iconst 0, 1) := by decide +kernel
theorem dL_openWay_2 : decode cL_openWay 2 = .ok (.aload_n 0, 1) := by decide +kernel
theorem dL_openWay_3 : decode cL_openWay 3 = .ok (.iload_n 1, 1) := by decide +kernel
theorem dL_openWay_4 : decode cL_openWay 4 = .ok (.invokevirtual 60, 3) := by decide +kernel
theorem dL_openWay_7 : decode cL_openWay 7 = .ok (.i2l, 1) := by decide +kernel
theorem dL_openWay_8 : decode cL_openWay 8 = .ok (.lastore, 1) := by decide +kernel
theorem dL_openWay_9 : decode cL_openWay 9 = .ok (.goto 6, 3) := by decide +kernel
theorem dL_openWay_12 : decode cL_openWay 12 = .ok (.astore_n 3, 1) := by decide +kernel
theorem dL_openWay_13 : decode cL_openWay 13 = .ok (.iconst 1, 1) := by decide +kernel
theorem dL_openWay_14 : decode cL_openWay 14 = .ok (.ireturn, 1) := by decide +kernel
theorem dL_openWay_15 : decode cL_openWay 15 = .ok (.iconst 0, 1) := by decide +kernel
theorem dL_openWay_16 : decode cL_openWay 16 = .ok (.ireturn, 1) := by decide +kernel
set_option maxRecDepth 20000 in
theorem ggL_law_X4_init : GoodIn wsL_law wsX4_init := goodIn_r _ [9, 10, 11, 12, 13, 14, 15, 16, 17, 18, 19, 20, 21, 22, 23, 24, 25, 26, 27, 28, 29, 30, 31, 32, 33, 34, 35, 36, 37, 38, 39, 40, 41, 42, 43, 44, 45, 46, 47, 48, 49, 50, 51, 52, 53, 54, 55, 56, 57, 58, 59, 60, 61, 62, 63, 64, 727, 728, 729, 730, 731, 732, 733, 734, 735, 736, 708, 709, 710, 711, 712, 713, 714, 715, 716, 737, 738, 739, 740, 741, 742, 743, 744, 745, 746, 747, 748, 749, 750, 751] (by decide +kernel) (by decide +kernel)
set_option maxRecDepth 20000 in
theorem gL_law_X4_init : GoodIn wsL_law (wsX4_init) := ggL_law_X4_init
set_option maxRecDepth 20000 in
theorem ggL_law_X5_init : GoodIn wsL_law wsX5_init := goodIn_r _ [67, 68, 11, 12, 38, 69, 70, 71, 20, 72, 73, 74, 717, 718, 719, 720, 721, 722, 723, 724, 725, 726] (by decide +kernel) (by decide +kernel)
set_option maxRecDepth 20000 in
theorem gL_law_X5_init : GoodIn wsL_law (wsX5_init) := ggL_law_X5_init
set_option maxRecDepth 20000 in
theorem ggL_law_L_cover : GoodIn wsL_law wsL_cover := goodIn_ca (goodIn_ca (goodIn_r _ [78, 79, 80, 81, 82, 83, 2, 84, 85, 86, 87, 88, 16, 89, 90, 91, 92, 93, 94, 95, 96, 97, 18, 98, 99, 100, 101, 102, 103, 104, 105, 106, 107, 15, 108, 39, 40, 41, 42, 109, 110, 111, 112, 43, 44, 45, 113, 114, 115, 116, 117, 118, 119, 708, 709, 710, 711, 712, 713, 714, 715, 716, 727, 728, 729, 730, 731, 732, 733, 734, 735, 736] (by decide +kernel) (by decide +kernel)) (goodIn_sub (fun _ h => List.mem_append_left _ (List.mem_append_left _ (List.mem_append_right _ h))) (by decide +kernel))) (goodIn_sub (fun _ h => List.mem_append_left _ (List.mem_append_right _ h)) (by decide +kernel))
set_option maxRecDepth 20000 in
theorem gL_law_L_cover : GoodIn wsL_law (va_wsS RL 67 yL_cover wsL_cover) := goodIn_app (goodIn_of _ (by decide +kernel)) ggL_law_L_cover
set_option maxRecDepth 20000 in
theorem ggL_law_X5_cover : GoodIn wsL_law wsX5_cover := goodIn_r _ [123, 124, 125, 5, 126, 127, 128, 129, 130, 131, 132, 133, 134, 135, 136, 137, 138, 69, 139, 140, 141, 142, 143, 73, 144, 145, 146, 147, 717, 718, 719, 720, 721, 722, 723, 724, 725, 726] (by decide +kernel) (by decide +kernel)
set_option maxRecDepth 20000 in
theorem gL_law_X5_cover : GoodIn wsL_law (wsV RL 72 RX5 yX5_cover wsX5_cover) := goodIn_app (goodIn_of _ (by decide +kernel)) ggL_law_X5_cover
set_option maxRecDepth 20000 in
theorem ggL_law_X5_thrown : GoodIn wsL_law wsX5_thrown := goodIn_r _ [151, 134, 717, 718, 719, 720, 721, 722, 723, 724, 725, 726] (by decide +kernel) (by decide +kernel)
set_option maxRecDepth 20000 in
theorem gL_law_X5_thrown : GoodIn wsL_law (wsV RL 73 RX5 yX5_thrown wsX5_thrown) := goodIn_app (goodIn_of _ (by decide +kernel)) ggL_law_X5_thrown
set_option maxRecDepth 20000 in
theorem ggL_law_L_join : GoodIn wsL_law wsL_join := goodIn_ca (goodIn_ca (goodIn_r _ [154, 79, 80, 155, 156, 157, 2, 158, 85, 86, 87, 88, 16, 159, 90, 91, 92, 93, 94, 95, 96, 97, 18, 98, 99, 100, 101, 102, 103, 104, 105, 106, 107, 15, 108, 39, 40, 41, 42, 109, 110, 111, 112, 43, 44, 45, 113, 114, 115, 116, 117, 118, 119, 160, 161, 162, 708, 709, 710, 711, 712, 713, 714, 715, 716, 727, 728, 729, 730, 731, 732, 733, 734, 735, 736] (by decide +kernel) (by decide +kernel)) (goodIn_sub (fun _ h => List.mem_append_left _ (List.mem_append_left _ (List.mem_append_right _ h))) (by decide +kernel))) (goodIn_sub (fun _ h => List.mem_append_left _ (List.mem_append_right _ h)) (by decide +kernel))
set_option maxRecDepth 20000 in
theorem gL_law_L_join : GoodIn wsL_law (va_wsS RL 76 yL_join wsL_join) := goodIn_app (goodIn_of _ (by decide +kernel)) ggL_law_L_join
set_option maxRecDepth 20000 in
theorem ggL_law_X5_join : GoodIn wsL_law wsX5_join := goodIn_r _ [166, 69, 124, 125, 5, 126, 127, 128, 129, 130, 131, 132, 133, 134, 135, 136, 137, 138, 139, 140, 141, 142, 143, 73, 144, 145, 146, 147, 717, 718, 719, 720, 721, 722, 723, 724, 725, 726] (by decide +kernel) (by decide +kernel)
set_option maxRecDepth 20000 in
theorem gL_law_X5_join : GoodIn wsL_law (wsV RL 78 RX5 yX5_join wsX5_join) := goodIn_app (goodIn_of _ (by decide +kernel)) ggL_law_X5_join
set_option maxRecDepth 20000 in
theorem ggL_law_L_mark : GoodIn wsL_law wsL_mark := goodIn_ca (goodIn_ca (goodIn_r _ [169, 79, 80, 170, 171, 172, 2, 173, 85, 86, 87, 88, 16, 34, 90, 91, 92, 93, 94, 95, 96, 97, 18, 98, 99, 100, 101, 102, 103, 104, 105, 106, 107, 15, 108, 39, 40, 41, 42, 109, 110, 111, 112, 43, 44, 45, 113, 114, 115, 116, 117, 118, 119, 708, 709, 710, 711, 712, 713, 714, 715, 716, 727, 728, 729, 730, 731, 732, 733, 734, 735, 736] (by decide +kernel) (by decide +kernel)) (goodIn_sub (fun _ h => List.mem_append_left _ (List.mem_append_left _ (List.mem_append_right _ h))) (by decide +kernel))) (goodIn_sub (fun _ h => List.mem_append_left _ (List.mem_append_right _ h)) (by decide +kernel))
set_option maxRecDepth 20000 in
theorem gL_law_L_mark : GoodIn wsL_law (va_wsS RL 79 yL_mark wsL_mark) := goodIn_app (goodIn_of _ (by decide +kernel)) ggL_law_L_mark
set_option maxRecDepth 20000 in
theorem ggL_law_X5_mark : GoodIn wsL_law wsX5_mark := goodIn_r _ [177, 124, 125, 5, 126, 127, 128, 129, 130, 131, 132, 133, 134, 135, 136, 137, 138, 69, 139, 140, 141, 142, 143, 73, 144, 145, 146, 147, 717, 718, 719, 720, 721, 722, 723, 724, 725, 726] (by decide +kernel) (by decide +kernel)
set_option maxRecDepth 20000 in
theorem gL_law_X5_mark : GoodIn wsL_law (wsV RL 81 RX5 yX5_mark wsX5_mark) := goodIn_app (goodIn_of _ (by decide +kernel)) ggL_law_X5_mark
set_option maxRecDepth 20000 in
theorem ggL_law_L_bar : GoodIn wsL_law wsL_bar := goodIn_ca (goodIn_ca (goodIn_r _ [180, 79, 80, 181, 182, 183, 2, 184, 85, 86, 87, 88, 16, 185, 90, 91, 92, 93, 94, 95, 96, 97, 18, 98, 99, 100, 101, 102, 103, 104, 105, 106, 107, 15, 108, 39, 40, 41, 42, 109, 110, 111, 112, 43, 44, 45, 113, 114, 115, 116, 117, 118, 119, 160, 161, 162, 708, 709, 710, 711, 712, 713, 714, 715, 716, 727, 728, 729, 730, 731, 732, 733, 734, 735, 736] (by decide +kernel) (by decide +kernel)) (goodIn_sub (fun _ h => List.mem_append_left _ (List.mem_append_left _ (List.mem_append_right _ h))) (by decide +kernel))) (goodIn_sub (fun _ h => List.mem_append_left _ (List.mem_append_right _ h)) (by decide +kernel))
set_option maxRecDepth 20000 in
theorem gL_law_L_bar : GoodIn wsL_law (va_wsS RL 82 yL_bar wsL_bar) := goodIn_app (goodIn_of _ (by decide +kernel)) ggL_law_L_bar
set_option maxRecDepth 20000 in
theorem ggL_law_X5_bar : GoodIn wsL_law wsX5_bar := goodIn_r _ [189, 69, 124, 125, 5, 126, 127, 128, 129, 130, 131, 132, 133, 134, 135, 136, 137, 138, 139, 140, 141, 142, 143, 73, 144, 145, 146, 147, 717, 718, 719, 720, 721, 722, 723, 724, 725, 726] (by decide +kernel) (by decide +kernel)
set_option maxRecDepth 20000 in
theorem gL_law_X5_bar : GoodIn wsL_law (wsV RL 84 RX5 yX5_bar wsX5_bar) := goodIn_app (goodIn_of _ (by decide +kernel)) ggL_law_X5_bar
set_option maxRecDepth 20000 in
theorem ggL_law_X4_step : GoodIn wsL_law wsX4_step := goodIn_r _ [193, 29, 16, 93, 94, 95, 2, 96, 97, 18, 98, 99, 100, 101, 102, 103, 104, 105, 106, 107, 15, 108, 39, 40, 41, 42, 109, 110, 111, 112, 43, 44, 45, 113, 114, 115, 194, 195, 196, 28, 197, 58, 198, 199, 200, 201, 202, 203, 204, 205, 206, 207, 208, 209, 55, 91, 92, 161, 162, 210, 211, 212, 213, 214, 56, 215, 216, 217, 218, 219, 220, 221, 222, 223, 224, 225, 226, 227, 228, 229, 230, 231, 232, 233, 234, 235, 236, 237, 238, 708, 709, 710, 711, 712, 713, 714, 715, 716, 727, 728, 729, 730, 731, 732, 733, 734, 735, 736, 743, 744, 745, 746, 747, 748] (by decide +kernel) (by decide +kernel)
set_option maxRecDepth 20000 in
theorem gL_law_X4_step : GoodIn wsL_law (wsV RL 85 RX4 yX4_step wsX4_step) := goodIn_app (goodIn_of _ (by decide +kernel)) ggL_law_X4_step
set_option maxRecDepth 20000 in
theorem ggL_law_X5_step : GoodIn wsL_law wsX5_step := goodIn_r _ [242, 134, 139, 140, 141, 5, 142, 143, 73, 69, 243, 244, 245, 246, 247, 248, 249, 250, 251, 252, 253, 254, 255, 256, 257, 258, 259, 260, 261, 262, 263, 264, 265, 266, 267, 268, 717, 718, 719, 720, 721, 722, 723, 724, 725, 726] (by decide +kernel) (by decide +kernel)
set_option maxRecDepth 20000 in
theorem gL_law_X5_step : GoodIn wsL_law (wsV RL 88 RX5 yX5_step wsX5_step) := goodIn_app (goodIn_of _ (by decide +kernel)) ggL_law_X5_step
set_option maxRecDepth 20000 in
theorem ggL_law_X4_split : GoodIn wsL_law wsX4_split := goodIn_r _ [272, 29, 16, 93, 94, 95, 2, 96, 97, 18, 98, 99, 100, 101, 102, 103, 104, 105, 106, 107, 15, 108, 39, 40, 41, 42, 109, 110, 111, 112, 43, 44, 45, 113, 114, 115, 194, 195, 196, 28, 197, 58, 198, 199, 200, 201, 202, 203, 204, 205, 206, 207, 208, 209, 55, 91, 92, 161, 162, 210, 211, 212, 213, 214, 56, 215, 216, 217, 218, 273, 274, 275, 276, 219, 220, 221, 222, 223, 224, 225, 226, 227, 228, 229, 230, 231, 232, 233, 234, 235, 236, 237, 238, 708, 709, 710, 711, 712, 713, 714, 715, 716, 727, 728, 729, 730, 731, 732, 733, 734, 735, 736, 743, 744, 745, 746, 747, 748] (by decide +kernel) (by decide +kernel)
set_option maxRecDepth 20000 in
theorem gL_law_X4_split : GoodIn wsL_law (wsV RL 89 RX4 yX4_split wsX4_split) := goodIn_app (goodIn_of _ (by decide +kernel)) ggL_law_X4_split
set_option maxRecDepth 20000 in
theorem ggL_law_X5_split : GoodIn wsL_law wsX5_split := goodIn_r _ [280, 134, 139, 140, 141, 5, 142, 143, 73, 69, 281, 282, 283, 284, 243, 244, 245, 246, 247, 248, 249, 250, 251, 252, 253, 254, 255, 256, 257, 258, 259, 260, 261, 262, 263, 264, 265, 266, 267, 268, 717, 718, 719, 720, 721, 722, 723, 724, 725, 726] (by decide +kernel) (by decide +kernel)
set_option maxRecDepth 20000 in
theorem gL_law_X5_split : GoodIn wsL_law (wsV RL 92 RX5 yX5_split wsX5_split) := goodIn_app (goodIn_of _ (by decide +kernel)) ggL_law_X5_split
set_option maxRecDepth 20000 in
theorem ggL_law_X4_begin : GoodIn wsL_law wsX4_begin := goodIn_r _ [288, 16, 223, 93, 94, 95, 2, 96, 97, 18, 98, 99, 100, 101, 102, 103, 104, 105, 106, 107, 15, 108, 39, 40, 41, 42, 109, 110, 111, 112, 43, 44, 45, 113, 114, 115, 116, 117, 118, 119, 708, 709, 710, 711, 712, 713, 714, 715, 716, 727, 728, 729, 730, 731, 732, 733, 734, 735, 736] (by decide +kernel) (by decide +kernel)
set_option maxRecDepth 20000 in
theorem gL_law_X4_begin : GoodIn wsL_law (wsV RL 93 RX4 yX4_begin wsX4_begin) := goodIn_app (goodIn_of _ (by decide +kernel)) ggL_law_X4_begin
set_option maxRecDepth 20000 in
theorem ggL_law_X5_begin : GoodIn wsL_law wsX5_begin := goodIn_r _ [292, 134, 69, 139, 140, 141, 5, 142, 143, 73, 144, 145, 146, 147, 717, 718, 719, 720, 721, 722, 723, 724, 725, 726] (by decide +kernel) (by decide +kernel)
set_option maxRecDepth 20000 in
theorem gL_law_X5_begin : GoodIn wsL_law (wsV RL 96 RX5 yX5_begin wsX5_begin) := goodIn_app (goodIn_of _ (by decide +kernel)) ggL_law_X5_begin
set_option maxRecDepth 20000 in
theorem ggL_law_L_append : GoodIn wsL_law wsL_append := goodIn_ca (goodIn_ca (goodIn_r _ [295, 80, 296, 297, 298, 299, 2, 300, 87, 88, 301, 302, 25, 303, 304, 708, 709, 710, 711, 712, 713, 714, 715, 716, 737, 738, 739, 740, 741, 742] (by decide +kernel) (by decide +kernel)) (goodIn_sub (fun _ h => List.mem_append_left _ (List.mem_append_right _ h)) (by decide +kernel))) (goodIn_sub (fun _ h => List.mem_append_right _ h) (by decide +kernel))
set_option maxRecDepth 20000 in
theorem gL_law_L_append : GoodIn wsL_law (va_wsS RL 97 yL_append wsL_append) := goodIn_app (goodIn_of _ (by decide +kernel)) ggL_law_L_append
set_option maxRecDepth 20000 in
theorem ggL_law_X5_append : GoodIn wsL_law wsX5_append := goodIn_r _ [308, 309, 74, 127, 128, 5, 129, 130, 131, 132, 133, 134, 717, 718, 719, 720, 721, 722, 723, 724, 725, 726] (by decide +kernel) (by decide +kernel)
set_option maxRecDepth 20000 in
theorem gL_law_X5_append : GoodIn wsL_law (wsV RL 100 RX5 yX5_append wsX5_append) := goodIn_app (goodIn_of _ (by decide +kernel)) ggL_law_X5_append
set_option maxRecDepth 20000 in
theorem ggL_law_X4_clearBuffer : GoodIn wsL_law wsX4_clearBuffer := goodIn_r _ [313, 25, 303, 708, 709, 710, 711, 712, 713, 714, 715, 716, 737, 738, 739, 740, 741, 742] (by decide +kernel) (by decide +kernel)
set_option maxRecDepth 20000 in
theorem gL_law_X4_clearBuffer : GoodIn wsL_law (wsV RL 101 RX4 yX4_clearBuffer wsX4_clearBuffer) := goodIn_app (goodIn_of _ (by decide +kernel)) ggL_law_X4_clearBuffer
set_option maxRecDepth 20000 in
theorem ggL_law_X5_clearBuffer : GoodIn wsL_law wsX5_clearBuffer := goodIn_r _ [317, 134, 309, 717, 718, 719, 720, 721, 722, 723, 724, 725, 726] (by decide +kernel) (by decide +kernel)
set_option maxRecDepth 20000 in
theorem gL_law_X5_clearBuffer : GoodIn wsL_law (wsV RL 104 RX5 yX5_clearBuffer wsX5_clearBuffer) := goodIn_app (goodIn_of _ (by decide +kernel)) ggL_law_X5_clearBuffer
set_option maxRecDepth 20000 in
theorem ggL_law_X4_firstError : GoodIn wsL_law wsX4_firstError := goodIn_r _ [321, 25, 322, 323, 324, 24, 325, 51, 326, 327, 49, 328, 329, 330, 15, 331, 39, 40, 41, 42, 332, 333, 334, 335, 336, 337, 338, 339, 340, 341, 342, 343, 91, 2, 92, 344, 345, 346, 347, 348, 349, 350, 351, 352, 353, 354, 355, 356, 357, 358, 359, 360, 361, 708, 709, 710, 711, 712, 713, 714, 715, 716, 737, 738, 739, 740, 741, 742, 727, 728, 729, 730, 731, 732, 733, 734, 735, 736] (by decide +kernel) (by decide +kernel)
set_option maxRecDepth 20000 in
theorem gL_law_X4_firstError : GoodIn wsL_law (wsV RL 105 RX4 yX4_firstError wsX4_firstError) := goodIn_app (goodIn_of _ (by decide +kernel)) ggL_law_X4_firstError
set_option maxRecDepth 20000 in
theorem ggL_law_X5_firstError : GoodIn wsL_law wsX5_firstError := goodIn_r _ [365, 134, 309, 366, 367, 368, 5, 369, 74, 370, 371, 372, 373, 374, 375, 376, 377, 378, 379, 380, 381, 124, 125, 126, 127, 128, 129, 382, 383, 384, 385, 717, 718, 719, 720, 721, 722, 723, 724, 725, 726] (by decide +kernel) (by decide +kernel)
set_option maxRecDepth 20000 in
theorem gL_law_X5_firstError : GoodIn wsL_law (wsV RL 108 RX5 yX5_firstError wsX5_firstError) := goodIn_app (goodIn_of _ (by decide +kernel)) ggL_law_X5_firstError
set_option maxRecDepth 20000 in
theorem ggL_law_L_load : GoodIn wsL_law wsL_load := goodIn_ca (goodIn_r _ [388, 80, 389, 390, 391, 2, 392, 87, 88, 25, 303, 16, 393, 322, 323, 324, 24, 325, 51, 326, 327, 49, 328, 329, 330, 15, 331, 39, 40, 41, 42, 332, 333, 334, 335, 336, 337, 338, 339, 340, 341, 342, 343, 91, 92, 344, 345, 346, 347, 348, 349, 350, 351, 352, 353, 354, 355, 356, 357, 358, 359, 360, 361, 394, 395, 396, 397, 93, 94, 95, 96, 97, 18, 98, 99, 100, 101, 102, 103, 104, 105, 106, 107, 108, 109, 110, 111, 112, 43, 44, 45, 113, 114, 115, 116, 117, 118, 119, 398, 399, 400, 401, 402, 403, 404, 405, 406, 407, 408, 708, 709, 710, 711, 712, 713, 714, 715, 716, 737, 738, 739, 740, 741, 742, 727, 728, 729, 730, 731, 732, 733, 734, 735, 736] (by decide +kernel) (by decide +kernel)) (goodIn_sub (fun _ h => List.mem_append_left _ (List.mem_append_right _ h)) (by decide +kernel))
set_option maxRecDepth 20000 in
theorem gL_law_L_load : GoodIn wsL_law (va_wsS RL 109 yL_load wsL_load) := goodIn_app (goodIn_of _ (by decide +kernel)) ggL_law_L_load
set_option maxRecDepth 20000 in
theorem ggL_law_X5_load : GoodIn wsL_law wsX5_load := goodIn_r _ [412, 69, 309, 366, 367, 368, 5, 369, 74, 370, 371, 372, 373, 374, 375, 376, 377, 378, 379, 380, 381, 124, 125, 126, 127, 128, 129, 382, 383, 384, 385, 130, 131, 132, 133, 134, 139, 140, 141, 142, 143, 73, 413, 414, 415, 416, 144, 145, 146, 147, 417, 418, 419, 420, 421, 422, 423, 717, 718, 719, 720, 721, 722, 723, 724, 725, 726] (by decide +kernel) (by decide +kernel)
set_option maxRecDepth 20000 in
theorem gL_law_X5_load : GoodIn wsL_law (wsV RL 112 RX5 yX5_load wsX5_load) := goodIn_app (goodIn_of _ (by decide +kernel)) ggL_law_X5_load
set_option maxRecDepth 20000 in
theorem ggL_law_L_keep : GoodIn wsL_law wsL_keep := goodIn_ca (goodIn_r _ [426, 80, 427, 428, 429, 2, 430, 87, 88, 16, 19, 21, 431, 432, 433, 102, 103, 104, 105, 106, 107, 15, 108, 39, 40, 41, 42, 109, 110, 111, 112, 43, 44, 45, 113, 114, 115, 398, 399, 400, 401, 402, 403, 404, 405, 406, 407, 408, 708, 709, 710, 711, 712, 713, 714, 715, 716, 727, 728, 729, 730, 731, 732, 733, 734, 735, 736] (by decide +kernel) (by decide +kernel)) (goodIn_sub (fun _ h => List.mem_append_left _ (List.mem_append_right _ h)) (by decide +kernel))
set_option maxRecDepth 20000 in
theorem gL_law_L_keep : GoodIn wsL_law (va_wsS RL 113 yL_keep wsL_keep) := goodIn_app (goodIn_of _ (by decide +kernel)) ggL_law_L_keep
set_option maxRecDepth 20000 in
theorem ggL_law_X5_keep : GoodIn wsL_law wsX5_keep := goodIn_r _ [437, 71, 69, 72, 127, 128, 5, 129, 130, 131, 132, 133, 134, 417, 418, 419, 420, 421, 422, 423, 717, 718, 719, 720, 721, 722, 723, 724, 725, 726] (by decide +kernel) (by decide +kernel)
set_option maxRecDepth 20000 in
theorem gL_law_X5_keep : GoodIn wsL_law (wsV RL 115 RX5 yX5_keep wsX5_keep) := goodIn_app (goodIn_of _ (by decide +kernel)) ggL_law_X5_keep
set_option maxRecDepth 20000 in
theorem ggL_law_L_goBack : GoodIn wsL_law wsL_goBack := goodIn_ca (goodIn_ca (goodIn_r _ [440, 80, 296, 441, 442, 443, 2, 444, 87, 88, 301, 302, 21, 19, 16, 431, 432, 433, 93, 94, 95, 96, 97, 18, 98, 99, 100, 101, 102, 103, 104, 105, 106, 107, 15, 108, 39, 40, 41, 42, 109, 110, 111, 112, 43, 44, 45, 113, 114, 115, 398, 399, 400, 401, 402, 403, 404, 405, 406, 407, 408, 708, 709, 710, 711, 712, 713, 714, 715, 716, 727, 728, 729, 730, 731, 732, 733, 734, 735, 736] (by decide +kernel) (by decide +kernel)) (goodIn_sub (fun _ h => List.mem_append_left _ (List.mem_append_right _ h)) (by decide +kernel))) (goodIn_sub (fun _ h => List.mem_append_right _ h) (by decide +kernel))
set_option maxRecDepth 20000 in
theorem gL_law_L_goBack : GoodIn wsL_law (va_wsS RL 116 yL_goBack wsL_goBack) := goodIn_app (goodIn_of _ (by decide +kernel)) ggL_law_L_goBack
set_option maxRecDepth 20000 in
theorem ggL_law_X5_goBack : GoodIn wsL_law wsX5_goBack := goodIn_r _ [448, 72, 69, 71, 127, 128, 5, 129, 130, 131, 132, 133, 134, 139, 140, 141, 142, 143, 73, 417, 418, 419, 420, 421, 422, 423, 717, 718, 719, 720, 721, 722, 723, 724, 725, 726] (by decide +kernel) (by decide +kernel)
set_option maxRecDepth 20000 in
theorem gL_law_X5_goBack : GoodIn wsL_law (wsV RL 118 RX5 yX5_goBack wsX5_goBack) := goodIn_app (goodIn_of _ (by decide +kernel)) ggL_law_X5_goBack
set_option maxRecDepth 20000 in
theorem ggL_law_L_undo : GoodIn wsL_law wsL_undo := goodIn_ca (goodIn_r _ [451, 296, 452, 453, 454, 2, 455, 301, 302, 97, 18, 16, 102, 103, 104, 105, 106, 107, 15, 108, 39, 40, 41, 42, 109, 110, 111, 112, 43, 44, 45, 113, 114, 115, 708, 709, 710, 711, 712, 713, 714, 715, 716, 727, 728, 729, 730, 731, 732, 733, 734, 735, 736] (by decide +kernel) (by decide +kernel)) (goodIn_sub (fun _ h => List.mem_append_right _ h) (by decide +kernel))
set_option maxRecDepth 20000 in
theorem gL_law_L_undo : GoodIn wsL_law (va_wsS RL 119 yL_undo wsL_undo) := goodIn_app (goodIn_of _ (by decide +kernel)) ggL_law_L_undo
set_option maxRecDepth 20000 in
theorem ggL_law_X5_undo : GoodIn wsL_law wsX5_undo := goodIn_r _ [459, 143, 69, 73, 130, 131, 132, 5, 133, 134, 717, 718, 719, 720, 721, 722, 723, 724, 725, 726] (by decide +kernel) (by decide +kernel)
set_option maxRecDepth 20000 in
theorem gL_law_X5_undo : GoodIn wsL_law (wsV RL 121 RX5 yX5_undo wsX5_undo) := goodIn_app (goodIn_of _ (by decide +kernel)) ggL_law_X5_undo
set_option maxRecDepth 20000 in
theorem ggL_law_L_pieceOf : GoodIn wsL_law wsL_pieceOf := goodIn_ca (goodIn_ca (goodIn_r _ [462, 79, 80, 463, 464, 465, 2, 466, 85, 86, 87, 88, 16, 89, 467, 34, 159, 33, 468, 29, 469, 470, 185, 90, 91, 92, 471, 472, 473, 15, 474, 41, 161, 162, 475, 403, 404, 405, 406, 407, 408, 476, 477, 478, 32, 479, 63, 480, 194, 195, 196, 28, 197, 58, 198, 199, 200, 201, 202, 203, 204, 205, 206, 106, 107, 108, 39, 40, 42, 207, 208, 209, 55, 210, 211, 212, 213, 214, 56, 215, 216, 217, 218, 481, 482, 483, 160, 708, 709, 710, 711, 712, 713, 714, 715, 716, 727, 728, 729, 730, 731, 732, 733, 734, 735, 736, 749, 750, 751, 743, 744, 745, 746, 747, 748] (by decide +kernel) (by decide +kernel)) (goodIn_sub (fun _ h => List.mem_append_left _ (List.mem_append_left _ (List.mem_append_right _ h))) (by decide +kernel))) (goodIn_sub (fun _ h => List.mem_append_left _ (List.mem_append_right _ h)) (by decide +kernel))
set_option maxRecDepth 20000 in
theorem gL_law_L_pieceOf : GoodIn wsL_law (va_wsS RL 122 yL_pieceOf wsL_pieceOf) := goodIn_app (goodIn_of _ (by decide +kernel)) ggL_law_L_pieceOf
set_option maxRecDepth 20000 in
theorem ggL_law_X5_pieceOf : GoodIn wsL_law wsX5_pieceOf := goodIn_r _ [487, 124, 125, 5, 126, 127, 128, 129, 130, 131, 132, 133, 134, 488, 489, 490, 491, 69, 492, 493, 494, 495, 421, 422, 423, 496, 497, 498, 499, 500, 501, 502, 503, 251, 252, 253, 254, 255, 256, 257, 258, 717, 718, 719, 720, 721, 722, 723, 724, 725, 726] (by decide +kernel) (by decide +kernel)
set_option maxRecDepth 20000 in
theorem gL_law_X5_pieceOf : GoodIn wsL_law (wsV RL 124 RX5 yX5_pieceOf wsX5_pieceOf) := goodIn_app (goodIn_of _ (by decide +kernel)) ggL_law_X5_pieceOf
set_option maxRecDepth 20000 in
theorem ggL_law_L_isJoined : GoodIn wsL_law wsL_isJoined := goodIn_ca (goodIn_r _ [506, 79, 507, 508, 509, 2, 510, 85, 86, 16, 159, 90, 91, 92, 160, 161, 162, 708, 709, 710, 711, 712, 713, 714, 715, 716, 727, 728, 729, 730, 731, 732, 733, 734, 735, 736] (by decide +kernel) (by decide +kernel)) (goodIn_sub (fun _ h => List.mem_append_left _ (List.mem_append_left _ (List.mem_append_right _ h))) (by decide +kernel))
set_option maxRecDepth 20000 in
theorem gL_law_L_isJoined : GoodIn wsL_law (va_wsS RL 125 yL_isJoined wsL_isJoined) := goodIn_app (goodIn_of _ (by decide +kernel)) ggL_law_L_isJoined
set_option maxRecDepth 20000 in
theorem ggL_law_X5_isJoined : GoodIn wsL_law wsX5_isJoined := goodIn_r _ [514, 69, 124, 125, 5, 126, 127, 128, 129, 130, 131, 132, 133, 134, 717, 718, 719, 720, 721, 722, 723, 724, 725, 726] (by decide +kernel) (by decide +kernel)
set_option maxRecDepth 20000 in
theorem gL_law_X5_isJoined : GoodIn wsL_law (wsV RL 127 RX5 yX5_isJoined wsX5_isJoined) := goodIn_app (goodIn_of _ (by decide +kernel)) ggL_law_X5_isJoined
set_option maxRecDepth 20000 in
theorem ggL_law_L_noted : GoodIn wsL_law wsL_noted := goodIn_ca (goodIn_r _ [517, 80, 518, 519, 520, 2, 521, 87, 88, 16, 223, 522, 523, 475, 403, 404, 405, 406, 407, 408, 708, 709, 710, 711, 712, 713, 714, 715, 716, 727, 728, 729, 730, 731, 732, 733, 734, 735, 736] (by decide +kernel) (by decide +kernel)) (goodIn_sub (fun _ h => List.mem_append_left _ (List.mem_append_right _ h)) (by decide +kernel))
set_option maxRecDepth 20000 in
theorem gL_law_L_noted : GoodIn wsL_law (va_wsS RL 128 yL_noted wsL_noted) := goodIn_app (goodIn_of _ (by decide +kernel)) ggL_law_L_noted
set_option maxRecDepth 20000 in
theorem ggL_law_X5_noted : GoodIn wsL_law wsX5_noted := goodIn_r _ [527, 127, 128, 5, 129, 130, 131, 132, 133, 134, 528, 529, 530, 531, 69, 421, 422, 423, 717, 718, 719, 720, 721, 722, 723, 724, 725, 726] (by decide +kernel) (by decide +kernel)
set_option maxRecDepth 20000 in
theorem gL_law_X5_noted : GoodIn wsL_law (wsV RL 130 RX5 yX5_noted wsX5_noted) := goodIn_app (goodIn_of _ (by decide +kernel)) ggL_law_X5_noted
set_option maxRecDepth 20000 in
theorem ggL_law_L_count : GoodIn wsL_law wsL_count := goodIn_ca (goodIn_r _ [534, 80, 535, 536, 537, 2, 538, 87, 88, 16, 89, 467, 223, 29, 470, 229, 33, 539, 224, 97, 398, 399, 400, 15, 401, 41, 402, 403, 404, 405, 406, 407, 408, 540, 541, 542, 543, 544, 545, 28, 546, 59, 199, 204, 161, 162, 194, 195, 196, 197, 58, 198, 200, 201, 202, 203, 205, 206, 106, 107, 108, 39, 40, 42, 207, 208, 209, 55, 91, 92, 210, 211, 212, 213, 214, 56, 215, 216, 217, 218, 476, 477, 478, 32, 479, 63, 480, 547, 548, 549, 550, 64, 551, 552, 553, 554, 555, 556, 557, 558, 559, 560, 561, 562, 563, 708, 709, 710, 711, 712, 713, 714, 715, 716, 727, 728, 729, 730, 731, 732, 733, 734, 735, 736, 743, 744, 745, 746, 747, 748, 749, 750, 751] (by decide +kernel) (by decide +kernel)) (goodIn_sub (fun _ h => List.mem_append_left _ (List.mem_append_right _ h)) (by decide +kernel))
set_option maxRecDepth 20000 in
theorem gL_law_L_count : GoodIn wsL_law (va_wsS RL 131 yL_count wsL_count) := goodIn_app (goodIn_of _ (by decide +kernel)) ggL_law_L_count
set_option maxRecDepth 20000 in
theorem ggL_law_X5_count : GoodIn wsL_law wsX5_count := goodIn_r _ [567, 127, 128, 5, 129, 130, 131, 132, 133, 134, 568, 569, 570, 571, 69, 143, 417, 418, 419, 420, 421, 422, 423, 572, 573, 574, 575, 500, 501, 502, 503, 251, 252, 253, 254, 255, 256, 257, 258, 576, 577, 578, 579, 496, 497, 498, 499, 717, 718, 719, 720, 721, 722, 723, 724, 725, 726] (by decide +kernel) (by decide +kernel)
set_option maxRecDepth 20000 in
theorem gL_law_X5_count : GoodIn wsL_law (wsV RL 133 RX5 yX5_count wsX5_count) := goodIn_app (goodIn_of _ (by decide +kernel)) ggL_law_X5_count
set_option maxRecDepth 20000 in
theorem ggL_law_L_heaviest : GoodIn wsL_law wsL_heaviest := goodIn_ca (goodIn_r _ [582, 80, 583, 584, 585, 2, 586, 87, 88, 29, 16, 194, 195, 196, 28, 197, 58, 198, 199, 200, 201, 202, 203, 204, 205, 206, 106, 107, 15, 108, 39, 40, 41, 42, 207, 208, 209, 55, 91, 92, 161, 162, 210, 211, 212, 213, 214, 56, 215, 216, 217, 218, 225, 226, 227, 228, 229, 230, 231, 232, 233, 234, 43, 708, 709, 710, 711, 712, 713, 714, 715, 716, 743, 744, 745, 746, 747, 748, 727, 728, 729, 730, 731, 732, 733, 734, 735, 736] (by decide +kernel) (by decide +kernel)) (goodIn_sub (fun _ h => List.mem_append_left _ (List.mem_append_right _ h)) (by decide +kernel))
set_option maxRecDepth 20000 in
theorem gL_law_L_heaviest : GoodIn wsL_law (va_wsS RL 134 yL_heaviest wsL_heaviest) := goodIn_app (goodIn_of _ (by decide +kernel)) ggL_law_L_heaviest
set_option maxRecDepth 20000 in
theorem ggL_law_X5_heaviest : GoodIn wsL_law wsX5_heaviest := goodIn_r _ [590, 127, 128, 5, 129, 130, 131, 132, 133, 134, 591, 592, 593, 594, 247, 248, 249, 250, 251, 252, 253, 254, 69, 255, 256, 257, 258, 259, 260, 261, 262, 263, 264, 265, 266, 267, 268, 717, 718, 719, 720, 721, 722, 723, 724, 725, 726] (by decide +kernel) (by decide +kernel)
set_option maxRecDepth 20000 in
theorem gL_law_X5_heaviest : GoodIn wsL_law (wsV RL 136 RX5 yX5_heaviest wsX5_heaviest) := goodIn_app (goodIn_of _ (by decide +kernel)) ggL_law_X5_heaviest
set_option maxRecDepth 20000 in
theorem ggL_law_L_openWay : GoodIn wsL_law wsL_openWay := goodIn_ca (goodIn_r _ [597, 80, 598, 599, 600, 2, 601, 87, 88, 29, 16, 229, 230, 194, 195, 196, 28, 197, 58, 198, 199, 200, 201, 202, 203, 204, 205, 206, 106, 107, 15, 108, 39, 40, 41, 42, 207, 208, 209, 55, 91, 92, 161, 162, 210, 211, 212, 213, 214, 56, 215, 216, 217, 218, 708, 709, 710, 711, 712, 713, 714, 715, 716, 743, 744, 745, 746, 747, 748, 727, 728, 729, 730, 731, 732, 733, 734, 735, 736] (by decide +kernel) (by decide +kernel)) (goodIn_sub (fun _ h => List.mem_append_left _ (List.mem_append_right _ h)) (by decide +kernel))
set_option maxRecDepth 20000 in
theorem gL_law_L_openWay : GoodIn wsL_law (va_wsS RL 137 yL_openWay wsL_openWay) := goodIn_app (goodIn_of _ (by decide +kernel)) ggL_law_L_openWay
set_option maxRecDepth 20000 in
theorem ggL_law_X5_openWay : GoodIn wsL_law wsX5_openWay := goodIn_r _ [605, 130, 131, 132, 5, 133, 134, 606, 607, 608, 609, 251, 252, 253, 254, 69, 255, 256, 257, 258, 263, 264, 265, 266, 267, 268, 717, 718, 719, 720, 721, 722, 723, 724, 725, 726] (by decide +kernel) (by decide +kernel)
set_option maxRecDepth 20000 in
theorem gL_law_X5_openWay : GoodIn wsL_law (wsV RL 139 RX5 yX5_openWay wsX5_openWay) := goodIn_app (goodIn_of _ (by decide +kernel)) ggL_law_X5_openWay
set_option maxRecDepth 20000 in
theorem ggL_law_X4_ifSplit : GoodIn wsL_law wsX4_ifSplit := goodIn_r _ [613, 16, 17, 29, 467, 102, 103, 2, 104, 105, 106, 107, 15, 108, 39, 40, 41, 42, 109, 110, 111, 112, 43, 44, 45, 113, 114, 115, 194, 195, 196, 28, 197, 58, 198, 199, 200, 201, 202, 203, 204, 205, 206, 207, 208, 209, 55, 91, 92, 161, 162, 210, 211, 212, 213, 214, 56, 215, 216, 217, 218, 273, 274, 275, 276, 219, 220, 221, 222, 223, 224, 225, 226, 227, 228, 229, 230, 231, 232, 233, 234, 235, 236, 237, 238, 540, 541, 542, 708, 709, 710, 711, 712, 713, 714, 715, 716, 727, 728, 729, 730, 731, 732, 733, 734, 735, 736, 743, 744, 745, 746, 747, 748] (by decide +kernel) (by decide +kernel)
set_option maxRecDepth 20000 in
theorem gL_law_X4_ifSplit : GoodIn wsL_law (wsV RL 140 RX4 yX4_ifSplit wsX4_ifSplit) := goodIn_app (goodIn_of _ (by decide +kernel)) ggL_law_X4_ifSplit
set_option maxRecDepth 20000 in
theorem ggL_law_X5_ifSplit : GoodIn wsL_law wsX5_ifSplit := goodIn_r _ [617, 134, 618, 619, 620, 5, 621, 622, 623, 624, 625, 70, 69, 281, 282, 283, 284, 243, 244, 245, 246, 247, 248, 249, 250, 251, 252, 253, 254, 255, 256, 257, 258, 259, 260, 261, 262, 263, 264, 265, 266, 267, 268, 572, 573, 574, 575, 626, 627, 628, 629, 717, 718, 719, 720, 721, 722, 723, 724, 725, 726] (by decide +kernel) (by decide +kernel)
set_option maxRecDepth 20000 in
theorem gL_law_X5_ifSplit : GoodIn wsL_law (wsV RL 143 RX5 yX5_ifSplit wsX5_ifSplit) := goodIn_app (goodIn_of _ (by decide +kernel)) ggL_law_X5_ifSplit
set_option maxRecDepth 20000 in
theorem ggL_law_X4_mainPiece : GoodIn wsL_law wsX4_mainPiece := goodIn_r _ [633, 29, 16, 230, 229, 194, 195, 196, 28, 197, 58, 198, 199, 200, 201, 202, 203, 204, 205, 206, 106, 107, 15, 108, 39, 40, 41, 42, 207, 208, 209, 55, 91, 2, 92, 161, 162, 210, 211, 212, 213, 214, 56, 215, 216, 217, 218, 481, 482, 483, 160, 708, 709, 710, 711, 712, 713, 714, 715, 716, 743, 744, 745, 746, 747, 748, 727, 728, 729, 730, 731, 732, 733, 734, 735, 736] (by decide +kernel) (by decide +kernel)
set_option maxRecDepth 20000 in
theorem gL_law_X4_mainPiece : GoodIn wsL_law (wsV RL 144 RX4 yX4_mainPiece wsX4_mainPiece) := goodIn_app (goodIn_of _ (by decide +kernel)) ggL_law_X4_mainPiece
set_option maxRecDepth 20000 in
theorem ggL_law_X5_mainPiece : GoodIn wsL_law wsX5_mainPiece := goodIn_r _ [637, 134, 638, 639, 640, 5, 641, 500, 501, 502, 503, 251, 252, 253, 254, 69, 255, 256, 257, 258, 717, 718, 719, 720, 721, 722, 723, 724, 725, 726] (by decide +kernel) (by decide +kernel)
set_option maxRecDepth 20000 in
theorem gL_law_X5_mainPiece : GoodIn wsL_law (wsV RL 147 RX5 yX5_mainPiece wsX5_mainPiece) := goodIn_app (goodIn_of _ (by decide +kernel)) ggL_law_X5_mainPiece
set_option maxRecDepth 20000 in
theorem ggL_law_X4_explained : GoodIn wsL_law wsX4_explained := goodIn_r _ [645, 16, 89, 467, 540, 541, 2, 542, 708, 709, 710, 711, 712, 713, 714, 715, 716, 727, 728, 729, 730, 731, 732, 733, 734, 735, 736] (by decide +kernel) (by decide +kernel)
set_option maxRecDepth 20000 in
theorem gL_law_X4_explained : GoodIn wsL_law (wsV RL 148 RX4 yX4_explained wsX4_explained) := goodIn_app (goodIn_of _ (by decide +kernel)) ggL_law_X4_explained
set_option maxRecDepth 20000 in
theorem ggL_law_X5_explained : GoodIn wsL_law wsX5_explained := goodIn_r _ [649, 134, 650, 651, 652, 5, 653, 572, 573, 574, 575, 69, 717, 718, 719, 720, 721, 722, 723, 724, 725, 726] (by decide +kernel) (by decide +kernel)
set_option maxRecDepth 20000 in
theorem gL_law_X5_explained : GoodIn wsL_law (wsV RL 152 RX5 yX5_explained wsX5_explained) := goodIn_app (goodIn_of _ (by decide +kernel)) ggL_law_X5_explained
set_option maxRecDepth 20000 in
theorem ggL_law_X4_digest : GoodIn wsL_law wsX4_digest := goodIn_ca (goodIn_ca (goodIn_r _ [657, 658, 16, 223, 21, 659, 536, 537, 2, 538, 87, 88, 89, 467, 29, 470, 229, 33, 539, 224, 97, 398, 399, 400, 15, 401, 41, 402, 403, 404, 405, 406, 407, 408, 540, 541, 542, 543, 544, 545, 28, 546, 59, 199, 204, 161, 162, 194, 195, 196, 197, 58, 198, 200, 201, 202, 203, 205, 206, 106, 107, 108, 39, 40, 42, 207, 208, 209, 55, 91, 92, 210, 211, 212, 213, 214, 56, 215, 216, 217, 218, 476, 477, 478, 32, 479, 63, 480, 547, 548, 549, 550, 64, 551, 552, 553, 554, 555, 556, 557, 558, 559, 560, 561, 562, 563, 660, 661, 662, 663, 664, 665, 666, 667, 668, 464, 465, 466, 85, 86, 34, 159, 468, 469, 185, 90, 471, 472, 473, 474, 475, 481, 482, 483, 160, 669, 508, 509, 510, 670, 519, 520, 521, 522, 523, 671, 584, 585, 586, 225, 226, 227, 228, 230, 231, 232, 233, 234, 43, 672, 599, 600, 601, 673, 611, 612, 613, 17, 102, 103, 104, 105, 109, 110, 111, 112, 44, 45, 113, 114, 115, 273, 274, 275, 276, 219, 220, 221, 222, 235, 236, 237, 238, 674, 631, 632, 633, 675, 643, 644, 645, 676, 677, 678, 679, 680, 681, 682, 683, 684, 685, 25, 303, 304, 708, 709, 710, 711, 712, 713, 714, 715, 716, 727, 728, 729, 730, 731, 732, 733, 734, 735, 736, 743, 744, 745, 746, 747, 748, 749, 750, 751, 737, 738, 739, 740, 741, 742] (by decide +kernel) (by decide +kernel)) (goodIn_sub (fun _ h => List.mem_append_left _ (List.mem_append_right _ h)) (by decide +kernel))) (goodIn_sub (fun _ h => List.mem_append_left _ (List.mem_append_left _ (List.mem_append_right _ h))) (by decide +kernel))
set_option maxRecDepth 20000 in
theorem gL_law_X4_digest : GoodIn wsL_law (wsV RL 153 RX4 yX4_digest wsX4_digest) := goodIn_app (goodIn_of _ (by decide +kernel)) ggL_law_X4_digest
set_option maxRecDepth 20000 in
theorem ggL_law_X5_digest : GoodIn wsL_law wsX5_digest := goodIn_r _ [689, 134, 690, 691, 69, 72, 309, 74, 568, 569, 570, 5, 571, 143, 417, 418, 419, 420, 421, 422, 423, 572, 573, 574, 575, 500, 501, 502, 503, 251, 252, 253, 254, 255, 256, 257, 258, 576, 577, 578, 579, 496, 497, 498, 499, 692, 693, 694, 695, 696, 697, 698, 699, 700, 488, 489, 490, 491, 492, 493, 494, 495, 528, 529, 530, 531, 591, 592, 593, 594, 247, 248, 249, 250, 259, 260, 261, 262, 263, 264, 265, 266, 267, 268, 606, 607, 608, 609, 618, 619, 620, 621, 622, 623, 624, 625, 70, 281, 282, 283, 284, 243, 244, 245, 246, 626, 627, 628, 629, 638, 639, 640, 641, 650, 651, 652, 653, 701, 702, 703, 704, 705, 706, 707, 717, 718, 719, 720, 721, 722, 723, 724, 725, 726] (by decide +kernel) (by decide +kernel)
set_option maxRecDepth 20000 in
theorem gL_law_X5_digest : GoodIn wsL_law (wsV RL 157 RX5 yX5_digest wsX5_digest) := goodIn_app (goodIn_of _ (by decide +kernel)) ggL_law_X5_digest
theorem dL_law_0 : decode cL_law 0 = .ok (.new 8, 3) := by decide +kernel
theorem dL_law_3 : decode cL_law 3 = .ok (.dup, 1) := by decide +kernel
theorem dL_law_4 : decode cL_law 4 = .ok (.invokespecial 63, 3) := by decide +kernel
theorem dL_law_7 : decode cL_law 7 = .ok (.astore_n 1, 1) := by decide +kernel
theorem dL_law_8 : decode cL_law 8 = .ok (.new 64, 3) := by decide +kernel
theorem dL_law_11 : decode cL_law 11 = .ok (.dup, 1) := by decide +kernel
theorem dL_law_12 : decode cL_law 12 = .ok (.invokespecial 66, 3) := by decide +kernel
theorem dL_law_15 : decode cL_law 15 = .ok (.astore_n 2, 1) := by decide +kernel
theorem dL_law_16 : decode cL_law 16 = .ok (.iconst 1, 1) := by decide +kernel
theorem dL_law_17 : decode cL_law 17 = .ok (.newarray .long, 2) := by decide +kernel
theorem dL_law_19 : decode cL_law 19 = .ok (.astore_n 3, 1) := by decide +kernel
theorem dL_law_20 : decode cL_law 20 = .ok (.iconst 0, 1) := by decide +kernel
theorem dL_law_21 : decode cL_law 21 = .ok (.istore 4, 2) := by decide +kernel
theorem dL_law_23 : decode cL_law 23 = .ok (.iload 4, 2) := by decide +kernel
theorem dL_law_25 : decode cL_law 25 = .ok (.aload_n 0, 1) := by decide +kernel
theorem dL_law_26 : decode cL_law 26 = .ok (.arraylength, 1) := by decide +kernel
theorem dL_law_27 : decode cL_law 27 = .ok (.iconst 3, 1) := by decide +kernel
theorem dL_law_28 : decode cL_law 28 = .ok (.isub, 1) := by decide +kernel
theorem dL_law_29 : decode cL_law 29 = .ok (.if_icmp .gt 1171, 3) := by decide +kernel
theorem dL_law_32 : decode cL_law 32 = .ok (.aload_n 0, 1) := by decide +kernel
theorem dL_law_33 : decode cL_law 33 = .ok (.iload 4, 2) := by decide +kernel
theorem dL_law_35 : decode cL_law 35 = .ok (.iaload, 1) := by decide +kernel
theorem dL_law_36 : decode cL_law 36 = .ok (.bipush 31, 2) := by decide +kernel
theorem dL_law_38 : decode cL_law 38 = .ok (.iand, 1) := by decide +kernel
theorem dL_law_39 : decode cL_law 39 = .ok (.tableswitch 1155 0 23 #[109, 177, 245, 313, 381, 394, 407, 420, 476, 489, 502, 546, 602, 658, 702, 770, 838, 906, 962, 1018, 1074, 1087, 1100, 1141], 109) := by decide +kernel
theorem dL_law_148 : decode cL_law 148 = .ok (.aload_n 1, 1) := by decide +kernel
theorem dL_law_149 : decode cL_law 149 = .ok (.aload_n 0, 1) := by decide +kernel
theorem dL_law_150 : decode cL_law 150 = .ok (.iload 4, 2) := by decide +kernel
theorem dL_law_152 : decode cL_law 152 = .ok (.iconst 1, 1) := by decide +kernel
theorem dL_law_153 : decode cL_law 153 = .ok (.iadd, 1) := by decide +kernel
theorem dL_law_154 : decode cL_law 154 = .ok (.iaload, 1) := by decide +kernel
theorem dL_law_155 : decode cL_law 155 = .ok (.aload_n 0, 1) := by decide +kernel
theorem dL_law_156 : decode cL_law 156 = .ok (.iload 4, 2) := by decide +kernel
theorem dL_law_158 : decode cL_law 158 = .ok (.iconst 2, 1) := by decide +kernel
theorem dL_law_159 : decode cL_law 159 = .ok (.iadd, 1) := by decide +kernel
theorem dL_law_160 : decode cL_law 160 = .ok (.iaload, 1) := by decide +kernel
theorem dL_law_161 : decode cL_law 161 = .ok (.aload_n 3, 1) := by decide +kernel
theorem dL_law_162 : decode cL_law 162 = .ok (.invokestatic 67, 3) := by decide +kernel
theorem dL_law_165 : decode cL_law 165 = .ok (.istore 5, 2) := by decide +kernel
theorem dL_law_167 : decode cL_law 167 = .ok (.aload_n 2, 1) := by decide +kernel
theorem dL_law_168 : decode cL_law 168 = .ok (.aload_n 0, 1) := by decide +kernel
theorem dL_law_169 : decode cL_law 169 = .ok (.iload 4, 2) := by decide +kernel
theorem dL_law_171 : decode cL_law 171 = .ok (.iconst 1, 1) := by decide +kernel
theorem dL_law_172 : decode cL_law 172 = .ok (.iadd, 1) := by decide +kernel
theorem dL_law_173 : decode cL_law 173 = .ok (.iaload, 1) := by decide +kernel
theorem dL_law_174 : decode cL_law 174 = .ok (.aload_n 0, 1) := by decide +kernel
theorem dL_law_175 : decode cL_law 175 = .ok (.iload 4, 2) := by decide +kernel
theorem dL_law_177 : decode cL_law 177 = .ok (.iconst 2, 1) := by decide +kernel
theorem dL_law_178 : decode cL_law 178 = .ok (.iadd, 1) := by decide +kernel
theorem dL_law_179 : decode cL_law 179 = .ok (.iaload, 1) := by decide +kernel
theorem dL_law_180 : decode cL_law 180 = .ok (.invokevirtual 72, 3) := by decide +kernel
theorem dL_law_183 : decode cL_law 183 = .ok (.istore 6, 2) := by decide +kernel
theorem dL_law_185 : decode cL_law 185 = .ok (.aload_n 2, 1) := by decide +kernel
theorem dL_law_186 : decode cL_law 186 = .ok (.invokevirtual 73, 3) := by decide +kernel
theorem dL_law_189 : decode cL_law 189 = .ok (.iload 5, 2) := by decide +kernel
theorem dL_law_191 : decode cL_law 191 = .ok (.if_icmp .eq 5, 3) := by decide +kernel
theorem dL_law_194 : decode cL_law 194 = .ok (.iconst 0, 1) := by decide +kernel
theorem dL_law_195 : decode cL_law 195 = .ok (.ireturn, 1) := by decide +kernel
theorem dL_law_196 : decode cL_law 196 = .ok (.iload 5, 2) := by decide +kernel
theorem dL_law_198 : decode cL_law 198 = .ok (.ifCond .ne 15, 3) := by decide +kernel
theorem dL_law_201 : decode cL_law 201 = .ok (.aload_n 3, 1) := by decide +kernel
theorem dL_law_202 : decode cL_law 202 = .ok (.iconst 0, 1) := by decide +kernel
theorem dL_law_203 : decode cL_law 203 = .ok (.laload, 1) := by decide +kernel
theorem dL_law_204 : decode cL_law 204 = .ok (.iload 6, 2) := by decide +kernel
theorem dL_law_206 : decode cL_law 206 = .ok (.i2l, 1) := by decide +kernel
theorem dL_law_207 : decode cL_law 207 = .ok (.lcmp, 1) := by decide +kernel
theorem dL_law_208 : decode cL_law 208 = .ok (.ifCond .eq 5, 3) := by decide +kernel
theorem dL_law_211 : decode cL_law 211 = .ok (.iconst 0, 1) := by decide +kernel
theorem dL_law_212 : decode cL_law 212 = .ok (.ireturn, 1) := by decide +kernel
theorem dL_law_213 : decode cL_law 213 = .ok (.goto 981, 3) := by decide +kernel
theorem dL_law_216 : decode cL_law 216 = .ok (.aload_n 1, 1) := by decide +kernel
theorem dL_law_217 : decode cL_law 217 = .ok (.aload_n 0, 1) := by decide +kernel
theorem dL_law_218 : decode cL_law 218 = .ok (.iload 4, 2) := by decide +kernel
theorem dL_law_220 : decode cL_law 220 = .ok (.iconst 1, 1) := by decide +kernel
theorem dL_law_221 : decode cL_law 221 = .ok (.iadd, 1) := by decide +kernel
theorem dL_law_222 : decode cL_law 222 = .ok (.iaload, 1) := by decide +kernel
theorem dL_law_223 : decode cL_law 223 = .ok (.aload_n 0, 1) := by decide +kernel
theorem dL_law_224 : decode cL_law 224 = .ok (.iload 4, 2) := by decide +kernel
theorem dL_law_226 : decode cL_law 226 = .ok (.iconst 2, 1) := by decide +kernel
theorem dL_law_227 : decode cL_law 227 = .ok (.iadd, 1) := by decide +kernel
theorem dL_law_228 : decode cL_law 228 = .ok (.iaload, 1) := by decide +kernel
theorem dL_law_229 : decode cL_law 229 = .ok (.aload_n 3, 1) := by decide +kernel
theorem dL_law_230 : decode cL_law 230 = .ok (.invokestatic 76, 3) := by decide +kernel
theorem dL_law_233 : decode cL_law 233 = .ok (.istore 5, 2) := by decide +kernel
theorem dL_law_235 : decode cL_law 235 = .ok (.aload_n 2, 1) := by decide +kernel
theorem dL_law_236 : decode cL_law 236 = .ok (.aload_n 0, 1) := by decide +kernel
theorem dL_law_237 : decode cL_law 237 = .ok (.iload 4, 2) := by decide +kernel
theorem dL_law_239 : decode cL_law 239 = .ok (.iconst 1, 1) := by decide +kernel
theorem dL_law_240 : decode cL_law 240 = .ok (.iadd, 1) := by decide +kernel
theorem dL_law_241 : decode cL_law 241 = .ok (.iaload, 1) := by decide +kernel
theorem dL_law_242 : decode cL_law 242 = .ok (.aload_n 0, 1) := by decide +kernel
theorem dL_law_243 : decode cL_law 243 = .ok (.iload 4, 2) := by decide +kernel
theorem dL_law_245 : decode cL_law 245 = .ok (.iconst 2, 1) := by decide +kernel
theorem dL_law_246 : decode cL_law 246 = .ok (.iadd, 1) := by decide +kernel
theorem dL_law_247 : decode cL_law 247 = .ok (.iaload, 1) := by decide +kernel
theorem dL_law_248 : decode cL_law 248 = .ok (.invokevirtual 78, 3) := by decide +kernel
theorem dL_law_251 : decode cL_law 251 = .ok (.istore 6, 2) := by decide +kernel
theorem dL_law_253 : decode cL_law 253 = .ok (.aload_n 2, 1) := by decide +kernel
theorem dL_law_254 : decode cL_law 254 = .ok (.invokevirtual 73, 3) := by decide +kernel
theorem dL_law_257 : decode cL_law 257 = .ok (.iload 5, 2) := by decide +kernel
theorem dL_law_259 : decode cL_law 259 = .ok (.if_icmp .eq 5, 3) := by decide +kernel
theorem dL_law_262 : decode cL_law 262 = .ok (.iconst 0, 1) := by decide +kernel
theorem dL_law_263 : decode cL_law 263 = .ok (.ireturn, 1) := by decide +kernel
theorem dL_law_264 : decode cL_law 264 = .ok (.iload 5, 2) := by decide +kernel
theorem dL_law_266 : decode cL_law 266 = .ok (.ifCond .ne 15, 3) := by decide +kernel
theorem dL_law_269 : decode cL_law 269 = .ok (.aload_n 3, 1) := by decide +kernel
theorem dL_law_270 : decode cL_law 270 = .ok (.iconst 0, 1) := by decide +kernel
theorem dL_law_271 : decode cL_law 271 = .ok (.laload, 1) := by decide +kernel
theorem dL_law_272 : decode cL_law 272 = .ok (.iload 6, 2) := by decide +kernel
theorem dL_law_274 : decode cL_law 274 = .ok (.i2l, 1) := by decide +kernel
theorem dL_law_275 : decode cL_law 275 = .ok (.lcmp, 1) := by decide +kernel
theorem dL_law_276 : decode cL_law 276 = .ok (.ifCond .eq 5, 3) := by decide +kernel
theorem dL_law_279 : decode cL_law 279 = .ok (.iconst 0, 1) := by decide +kernel
theorem dL_law_280 : decode cL_law 280 = .ok (.ireturn, 1) := by decide +kernel
theorem dL_law_281 : decode cL_law 281 = .ok (.goto 913, 3) := by decide +kernel
theorem dL_law_284 : decode cL_law 284 = .ok (.aload_n 1, 1) := by decide +kernel
theorem dL_law_285 : decode cL_law 285 = .ok (.aload_n 0, 1) := by decide +kernel
theorem dL_law_286 : decode cL_law 286 = .ok (.iload 4, 2) := by decide +kernel
theorem dL_law_288 : decode cL_law 288 = .ok (.iconst 1, 1) := by decide +kernel
theorem dL_law_289 : decode cL_law 289 = .ok (.iadd, 1) := by decide +kernel
theorem dL_law_290 : decode cL_law 290 = .ok (.iaload, 1) := by decide +kernel
theorem dL_law_291 : decode cL_law 291 = .ok (.aload_n 0, 1) := by decide +kernel
theorem dL_law_292 : decode cL_law 292 = .ok (.iload 4, 2) := by decide +kernel
theorem dL_law_294 : decode cL_law 294 = .ok (.iconst 2, 1) := by decide +kernel
theorem dL_law_295 : decode cL_law 295 = .ok (.iadd, 1) := by decide +kernel
theorem dL_law_296 : decode cL_law 296 = .ok (.iaload, 1) := by decide +kernel
theorem dL_law_297 : decode cL_law 297 = .ok (.aload_n 3, 1) := by decide +kernel
theorem dL_law_298 : decode cL_law 298 = .ok (.invokestatic 79, 3) := by decide +kernel
theorem dL_law_301 : decode cL_law 301 = .ok (.istore 5, 2) := by decide +kernel
theorem dL_law_303 : decode cL_law 303 = .ok (.aload_n 2, 1) := by decide +kernel
theorem dL_law_304 : decode cL_law 304 = .ok (.aload_n 0, 1) := by decide +kernel
theorem dL_law_305 : decode cL_law 305 = .ok (.iload 4, 2) := by decide +kernel
theorem dL_law_307 : decode cL_law 307 = .ok (.iconst 1, 1) := by decide +kernel
theorem dL_law_308 : decode cL_law 308 = .ok (.iadd, 1) := by decide +kernel
theorem dL_law_309 : decode cL_law 309 = .ok (.iaload, 1) := by decide +kernel
theorem dL_law_310 : decode cL_law 310 = .ok (.aload_n 0, 1) := by decide +kernel
theorem dL_law_311 : decode cL_law 311 = .ok (.iload 4, 2) := by decide +kernel
theorem dL_law_313 : decode cL_law 313 = .ok (.iconst 2, 1) := by decide +kernel
theorem dL_law_314 : decode cL_law 314 = .ok (.iadd, 1) := by decide +kernel
theorem dL_law_315 : decode cL_law 315 = .ok (.iaload, 1) := by decide +kernel
theorem dL_law_316 : decode cL_law 316 = .ok (.invokevirtual 81, 3) := by decide +kernel
theorem dL_law_319 : decode cL_law 319 = .ok (.istore 6, 2) := by decide +kernel
theorem dL_law_321 : decode cL_law 321 = .ok (.aload_n 2, 1) := by decide +kernel
theorem dL_law_322 : decode cL_law 322 = .ok (.invokevirtual 73, 3) := by decide +kernel
theorem dL_law_325 : decode cL_law 325 = .ok (.iload 5, 2) := by decide +kernel
theorem dL_law_327 : decode cL_law 327 = .ok (.if_icmp .eq 5, 3) := by decide +kernel
theorem dL_law_330 : decode cL_law 330 = .ok (.iconst 0, 1) := by decide +kernel
theorem dL_law_331 : decode cL_law 331 = .ok (.ireturn, 1) := by decide +kernel
theorem dL_law_332 : decode cL_law 332 = .ok (.iload 5, 2) := by decide +kernel
theorem dL_law_334 : decode cL_law 334 = .ok (.ifCond .ne 15, 3) := by decide +kernel
theorem dL_law_337 : decode cL_law 337 = .ok (.aload_n 3, 1) := by decide +kernel
theorem dL_law_338 : decode cL_law 338 = .ok (.iconst 0, 1) := by decide +kernel
theorem dL_law_339 : decode cL_law 339 = .ok (.laload, 1) := by decide +kernel
theorem dL_law_340 : decode cL_law 340 = .ok (.iload 6, 2) := by decide +kernel
theorem dL_law_342 : decode cL_law 342 = .ok (.i2l, 1) := by decide +kernel
theorem dL_law_343 : decode cL_law 343 = .ok (.lcmp, 1) := by decide +kernel
theorem dL_law_344 : decode cL_law 344 = .ok (.ifCond .eq 5, 3) := by decide +kernel
theorem dL_law_347 : decode cL_law 347 = .ok (.iconst 0, 1) := by decide +kernel
theorem dL_law_348 : decode cL_law 348 = .ok (.ireturn, 1) := by decide +kernel
theorem dL_law_349 : decode cL_law 349 = .ok (.goto 845, 3) := by decide +kernel
theorem dL_law_352 : decode cL_law 352 = .ok (.aload_n 1, 1) := by decide +kernel
theorem dL_law_353 : decode cL_law 353 = .ok (.aload_n 0, 1) := by decide +kernel
theorem dL_law_354 : decode cL_law 354 = .ok (.iload 4, 2) := by decide +kernel
theorem dL_law_356 : decode cL_law 356 = .ok (.iconst 1, 1) := by decide +kernel
theorem dL_law_357 : decode cL_law 357 = .ok (.iadd, 1) := by decide +kernel
theorem dL_law_358 : decode cL_law 358 = .ok (.iaload, 1) := by decide +kernel
theorem dL_law_359 : decode cL_law 359 = .ok (.aload_n 0, 1) := by decide +kernel
theorem dL_law_360 : decode cL_law 360 = .ok (.iload 4, 2) := by decide +kernel
theorem dL_law_362 : decode cL_law 362 = .ok (.iconst 2, 1) := by decide +kernel
theorem dL_law_363 : decode cL_law 363 = .ok (.iadd, 1) := by decide +kernel
theorem dL_law_364 : decode cL_law 364 = .ok (.iaload, 1) := by decide +kernel
theorem dL_law_365 : decode cL_law 365 = .ok (.aload_n 3, 1) := by decide +kernel
theorem dL_law_366 : decode cL_law 366 = .ok (.invokestatic 82, 3) := by decide +kernel
theorem dL_law_369 : decode cL_law 369 = .ok (.istore 5, 2) := by decide +kernel
theorem dL_law_371 : decode cL_law 371 = .ok (.aload_n 2, 1) := by decide +kernel
theorem dL_law_372 : decode cL_law 372 = .ok (.aload_n 0, 1) := by decide +kernel
theorem dL_law_373 : decode cL_law 373 = .ok (.iload 4, 2) := by decide +kernel
theorem dL_law_375 : decode cL_law 375 = .ok (.iconst 1, 1) := by decide +kernel
theorem dL_law_376 : decode cL_law 376 = .ok (.iadd, 1) := by decide +kernel
theorem dL_law_377 : decode cL_law 377 = .ok (.iaload, 1) := by decide +kernel
theorem dL_law_378 : decode cL_law 378 = .ok (.aload_n 0, 1) := by decide +kernel
theorem dL_law_379 : decode cL_law 379 = .ok (.iload 4, 2) := by decide +kernel
theorem dL_law_381 : decode cL_law 381 = .ok (.iconst 2, 1) := by decide +kernel
theorem dL_law_382 : decode cL_law 382 = .ok (.iadd, 1) := by decide +kernel
theorem dL_law_383 : decode cL_law 383 = .ok (.iaload, 1) := by decide +kernel
theorem dL_law_384 : decode cL_law 384 = .ok (.invokevirtual 84, 3) := by decide +kernel
theorem dL_law_387 : decode cL_law 387 = .ok (.istore 6, 2) := by decide +kernel
theorem dL_law_389 : decode cL_law 389 = .ok (.aload_n 2, 1) := by decide +kernel
theorem dL_law_390 : decode cL_law 390 = .ok (.invokevirtual 73, 3) := by decide +kernel
theorem dL_law_393 : decode cL_law 393 = .ok (.iload 5, 2) := by decide +kernel
theorem dL_law_395 : decode cL_law 395 = .ok (.if_icmp .eq 5, 3) := by decide +kernel
theorem dL_law_398 : decode cL_law 398 = .ok (.iconst 0, 1) := by decide +kernel
theorem dL_law_399 : decode cL_law 399 = .ok (.ireturn, 1) := by decide +kernel
theorem dL_law_400 : decode cL_law 400 = .ok (.iload 5, 2) := by decide +kernel
theorem dL_law_402 : decode cL_law 402 = .ok (.ifCond .ne 15, 3) := by decide +kernel
theorem dL_law_405 : decode cL_law 405 = .ok (.aload_n 3, 1) := by decide +kernel
theorem dL_law_406 : decode cL_law 406 = .ok (.iconst 0, 1) := by decide +kernel
theorem dL_law_407 : decode cL_law 407 = .ok (.laload, 1) := by decide +kernel
theorem dL_law_408 : decode cL_law 408 = .ok (.iload 6, 2) := by decide +kernel
theorem dL_law_410 : decode cL_law 410 = .ok (.i2l, 1) := by decide +kernel
theorem dL_law_411 : decode cL_law 411 = .ok (.lcmp, 1) := by decide +kernel
theorem dL_law_412 : decode cL_law 412 = .ok (.ifCond .eq 5, 3) := by decide +kernel
theorem dL_law_415 : decode cL_law 415 = .ok (.iconst 0, 1) := by decide +kernel
theorem dL_law_416 : decode cL_law 416 = .ok (.ireturn, 1) := by decide +kernel
theorem dL_law_417 : decode cL_law 417 = .ok (.goto 777, 3) := by decide +kernel
theorem dL_law_420 : decode cL_law 420 = .ok (.aload_n 1, 1) := by decide +kernel
theorem dL_law_421 : decode cL_law 421 = .ok (.invokevirtual 85, 3) := by decide +kernel
theorem dL_law_424 : decode cL_law 424 = .ok (.aload_n 2, 1) := by decide +kernel
theorem dL_law_425 : decode cL_law 425 = .ok (.invokevirtual 88, 3) := by decide +kernel
theorem dL_law_428 : decode cL_law 428 = .ok (.if_icmp .eq 766, 3) := by decide +kernel
theorem dL_law_431 : decode cL_law 431 = .ok (.iconst 0, 1) := by decide +kernel
theorem dL_law_432 : decode cL_law 432 = .ok (.ireturn, 1) := by decide +kernel
theorem dL_law_433 : decode cL_law 433 = .ok (.aload_n 1, 1) := by decide +kernel
theorem dL_law_434 : decode cL_law 434 = .ok (.invokevirtual 89, 3) := by decide +kernel
theorem dL_law_437 : decode cL_law 437 = .ok (.aload_n 2, 1) := by decide +kernel
theorem dL_law_438 : decode cL_law 438 = .ok (.invokevirtual 92, 3) := by decide +kernel
theorem dL_law_441 : decode cL_law 441 = .ok (.if_icmp .eq 753, 3) := by decide +kernel
theorem dL_law_444 : decode cL_law 444 = .ok (.iconst 0, 1) := by decide +kernel
theorem dL_law_445 : decode cL_law 445 = .ok (.ireturn, 1) := by decide +kernel
theorem dL_law_446 : decode cL_law 446 = .ok (.aload_n 1, 1) := by decide +kernel
theorem dL_law_447 : decode cL_law 447 = .ok (.invokevirtual 93, 3) := by decide +kernel
theorem dL_law_450 : decode cL_law 450 = .ok (.aload_n 2, 1) := by decide +kernel
theorem dL_law_451 : decode cL_law 451 = .ok (.invokevirtual 96, 3) := by decide +kernel
theorem dL_law_454 : decode cL_law 454 = .ok (.if_icmp .eq 740, 3) := by decide +kernel
theorem dL_law_457 : decode cL_law 457 = .ok (.iconst 0, 1) := by decide +kernel
theorem dL_law_458 : decode cL_law 458 = .ok (.ireturn, 1) := by decide +kernel
theorem dL_law_459 : decode cL_law 459 = .ok (.aload_n 1, 1) := by decide +kernel
theorem dL_law_460 : decode cL_law 460 = .ok (.aload_n 0, 1) := by decide +kernel
theorem dL_law_461 : decode cL_law 461 = .ok (.iload 4, 2) := by decide +kernel
theorem dL_law_463 : decode cL_law 463 = .ok (.iconst 1, 1) := by decide +kernel
theorem dL_law_464 : decode cL_law 464 = .ok (.iadd, 1) := by decide +kernel
theorem dL_law_465 : decode cL_law 465 = .ok (.iaload, 1) := by decide +kernel
theorem dL_law_466 : decode cL_law 466 = .ok (.aload_n 3, 1) := by decide +kernel
theorem dL_law_467 : decode cL_law 467 = .ok (.invokestatic 97, 3) := by decide +kernel
theorem dL_law_470 : decode cL_law 470 = .ok (.istore 5, 2) := by decide +kernel
theorem dL_law_472 : decode cL_law 472 = .ok (.aload_n 2, 1) := by decide +kernel
theorem dL_law_473 : decode cL_law 473 = .ok (.aload_n 0, 1) := by decide +kernel
theorem dL_law_474 : decode cL_law 474 = .ok (.iload 4, 2) := by decide +kernel
theorem dL_law_476 : decode cL_law 476 = .ok (.iconst 1, 1) := by decide +kernel
theorem dL_law_477 : decode cL_law 477 = .ok (.iadd, 1) := by decide +kernel
theorem dL_law_478 : decode cL_law 478 = .ok (.iaload, 1) := by decide +kernel
theorem dL_law_479 : decode cL_law 479 = .ok (.invokevirtual 100, 3) := by decide +kernel
theorem dL_law_482 : decode cL_law 482 = .ok (.istore 6, 2) := by decide +kernel
theorem dL_law_484 : decode cL_law 484 = .ok (.aload_n 2, 1) := by decide +kernel
theorem dL_law_485 : decode cL_law 485 = .ok (.invokevirtual 73, 3) := by decide +kernel
theorem dL_law_488 : decode cL_law 488 = .ok (.iload 5, 2) := by decide +kernel
theorem dL_law_490 : decode cL_law 490 = .ok (.if_icmp .eq 5, 3) := by decide +kernel
theorem dL_law_493 : decode cL_law 493 = .ok (.iconst 0, 1) := by decide +kernel
theorem dL_law_494 : decode cL_law 494 = .ok (.ireturn, 1) := by decide +kernel
theorem dL_law_495 : decode cL_law 495 = .ok (.iload 5, 2) := by decide +kernel
theorem dL_law_497 : decode cL_law 497 = .ok (.ifCond .ne 15, 3) := by decide +kernel
theorem dL_law_500 : decode cL_law 500 = .ok (.aload_n 3, 1) := by decide +kernel
theorem dL_law_501 : decode cL_law 501 = .ok (.iconst 0, 1) := by decide +kernel
theorem dL_law_502 : decode cL_law 502 = .ok (.laload, 1) := by decide +kernel
theorem dL_law_503 : decode cL_law 503 = .ok (.iload 6, 2) := by decide +kernel
theorem dL_law_505 : decode cL_law 505 = .ok (.i2l, 1) := by decide +kernel
theorem dL_law_506 : decode cL_law 506 = .ok (.lcmp, 1) := by decide +kernel
theorem dL_law_507 : decode cL_law 507 = .ok (.ifCond .eq 5, 3) := by decide +kernel
theorem dL_law_510 : decode cL_law 510 = .ok (.iconst 0, 1) := by decide +kernel
theorem dL_law_511 : decode cL_law 511 = .ok (.ireturn, 1) := by decide +kernel
theorem dL_law_512 : decode cL_law 512 = .ok (.goto 682, 3) := by decide +kernel
theorem dL_law_515 : decode cL_law 515 = .ok (.aload_n 1, 1) := by decide +kernel
theorem dL_law_516 : decode cL_law 516 = .ok (.invokevirtual 101, 3) := by decide +kernel
theorem dL_law_519 : decode cL_law 519 = .ok (.aload_n 2, 1) := by decide +kernel
theorem dL_law_520 : decode cL_law 520 = .ok (.invokevirtual 104, 3) := by decide +kernel
theorem dL_law_523 : decode cL_law 523 = .ok (.if_icmp .eq 671, 3) := by decide +kernel
theorem dL_law_526 : decode cL_law 526 = .ok (.iconst 0, 1) := by decide +kernel
theorem dL_law_527 : decode cL_law 527 = .ok (.ireturn, 1) := by decide +kernel
theorem dL_law_528 : decode cL_law 528 = .ok (.aload_n 1, 1) := by decide +kernel
theorem dL_law_529 : decode cL_law 529 = .ok (.invokevirtual 105, 3) := by decide +kernel
theorem dL_law_532 : decode cL_law 532 = .ok (.aload_n 2, 1) := by decide +kernel
theorem dL_law_533 : decode cL_law 533 = .ok (.invokevirtual 108, 3) := by decide +kernel
theorem dL_law_536 : decode cL_law 536 = .ok (.if_icmp .eq 658, 3) := by decide +kernel
theorem dL_law_539 : decode cL_law 539 = .ok (.iconst 0, 1) := by decide +kernel
theorem dL_law_540 : decode cL_law 540 = .ok (.ireturn, 1) := by decide +kernel
theorem dL_law_541 : decode cL_law 541 = .ok (.aload_n 1, 1) := by decide +kernel
theorem dL_law_542 : decode cL_law 542 = .ok (.aload_n 3, 1) := by decide +kernel
theorem dL_law_543 : decode cL_law 543 = .ok (.invokestatic 109, 3) := by decide +kernel
theorem dL_law_546 : decode cL_law 546 = .ok (.istore 5, 2) := by decide +kernel
theorem dL_law_548 : decode cL_law 548 = .ok (.aload_n 2, 1) := by decide +kernel
theorem dL_law_549 : decode cL_law 549 = .ok (.invokevirtual 112, 3) := by decide +kernel
theorem dL_law_552 : decode cL_law 552 = .ok (.istore 6, 2) := by decide +kernel
theorem dL_law_554 : decode cL_law 554 = .ok (.aload_n 2, 1) := by decide +kernel
theorem dL_law_555 : decode cL_law 555 = .ok (.invokevirtual 73, 3) := by decide +kernel
theorem dL_law_558 : decode cL_law 558 = .ok (.iload 5, 2) := by decide +kernel
theorem dL_law_560 : decode cL_law 560 = .ok (.if_icmp .eq 5, 3) := by decide +kernel
theorem dL_law_563 : decode cL_law 563 = .ok (.iconst 0, 1) := by decide +kernel
theorem dL_law_564 : decode cL_law 564 = .ok (.ireturn, 1) := by decide +kernel
theorem dL_law_565 : decode cL_law 565 = .ok (.iload 5, 2) := by decide +kernel
theorem dL_law_567 : decode cL_law 567 = .ok (.ifCond .ne 15, 3) := by decide +kernel
theorem dL_law_570 : decode cL_law 570 = .ok (.aload_n 3, 1) := by decide +kernel
theorem dL_law_571 : decode cL_law 571 = .ok (.iconst 0, 1) := by decide +kernel
theorem dL_law_572 : decode cL_law 572 = .ok (.laload, 1) := by decide +kernel
theorem dL_law_573 : decode cL_law 573 = .ok (.iload 6, 2) := by decide +kernel
theorem dL_law_575 : decode cL_law 575 = .ok (.i2l, 1) := by decide +kernel
theorem dL_law_576 : decode cL_law 576 = .ok (.lcmp, 1) := by decide +kernel
theorem dL_law_577 : decode cL_law 577 = .ok (.ifCond .eq 5, 3) := by decide +kernel
theorem dL_law_580 : decode cL_law 580 = .ok (.iconst 0, 1) := by decide +kernel
theorem dL_law_581 : decode cL_law 581 = .ok (.ireturn, 1) := by decide +kernel
theorem dL_law_582 : decode cL_law 582 = .ok (.goto 612, 3) := by decide +kernel
theorem dL_law_585 : decode cL_law 585 = .ok (.aload_n 1, 1) := by decide +kernel
theorem dL_law_586 : decode cL_law 586 = .ok (.aload_n 0, 1) := by decide +kernel
theorem dL_law_587 : decode cL_law 587 = .ok (.iload 4, 2) := by decide +kernel
theorem dL_law_589 : decode cL_law 589 = .ok (.iconst 1, 1) := by decide +kernel
theorem dL_law_590 : decode cL_law 590 = .ok (.iadd, 1) := by decide +kernel
theorem dL_law_591 : decode cL_law 591 = .ok (.iaload, 1) := by decide +kernel
theorem dL_law_592 : decode cL_law 592 = .ok (.aload_n 3, 1) := by decide +kernel
theorem dL_law_593 : decode cL_law 593 = .ok (.invokestatic 113, 3) := by decide +kernel
theorem dL_law_596 : decode cL_law 596 = .ok (.istore 5, 2) := by decide +kernel
theorem dL_law_598 : decode cL_law 598 = .ok (.aload_n 2, 1) := by decide +kernel
theorem dL_law_599 : decode cL_law 599 = .ok (.aload_n 0, 1) := by decide +kernel
theorem dL_law_600 : decode cL_law 600 = .ok (.iload 4, 2) := by decide +kernel
theorem dL_law_602 : decode cL_law 602 = .ok (.iconst 1, 1) := by decide +kernel
theorem dL_law_603 : decode cL_law 603 = .ok (.iadd, 1) := by decide +kernel
theorem dL_law_604 : decode cL_law 604 = .ok (.iaload, 1) := by decide +kernel
theorem dL_law_605 : decode cL_law 605 = .ok (.invokevirtual 115, 3) := by decide +kernel
theorem dL_law_608 : decode cL_law 608 = .ok (.istore 6, 2) := by decide +kernel
theorem dL_law_610 : decode cL_law 610 = .ok (.aload_n 2, 1) := by decide +kernel
theorem dL_law_611 : decode cL_law 611 = .ok (.invokevirtual 73, 3) := by decide +kernel
theorem dL_law_614 : decode cL_law 614 = .ok (.iload 5, 2) := by decide +kernel
theorem dL_law_616 : decode cL_law 616 = .ok (.if_icmp .eq 5, 3) := by decide +kernel
theorem dL_law_619 : decode cL_law 619 = .ok (.iconst 0, 1) := by decide +kernel
theorem dL_law_620 : decode cL_law 620 = .ok (.ireturn, 1) := by decide +kernel
theorem dL_law_621 : decode cL_law 621 = .ok (.iload 5, 2) := by decide +kernel
theorem dL_law_623 : decode cL_law 623 = .ok (.ifCond .ne 15, 3) := by decide +kernel
theorem dL_law_626 : decode cL_law 626 = .ok (.aload_n 3, 1) := by decide +kernel
theorem dL_law_627 : decode cL_law 627 = .ok (.iconst 0, 1) := by decide +kernel
theorem dL_law_628 : decode cL_law 628 = .ok (.laload, 1) := by decide +kernel
theorem dL_law_629 : decode cL_law 629 = .ok (.iload 6, 2) := by decide +kernel
theorem dL_law_631 : decode cL_law 631 = .ok (.i2l, 1) := by decide +kernel
theorem dL_law_632 : decode cL_law 632 = .ok (.lcmp, 1) := by decide +kernel
theorem dL_law_633 : decode cL_law 633 = .ok (.ifCond .eq 5, 3) := by decide +kernel
theorem dL_law_636 : decode cL_law 636 = .ok (.iconst 0, 1) := by decide +kernel
theorem dL_law_637 : decode cL_law 637 = .ok (.ireturn, 1) := by decide +kernel
theorem dL_law_638 : decode cL_law 638 = .ok (.goto 556, 3) := by decide +kernel
theorem dL_law_641 : decode cL_law 641 = .ok (.aload_n 1, 1) := by decide +kernel
theorem dL_law_642 : decode cL_law 642 = .ok (.aload_n 0, 1) := by decide +kernel
theorem dL_law_643 : decode cL_law 643 = .ok (.iload 4, 2) := by decide +kernel
theorem dL_law_645 : decode cL_law 645 = .ok (.iconst 1, 1) := by decide +kernel
theorem dL_law_646 : decode cL_law 646 = .ok (.iadd, 1) := by decide +kernel
theorem dL_law_647 : decode cL_law 647 = .ok (.iaload, 1) := by decide +kernel
theorem dL_law_648 : decode cL_law 648 = .ok (.aload_n 3, 1) := by decide +kernel
theorem dL_law_649 : decode cL_law 649 = .ok (.invokestatic 116, 3) := by decide +kernel
theorem dL_law_652 : decode cL_law 652 = .ok (.istore 5, 2) := by decide +kernel
theorem dL_law_654 : decode cL_law 654 = .ok (.aload_n 2, 1) := by decide +kernel
theorem dL_law_655 : decode cL_law 655 = .ok (.aload_n 0, 1) := by decide +kernel
theorem dL_law_656 : decode cL_law 656 = .ok (.iload 4, 2) := by decide +kernel
theorem dL_law_658 : decode cL_law 658 = .ok (.iconst 1, 1) := by decide +kernel
theorem dL_law_659 : decode cL_law 659 = .ok (.iadd, 1) := by decide +kernel
theorem dL_law_660 : decode cL_law 660 = .ok (.iaload, 1) := by decide +kernel
theorem dL_law_661 : decode cL_law 661 = .ok (.invokevirtual 118, 3) := by decide +kernel
theorem dL_law_664 : decode cL_law 664 = .ok (.istore 6, 2) := by decide +kernel
theorem dL_law_666 : decode cL_law 666 = .ok (.aload_n 2, 1) := by decide +kernel
theorem dL_law_667 : decode cL_law 667 = .ok (.invokevirtual 73, 3) := by decide +kernel
theorem dL_law_670 : decode cL_law 670 = .ok (.iload 5, 2) := by decide +kernel
theorem dL_law_672 : decode cL_law 672 = .ok (.if_icmp .eq 5, 3) := by decide +kernel
theorem dL_law_675 : decode cL_law 675 = .ok (.iconst 0, 1) := by decide +kernel
theorem dL_law_676 : decode cL_law 676 = .ok (.ireturn, 1) := by decide +kernel
theorem dL_law_677 : decode cL_law 677 = .ok (.iload 5, 2) := by decide +kernel
theorem dL_law_679 : decode cL_law 679 = .ok (.ifCond .ne 15, 3) := by decide +kernel
theorem dL_law_682 : decode cL_law 682 = .ok (.aload_n 3, 1) := by decide +kernel
theorem dL_law_683 : decode cL_law 683 = .ok (.iconst 0, 1) := by decide +kernel
theorem dL_law_684 : decode cL_law 684 = .ok (.laload, 1) := by decide +kernel
theorem dL_law_685 : decode cL_law 685 = .ok (.iload 6, 2) := by decide +kernel
theorem dL_law_687 : decode cL_law 687 = .ok (.i2l, 1) := by decide +kernel
theorem dL_law_688 : decode cL_law 688 = .ok (.lcmp, 1) := by decide +kernel
theorem dL_law_689 : decode cL_law 689 = .ok (.ifCond .eq 5, 3) := by decide +kernel
theorem dL_law_692 : decode cL_law 692 = .ok (.iconst 0, 1) := by decide +kernel
theorem dL_law_693 : decode cL_law 693 = .ok (.ireturn, 1) := by decide +kernel
theorem dL_law_694 : decode cL_law 694 = .ok (.goto 500, 3) := by decide +kernel
theorem dL_law_697 : decode cL_law 697 = .ok (.aload_n 1, 1) := by decide +kernel
theorem dL_law_698 : decode cL_law 698 = .ok (.aload_n 3, 1) := by decide +kernel
theorem dL_law_699 : decode cL_law 699 = .ok (.invokestatic 119, 3) := by decide +kernel
theorem dL_law_702 : decode cL_law 702 = .ok (.istore 5, 2) := by decide +kernel
theorem dL_law_704 : decode cL_law 704 = .ok (.aload_n 2, 1) := by decide +kernel
theorem dL_law_705 : decode cL_law 705 = .ok (.invokevirtual 121, 3) := by decide +kernel
theorem dL_law_708 : decode cL_law 708 = .ok (.istore 6, 2) := by decide +kernel
theorem dL_law_710 : decode cL_law 710 = .ok (.aload_n 2, 1) := by decide +kernel
theorem dL_law_711 : decode cL_law 711 = .ok (.invokevirtual 73, 3) := by decide +kernel
theorem dL_law_714 : decode cL_law 714 = .ok (.iload 5, 2) := by decide +kernel
theorem dL_law_716 : decode cL_law 716 = .ok (.if_icmp .eq 5, 3) := by decide +kernel
theorem dL_law_719 : decode cL_law 719 = .ok (.iconst 0, 1) := by decide +kernel
theorem dL_law_720 : decode cL_law 720 = .ok (.ireturn, 1) := by decide +kernel
theorem dL_law_721 : decode cL_law 721 = .ok (.iload 5, 2) := by decide +kernel
theorem dL_law_723 : decode cL_law 723 = .ok (.ifCond .ne 15, 3) := by decide +kernel
theorem dL_law_726 : decode cL_law 726 = .ok (.aload_n 3, 1) := by decide +kernel
theorem dL_law_727 : decode cL_law 727 = .ok (.iconst 0, 1) := by decide +kernel
theorem dL_law_728 : decode cL_law 728 = .ok (.laload, 1) := by decide +kernel
theorem dL_law_729 : decode cL_law 729 = .ok (.iload 6, 2) := by decide +kernel
theorem dL_law_731 : decode cL_law 731 = .ok (.i2l, 1) := by decide +kernel
theorem dL_law_732 : decode cL_law 732 = .ok (.lcmp, 1) := by decide +kernel
theorem dL_law_733 : decode cL_law 733 = .ok (.ifCond .eq 5, 3) := by decide +kernel
theorem dL_law_736 : decode cL_law 736 = .ok (.iconst 0, 1) := by decide +kernel
theorem dL_law_737 : decode cL_law 737 = .ok (.ireturn, 1) := by decide +kernel
theorem dL_law_738 : decode cL_law 738 = .ok (.goto 456, 3) := by decide +kernel
theorem dL_law_741 : decode cL_law 741 = .ok (.aload_n 1, 1) := by decide +kernel
theorem dL_law_742 : decode cL_law 742 = .ok (.aload_n 0, 1) := by decide +kernel
theorem dL_law_743 : decode cL_law 743 = .ok (.iload 4, 2) := by decide +kernel
theorem dL_law_745 : decode cL_law 745 = .ok (.iconst 1, 1) := by decide +kernel
theorem dL_law_746 : decode cL_law 746 = .ok (.iadd, 1) := by decide +kernel
theorem dL_law_747 : decode cL_law 747 = .ok (.iaload, 1) := by decide +kernel
theorem dL_law_748 : decode cL_law 748 = .ok (.aload_n 0, 1) := by decide +kernel
theorem dL_law_749 : decode cL_law 749 = .ok (.iload 4, 2) := by decide +kernel
theorem dL_law_751 : decode cL_law 751 = .ok (.iconst 2, 1) := by decide +kernel
theorem dL_law_752 : decode cL_law 752 = .ok (.iadd, 1) := by decide +kernel
theorem dL_law_753 : decode cL_law 753 = .ok (.iaload, 1) := by decide +kernel
theorem dL_law_754 : decode cL_law 754 = .ok (.aload_n 3, 1) := by decide +kernel
theorem dL_law_755 : decode cL_law 755 = .ok (.invokestatic 122, 3) := by decide +kernel
theorem dL_law_758 : decode cL_law 758 = .ok (.istore 5, 2) := by decide +kernel
theorem dL_law_760 : decode cL_law 760 = .ok (.aload_n 2, 1) := by decide +kernel
theorem dL_law_761 : decode cL_law 761 = .ok (.aload_n 0, 1) := by decide +kernel
theorem dL_law_762 : decode cL_law 762 = .ok (.iload 4, 2) := by decide +kernel
theorem dL_law_764 : decode cL_law 764 = .ok (.iconst 1, 1) := by decide +kernel
theorem dL_law_765 : decode cL_law 765 = .ok (.iadd, 1) := by decide +kernel
theorem dL_law_766 : decode cL_law 766 = .ok (.iaload, 1) := by decide +kernel
theorem dL_law_767 : decode cL_law 767 = .ok (.aload_n 0, 1) := by decide +kernel
theorem dL_law_768 : decode cL_law 768 = .ok (.iload 4, 2) := by decide +kernel
theorem dL_law_770 : decode cL_law 770 = .ok (.iconst 2, 1) := by decide +kernel
theorem dL_law_771 : decode cL_law 771 = .ok (.iadd, 1) := by decide +kernel
theorem dL_law_772 : decode cL_law 772 = .ok (.iaload, 1) := by decide +kernel
theorem dL_law_773 : decode cL_law 773 = .ok (.invokevirtual 124, 3) := by decide +kernel
theorem dL_law_776 : decode cL_law 776 = .ok (.istore 6, 2) := by decide +kernel
theorem dL_law_778 : decode cL_law 778 = .ok (.aload_n 2, 1) := by decide +kernel
theorem dL_law_779 : decode cL_law 779 = .ok (.invokevirtual 73, 3) := by decide +kernel
theorem dL_law_782 : decode cL_law 782 = .ok (.iload 5, 2) := by decide +kernel
theorem dL_law_784 : decode cL_law 784 = .ok (.if_icmp .eq 5, 3) := by decide +kernel
theorem dL_law_787 : decode cL_law 787 = .ok (.iconst 0, 1) := by decide +kernel
theorem dL_law_788 : decode cL_law 788 = .ok (.ireturn, 1) := by decide +kernel
theorem dL_law_789 : decode cL_law 789 = .ok (.iload 5, 2) := by decide +kernel
theorem dL_law_791 : decode cL_law 791 = .ok (.ifCond .ne 15, 3) := by decide +kernel
theorem dL_law_794 : decode cL_law 794 = .ok (.aload_n 3, 1) := by decide +kernel
theorem dL_law_795 : decode cL_law 795 = .ok (.iconst 0, 1) := by decide +kernel
theorem dL_law_796 : decode cL_law 796 = .ok (.laload, 1) := by decide +kernel
theorem dL_law_797 : decode cL_law 797 = .ok (.iload 6, 2) := by decide +kernel
theorem dL_law_799 : decode cL_law 799 = .ok (.i2l, 1) := by decide +kernel
theorem dL_law_800 : decode cL_law 800 = .ok (.lcmp, 1) := by decide +kernel
theorem dL_law_801 : decode cL_law 801 = .ok (.ifCond .eq 5, 3) := by decide +kernel
theorem dL_law_804 : decode cL_law 804 = .ok (.iconst 0, 1) := by decide +kernel
theorem dL_law_805 : decode cL_law 805 = .ok (.ireturn, 1) := by decide +kernel
theorem dL_law_806 : decode cL_law 806 = .ok (.goto 388, 3) := by decide +kernel
theorem dL_law_809 : decode cL_law 809 = .ok (.aload_n 1, 1) := by decide +kernel
theorem dL_law_810 : decode cL_law 810 = .ok (.aload_n 0, 1) := by decide +kernel
theorem dL_law_811 : decode cL_law 811 = .ok (.iload 4, 2) := by decide +kernel
theorem dL_law_813 : decode cL_law 813 = .ok (.iconst 1, 1) := by decide +kernel
theorem dL_law_814 : decode cL_law 814 = .ok (.iadd, 1) := by decide +kernel
theorem dL_law_815 : decode cL_law 815 = .ok (.iaload, 1) := by decide +kernel
theorem dL_law_816 : decode cL_law 816 = .ok (.aload_n 0, 1) := by decide +kernel
theorem dL_law_817 : decode cL_law 817 = .ok (.iload 4, 2) := by decide +kernel
theorem dL_law_819 : decode cL_law 819 = .ok (.iconst 2, 1) := by decide +kernel
theorem dL_law_820 : decode cL_law 820 = .ok (.iadd, 1) := by decide +kernel
theorem dL_law_821 : decode cL_law 821 = .ok (.iaload, 1) := by decide +kernel
theorem dL_law_822 : decode cL_law 822 = .ok (.aload_n 3, 1) := by decide +kernel
theorem dL_law_823 : decode cL_law 823 = .ok (.invokestatic 125, 3) := by decide +kernel
theorem dL_law_826 : decode cL_law 826 = .ok (.istore 5, 2) := by decide +kernel
theorem dL_law_828 : decode cL_law 828 = .ok (.aload_n 2, 1) := by decide +kernel
theorem dL_law_829 : decode cL_law 829 = .ok (.aload_n 0, 1) := by decide +kernel
theorem dL_law_830 : decode cL_law 830 = .ok (.iload 4, 2) := by decide +kernel
theorem dL_law_832 : decode cL_law 832 = .ok (.iconst 1, 1) := by decide +kernel
theorem dL_law_833 : decode cL_law 833 = .ok (.iadd, 1) := by decide +kernel
theorem dL_law_834 : decode cL_law 834 = .ok (.iaload, 1) := by decide +kernel
theorem dL_law_835 : decode cL_law 835 = .ok (.aload_n 0, 1) := by decide +kernel
theorem dL_law_836 : decode cL_law 836 = .ok (.iload 4, 2) := by decide +kernel
theorem dL_law_838 : decode cL_law 838 = .ok (.iconst 2, 1) := by decide +kernel
theorem dL_law_839 : decode cL_law 839 = .ok (.iadd, 1) := by decide +kernel
theorem dL_law_840 : decode cL_law 840 = .ok (.iaload, 1) := by decide +kernel
theorem dL_law_841 : decode cL_law 841 = .ok (.invokevirtual 127, 3) := by decide +kernel
theorem dL_law_844 : decode cL_law 844 = .ok (.istore 6, 2) := by decide +kernel
theorem dL_law_846 : decode cL_law 846 = .ok (.aload_n 2, 1) := by decide +kernel
theorem dL_law_847 : decode cL_law 847 = .ok (.invokevirtual 73, 3) := by decide +kernel
theorem dL_law_850 : decode cL_law 850 = .ok (.iload 5, 2) := by decide +kernel
theorem dL_law_852 : decode cL_law 852 = .ok (.if_icmp .eq 5, 3) := by decide +kernel
theorem dL_law_855 : decode cL_law 855 = .ok (.iconst 0, 1) := by decide +kernel
theorem dL_law_856 : decode cL_law 856 = .ok (.ireturn, 1) := by decide +kernel
theorem dL_law_857 : decode cL_law 857 = .ok (.iload 5, 2) := by decide +kernel
theorem dL_law_859 : decode cL_law 859 = .ok (.ifCond .ne 15, 3) := by decide +kernel
theorem dL_law_862 : decode cL_law 862 = .ok (.aload_n 3, 1) := by decide +kernel
theorem dL_law_863 : decode cL_law 863 = .ok (.iconst 0, 1) := by decide +kernel
theorem dL_law_864 : decode cL_law 864 = .ok (.laload, 1) := by decide +kernel
theorem dL_law_865 : decode cL_law 865 = .ok (.iload 6, 2) := by decide +kernel
theorem dL_law_867 : decode cL_law 867 = .ok (.i2l, 1) := by decide +kernel
theorem dL_law_868 : decode cL_law 868 = .ok (.lcmp, 1) := by decide +kernel
theorem dL_law_869 : decode cL_law 869 = .ok (.ifCond .eq 5, 3) := by decide +kernel
theorem dL_law_872 : decode cL_law 872 = .ok (.iconst 0, 1) := by decide +kernel
theorem dL_law_873 : decode cL_law 873 = .ok (.ireturn, 1) := by decide +kernel
theorem dL_law_874 : decode cL_law 874 = .ok (.goto 320, 3) := by decide +kernel
theorem dL_law_877 : decode cL_law 877 = .ok (.aload_n 1, 1) := by decide +kernel
theorem dL_law_878 : decode cL_law 878 = .ok (.aload_n 0, 1) := by decide +kernel
theorem dL_law_879 : decode cL_law 879 = .ok (.iload 4, 2) := by decide +kernel
theorem dL_law_881 : decode cL_law 881 = .ok (.iconst 1, 1) := by decide +kernel
theorem dL_law_882 : decode cL_law 882 = .ok (.iadd, 1) := by decide +kernel
theorem dL_law_883 : decode cL_law 883 = .ok (.iaload, 1) := by decide +kernel
theorem dL_law_884 : decode cL_law 884 = .ok (.aload_n 0, 1) := by decide +kernel
theorem dL_law_885 : decode cL_law 885 = .ok (.iload 4, 2) := by decide +kernel
theorem dL_law_887 : decode cL_law 887 = .ok (.iconst 2, 1) := by decide +kernel
theorem dL_law_888 : decode cL_law 888 = .ok (.iadd, 1) := by decide +kernel
theorem dL_law_889 : decode cL_law 889 = .ok (.iaload, 1) := by decide +kernel
theorem dL_law_890 : decode cL_law 890 = .ok (.aload_n 3, 1) := by decide +kernel
theorem dL_law_891 : decode cL_law 891 = .ok (.invokestatic 128, 3) := by decide +kernel
theorem dL_law_894 : decode cL_law 894 = .ok (.istore 5, 2) := by decide +kernel
theorem dL_law_896 : decode cL_law 896 = .ok (.aload_n 2, 1) := by decide +kernel
theorem dL_law_897 : decode cL_law 897 = .ok (.aload_n 0, 1) := by decide +kernel
theorem dL_law_898 : decode cL_law 898 = .ok (.iload 4, 2) := by decide +kernel
theorem dL_law_900 : decode cL_law 900 = .ok (.iconst 1, 1) := by decide +kernel
theorem dL_law_901 : decode cL_law 901 = .ok (.iadd, 1) := by decide +kernel
theorem dL_law_902 : decode cL_law 902 = .ok (.iaload, 1) := by decide +kernel
theorem dL_law_903 : decode cL_law 903 = .ok (.aload_n 0, 1) := by decide +kernel
theorem dL_law_904 : decode cL_law 904 = .ok (.iload 4, 2) := by decide +kernel
theorem dL_law_906 : decode cL_law 906 = .ok (.iconst 2, 1) := by decide +kernel
theorem dL_law_907 : decode cL_law 907 = .ok (.iadd, 1) := by decide +kernel
theorem dL_law_908 : decode cL_law 908 = .ok (.iaload, 1) := by decide +kernel
theorem dL_law_909 : decode cL_law 909 = .ok (.invokevirtual 130, 3) := by decide +kernel
theorem dL_law_912 : decode cL_law 912 = .ok (.istore 6, 2) := by decide +kernel
theorem dL_law_914 : decode cL_law 914 = .ok (.aload_n 2, 1) := by decide +kernel
theorem dL_law_915 : decode cL_law 915 = .ok (.invokevirtual 73, 3) := by decide +kernel
theorem dL_law_918 : decode cL_law 918 = .ok (.iload 5, 2) := by decide +kernel
theorem dL_law_920 : decode cL_law 920 = .ok (.if_icmp .eq 5, 3) := by decide +kernel
theorem dL_law_923 : decode cL_law 923 = .ok (.iconst 0, 1) := by decide +kernel
theorem dL_law_924 : decode cL_law 924 = .ok (.ireturn, 1) := by decide +kernel
theorem dL_law_925 : decode cL_law 925 = .ok (.iload 5, 2) := by decide +kernel
theorem dL_law_927 : decode cL_law 927 = .ok (.ifCond .ne 15, 3) := by decide +kernel
theorem dL_law_930 : decode cL_law 930 = .ok (.aload_n 3, 1) := by decide +kernel
theorem dL_law_931 : decode cL_law 931 = .ok (.iconst 0, 1) := by decide +kernel
theorem dL_law_932 : decode cL_law 932 = .ok (.laload, 1) := by decide +kernel
theorem dL_law_933 : decode cL_law 933 = .ok (.iload 6, 2) := by decide +kernel
theorem dL_law_935 : decode cL_law 935 = .ok (.i2l, 1) := by decide +kernel
theorem dL_law_936 : decode cL_law 936 = .ok (.lcmp, 1) := by decide +kernel
theorem dL_law_937 : decode cL_law 937 = .ok (.ifCond .eq 5, 3) := by decide +kernel
theorem dL_law_940 : decode cL_law 940 = .ok (.iconst 0, 1) := by decide +kernel
theorem dL_law_941 : decode cL_law 941 = .ok (.ireturn, 1) := by decide +kernel
theorem dL_law_942 : decode cL_law 942 = .ok (.goto 252, 3) := by decide +kernel
theorem dL_law_945 : decode cL_law 945 = .ok (.aload_n 1, 1) := by decide +kernel
theorem dL_law_946 : decode cL_law 946 = .ok (.aload_n 0, 1) := by decide +kernel
theorem dL_law_947 : decode cL_law 947 = .ok (.iload 4, 2) := by decide +kernel
theorem dL_law_949 : decode cL_law 949 = .ok (.iconst 1, 1) := by decide +kernel
theorem dL_law_950 : decode cL_law 950 = .ok (.iadd, 1) := by decide +kernel
theorem dL_law_951 : decode cL_law 951 = .ok (.iaload, 1) := by decide +kernel
theorem dL_law_952 : decode cL_law 952 = .ok (.aload_n 3, 1) := by decide +kernel
theorem dL_law_953 : decode cL_law 953 = .ok (.invokestatic 131, 3) := by decide +kernel
theorem dL_law_956 : decode cL_law 956 = .ok (.istore 5, 2) := by decide +kernel
theorem dL_law_958 : decode cL_law 958 = .ok (.aload_n 2, 1) := by decide +kernel
theorem dL_law_959 : decode cL_law 959 = .ok (.aload_n 0, 1) := by decide +kernel
theorem dL_law_960 : decode cL_law 960 = .ok (.iload 4, 2) := by decide +kernel
theorem dL_law_962 : decode cL_law 962 = .ok (.iconst 1, 1) := by decide +kernel
theorem dL_law_963 : decode cL_law 963 = .ok (.iadd, 1) := by decide +kernel
theorem dL_law_964 : decode cL_law 964 = .ok (.iaload, 1) := by decide +kernel
theorem dL_law_965 : decode cL_law 965 = .ok (.invokevirtual 133, 3) := by decide +kernel
theorem dL_law_968 : decode cL_law 968 = .ok (.istore 6, 2) := by decide +kernel
theorem dL_law_970 : decode cL_law 970 = .ok (.aload_n 2, 1) := by decide +kernel
theorem dL_law_971 : decode cL_law 971 = .ok (.invokevirtual 73, 3) := by decide +kernel
theorem dL_law_974 : decode cL_law 974 = .ok (.iload 5, 2) := by decide +kernel
theorem dL_law_976 : decode cL_law 976 = .ok (.if_icmp .eq 5, 3) := by decide +kernel
theorem dL_law_979 : decode cL_law 979 = .ok (.iconst 0, 1) := by decide +kernel
theorem dL_law_980 : decode cL_law 980 = .ok (.ireturn, 1) := by decide +kernel
theorem dL_law_981 : decode cL_law 981 = .ok (.iload 5, 2) := by decide +kernel
theorem dL_law_983 : decode cL_law 983 = .ok (.ifCond .ne 15, 3) := by decide +kernel
theorem dL_law_986 : decode cL_law 986 = .ok (.aload_n 3, 1) := by decide +kernel
theorem dL_law_987 : decode cL_law 987 = .ok (.iconst 0, 1) := by decide +kernel
theorem dL_law_988 : decode cL_law 988 = .ok (.laload, 1) := by decide +kernel
theorem dL_law_989 : decode cL_law 989 = .ok (.iload 6, 2) := by decide +kernel
theorem dL_law_991 : decode cL_law 991 = .ok (.i2l, 1) := by decide +kernel
theorem dL_law_992 : decode cL_law 992 = .ok (.lcmp, 1) := by decide +kernel
theorem dL_law_993 : decode cL_law 993 = .ok (.ifCond .eq 5, 3) := by decide +kernel
theorem dL_law_996 : decode cL_law 996 = .ok (.iconst 0, 1) := by decide +kernel
theorem dL_law_997 : decode cL_law 997 = .ok (.ireturn, 1) := by decide +kernel
theorem dL_law_998 : decode cL_law 998 = .ok (.goto 196, 3) := by decide +kernel
theorem dL_law_1001 : decode cL_law 1001 = .ok (.aload_n 1, 1) := by decide +kernel
theorem dL_law_1002 : decode cL_law 1002 = .ok (.aload_n 0, 1) := by decide +kernel
theorem dL_law_1003 : decode cL_law 1003 = .ok (.iload 4, 2) := by decide +kernel
theorem dL_law_1005 : decode cL_law 1005 = .ok (.iconst 1, 1) := by decide +kernel
theorem dL_law_1006 : decode cL_law 1006 = .ok (.iadd, 1) := by decide +kernel
theorem dL_law_1007 : decode cL_law 1007 = .ok (.iaload, 1) := by decide +kernel
theorem dL_law_1008 : decode cL_law 1008 = .ok (.aload_n 3, 1) := by decide +kernel
theorem dL_law_1009 : decode cL_law 1009 = .ok (.invokestatic 134, 3) := by decide +kernel
theorem dL_law_1012 : decode cL_law 1012 = .ok (.istore 5, 2) := by decide +kernel
theorem dL_law_1014 : decode cL_law 1014 = .ok (.aload_n 2, 1) := by decide +kernel
theorem dL_law_1015 : decode cL_law 1015 = .ok (.aload_n 0, 1) := by decide +kernel
theorem dL_law_1016 : decode cL_law 1016 = .ok (.iload 4, 2) := by decide +kernel
theorem dL_law_1018 : decode cL_law 1018 = .ok (.iconst 1, 1) := by decide +kernel
theorem dL_law_1019 : decode cL_law 1019 = .ok (.iadd, 1) := by decide +kernel
theorem dL_law_1020 : decode cL_law 1020 = .ok (.iaload, 1) := by decide +kernel
theorem dL_law_1021 : decode cL_law 1021 = .ok (.invokevirtual 136, 3) := by decide +kernel
theorem dL_law_1024 : decode cL_law 1024 = .ok (.istore 6, 2) := by decide +kernel
theorem dL_law_1026 : decode cL_law 1026 = .ok (.aload_n 2, 1) := by decide +kernel
theorem dL_law_1027 : decode cL_law 1027 = .ok (.invokevirtual 73, 3) := by decide +kernel
theorem dL_law_1030 : decode cL_law 1030 = .ok (.iload 5, 2) := by decide +kernel
theorem dL_law_1032 : decode cL_law 1032 = .ok (.if_icmp .eq 5, 3) := by decide +kernel
theorem dL_law_1035 : decode cL_law 1035 = .ok (.iconst 0, 1) := by decide +kernel
theorem dL_law_1036 : decode cL_law 1036 = .ok (.ireturn, 1) := by decide +kernel
theorem dL_law_1037 : decode cL_law 1037 = .ok (.iload 5, 2) := by decide +kernel
theorem dL_law_1039 : decode cL_law 1039 = .ok (.ifCond .ne 15, 3) := by decide +kernel
theorem dL_law_1042 : decode cL_law 1042 = .ok (.aload_n 3, 1) := by decide +kernel
theorem dL_law_1043 : decode cL_law 1043 = .ok (.iconst 0, 1) := by decide +kernel
theorem dL_law_1044 : decode cL_law 1044 = .ok (.laload, 1) := by decide +kernel
theorem dL_law_1045 : decode cL_law 1045 = .ok (.iload 6, 2) := by decide +kernel
theorem dL_law_1047 : decode cL_law 1047 = .ok (.i2l, 1) := by decide +kernel
theorem dL_law_1048 : decode cL_law 1048 = .ok (.lcmp, 1) := by decide +kernel
theorem dL_law_1049 : decode cL_law 1049 = .ok (.ifCond .eq 5, 3) := by decide +kernel
theorem dL_law_1052 : decode cL_law 1052 = .ok (.iconst 0, 1) := by decide +kernel
theorem dL_law_1053 : decode cL_law 1053 = .ok (.ireturn, 1) := by decide +kernel
theorem dL_law_1054 : decode cL_law 1054 = .ok (.goto 140, 3) := by decide +kernel
theorem dL_law_1057 : decode cL_law 1057 = .ok (.aload_n 1, 1) := by decide +kernel
theorem dL_law_1058 : decode cL_law 1058 = .ok (.aload_n 0, 1) := by decide +kernel
theorem dL_law_1059 : decode cL_law 1059 = .ok (.iload 4, 2) := by decide +kernel
theorem dL_law_1061 : decode cL_law 1061 = .ok (.iconst 1, 1) := by decide +kernel
theorem dL_law_1062 : decode cL_law 1062 = .ok (.iadd, 1) := by decide +kernel
theorem dL_law_1063 : decode cL_law 1063 = .ok (.iaload, 1) := by decide +kernel
theorem dL_law_1064 : decode cL_law 1064 = .ok (.aload_n 3, 1) := by decide +kernel
theorem dL_law_1065 : decode cL_law 1065 = .ok (.invokestatic 137, 3) := by decide +kernel
theorem dL_law_1068 : decode cL_law 1068 = .ok (.istore 5, 2) := by decide +kernel
theorem dL_law_1070 : decode cL_law 1070 = .ok (.aload_n 2, 1) := by decide +kernel
theorem dL_law_1071 : decode cL_law 1071 = .ok (.aload_n 0, 1) := by decide +kernel
theorem dL_law_1072 : decode cL_law 1072 = .ok (.iload 4, 2) := by decide +kernel
theorem dL_law_1074 : decode cL_law 1074 = .ok (.iconst 1, 1) := by decide +kernel
theorem dL_law_1075 : decode cL_law 1075 = .ok (.iadd, 1) := by decide +kernel
theorem dL_law_1076 : decode cL_law 1076 = .ok (.iaload, 1) := by decide +kernel
theorem dL_law_1077 : decode cL_law 1077 = .ok (.invokevirtual 139, 3) := by decide +kernel
theorem dL_law_1080 : decode cL_law 1080 = .ok (.istore 6, 2) := by decide +kernel
theorem dL_law_1082 : decode cL_law 1082 = .ok (.aload_n 2, 1) := by decide +kernel
theorem dL_law_1083 : decode cL_law 1083 = .ok (.invokevirtual 73, 3) := by decide +kernel
theorem dL_law_1086 : decode cL_law 1086 = .ok (.iload 5, 2) := by decide +kernel
theorem dL_law_1088 : decode cL_law 1088 = .ok (.if_icmp .eq 5, 3) := by decide +kernel
theorem dL_law_1091 : decode cL_law 1091 = .ok (.iconst 0, 1) := by decide +kernel
theorem dL_law_1092 : decode cL_law 1092 = .ok (.ireturn, 1) := by decide +kernel
theorem dL_law_1093 : decode cL_law 1093 = .ok (.iload 5, 2) := by decide +kernel
theorem dL_law_1095 : decode cL_law 1095 = .ok (.ifCond .ne 15, 3) := by decide +kernel
theorem dL_law_1098 : decode cL_law 1098 = .ok (.aload_n 3, 1) := by decide +kernel
theorem dL_law_1099 : decode cL_law 1099 = .ok (.iconst 0, 1) := by decide +kernel
theorem dL_law_1100 : decode cL_law 1100 = .ok (.laload, 1) := by decide +kernel
theorem dL_law_1101 : decode cL_law 1101 = .ok (.iload 6, 2) := by decide +kernel
theorem dL_law_1103 : decode cL_law 1103 = .ok (.i2l, 1) := by decide +kernel
theorem dL_law_1104 : decode cL_law 1104 = .ok (.lcmp, 1) := by decide +kernel
theorem dL_law_1105 : decode cL_law 1105 = .ok (.ifCond .eq 5, 3) := by decide +kernel
theorem dL_law_1108 : decode cL_law 1108 = .ok (.iconst 0, 1) := by decide +kernel
theorem dL_law_1109 : decode cL_law 1109 = .ok (.ireturn, 1) := by decide +kernel
theorem dL_law_1110 : decode cL_law 1110 = .ok (.goto 84, 3) := by decide +kernel
theorem dL_law_1113 : decode cL_law 1113 = .ok (.aload_n 1, 1) := by decide +kernel
theorem dL_law_1114 : decode cL_law 1114 = .ok (.invokevirtual 140, 3) := by decide +kernel
theorem dL_law_1117 : decode cL_law 1117 = .ok (.aload_n 2, 1) := by decide +kernel
theorem dL_law_1118 : decode cL_law 1118 = .ok (.invokevirtual 143, 3) := by decide +kernel
theorem dL_law_1121 : decode cL_law 1121 = .ok (.if_icmp .eq 73, 3) := by decide +kernel
theorem dL_law_1124 : decode cL_law 1124 = .ok (.iconst 0, 1) := by decide +kernel
theorem dL_law_1125 : decode cL_law 1125 = .ok (.ireturn, 1) := by decide +kernel
theorem dL_law_1126 : decode cL_law 1126 = .ok (.aload_n 1, 1) := by decide +kernel
theorem dL_law_1127 : decode cL_law 1127 = .ok (.invokevirtual 144, 3) := by decide +kernel
theorem dL_law_1130 : decode cL_law 1130 = .ok (.aload_n 2, 1) := by decide +kernel
theorem dL_law_1131 : decode cL_law 1131 = .ok (.invokevirtual 147, 3) := by decide +kernel
theorem dL_law_1134 : decode cL_law 1134 = .ok (.if_icmp .eq 60, 3) := by decide +kernel
theorem dL_law_1137 : decode cL_law 1137 = .ok (.iconst 0, 1) := by decide +kernel
theorem dL_law_1138 : decode cL_law 1138 = .ok (.ireturn, 1) := by decide +kernel
theorem dL_law_1139 : decode cL_law 1139 = .ok (.aload_n 1, 1) := by decide +kernel
theorem dL_law_1140 : decode cL_law 1140 = .ok (.invokevirtual 148, 3) := by decide +kernel
theorem dL_law_1143 : decode cL_law 1143 = .ok (.dstore 5, 2) := by decide +kernel
theorem dL_law_1145 : decode cL_law 1145 = .ok (.aload_n 2, 1) := by decide +kernel
theorem dL_law_1146 : decode cL_law 1146 = .ok (.invokevirtual 152, 3) := by decide +kernel
theorem dL_law_1149 : decode cL_law 1149 = .ok (.dstore 7, 2) := by decide +kernel
theorem dL_law_1151 : decode cL_law 1151 = .ok (.dload 5, 2) := by decide +kernel
theorem dL_law_1153 : decode cL_law 1153 = .ok (.dload 7, 2) := by decide +kernel
theorem dL_law_1155 : decode cL_law 1155 = .ok (.dcmp .l, 1) := by decide +kernel
theorem dL_law_1156 : decode cL_law 1156 = .ok (.ifCond .eq 21, 3) := by decide +kernel
theorem dL_law_1159 : decode cL_law 1159 = .ok (.dload 5, 2) := by decide +kernel
theorem dL_law_1161 : decode cL_law 1161 = .ok (.dload 5, 2) := by decide +kernel
theorem dL_law_1163 : decode cL_law 1163 = .ok (.dcmp .l, 1) := by decide +kernel
theorem dL_law_1164 : decode cL_law 1164 = .ok (.ifCond .eq 11, 3) := by decide +kernel
theorem dL_law_1167 : decode cL_law 1167 = .ok (.dload 7, 2) := by decide +kernel
theorem dL_law_1169 : decode cL_law 1169 = .ok (.dload 7, 2) := by decide +kernel
theorem dL_law_1171 : decode cL_law 1171 = .ok (.dcmp .l, 1) := by decide +kernel
theorem dL_law_1172 : decode cL_law 1172 = .ok (.ifCond .ne 5, 3) := by decide +kernel
theorem dL_law_1175 : decode cL_law 1175 = .ok (.iconst 0, 1) := by decide +kernel
theorem dL_law_1176 : decode cL_law 1176 = .ok (.ireturn, 1) := by decide +kernel
theorem dL_law_1177 : decode cL_law 1177 = .ok (.goto 17, 3) := by decide +kernel
theorem dL_law_1180 : decode cL_law 1180 = .ok (.aload_n 1, 1) := by decide +kernel
theorem dL_law_1181 : decode cL_law 1181 = .ok (.invokevirtual 153, 3) := by decide +kernel
theorem dL_law_1184 : decode cL_law 1184 = .ok (.aload_n 2, 1) := by decide +kernel
theorem dL_law_1185 : decode cL_law 1185 = .ok (.invokevirtual 157, 3) := by decide +kernel
theorem dL_law_1188 : decode cL_law 1188 = .ok (.lcmp, 1) := by decide +kernel
theorem dL_law_1189 : decode cL_law 1189 = .ok (.ifCond .eq 5, 3) := by decide +kernel
theorem dL_law_1192 : decode cL_law 1192 = .ok (.iconst 0, 1) := by decide +kernel
theorem dL_law_1193 : decode cL_law 1193 = .ok (.ireturn, 1) := by decide +kernel
theorem dL_law_1194 : decode cL_law 1194 = .ok (.iinc 4 3, 3) := by decide +kernel
theorem dL_law_1197 : decode cL_law 1197 = .ok (.goto (-1174), 3) := by decide +kernel
theorem dL_law_1200 : decode cL_law 1200 = .ok (.iconst 1, 1) := by decide +kernel
theorem dL_law_1201 : decode cL_law 1201 = .ok (.ireturn, 1) := by decide +kernel
abbrev vwCl : List vw_C := [(RX0, TX0, 3), (RX1, TX1, 10), (RX2, TX2, 6), (RX3, TX3, 6), (RX4, TX4, 9), (RX5, TX5, 10)]
/-- the objects of CoverWays$Rows, kind 0: what each holds, by its address -/
structure wK_O_Rows where
  f_behind : Nat → Option Nat
  f_aheadOf : Nat → Option Nat
  f_tried : Nat → Int32
/-- the objects of CoverWays$State, kind 1: what each holds, by its address -/
structure wK_O_State where
  f_covers : Nat → Option Nat
  f_marks : Nat → Option Nat
  f_joins : Nat → Option Nat
  f_bars : Nat → Option Nat
  f_rests : Nat → Option Nat
  f_notedWeights : Nat → Option Nat
  f_notedMasks : Nat → Option Nat
  f_notedWays : Nat → Int32
  f_steps : Nat → Int32
  f_refusals : Nat → Int32
/-- the objects of CoverWays$Text, kind 2: what each holds, by its address -/
structure wK_O_Text where
  f_codes : Nat → Option Nat
  f_length : Nat → Int32
  f_graph : Nat → Option Nat
  f_place : Nat → Int32
  f_kind : Nat → Int32
  f_first : Nat → Int32
/-- the objects of CoverWays$Ways, kind 3: what each holds, by its address -/
structure wK_O_Ways where
  f_all : Nat → Option Nat
  f_open : Nat → Option Nat
  f_allWays : Nat → Int32
  f_openWays : Nat → Int32
  f_listed : Nat → Option Nat
  f_waysFrom : Nat → Option Nat
/-- the objects of CoverWays, kind 4: what each holds, by its address -/
structure wK_O_CoverWays where
  f_now : Nat → Option Nat
  f_trial : Nat → Option Nat
  f_saved : Nat → Option Nat
  f_savedStates : Nat → Int32
  f_snapshots : Nat → Option Nat
  f_isKept : Nat → Option Nat
  f_text : Nat → Option Nat
  f_ways : Nat → Option Nat
  f_rows : Nat → Option Nat
/-- the objects of CoverWaysModel, kind 5: what each holds, by its address -/
structure wK_O_CoverWaysModel where
  f_thrown : Nat → Int32
  f_s : Nat → Option Nat
  f_aside : Nat → Option Nat
  f_slots : Nat → Option Nat
  f_isKept : Nat → Option Nat
  f_saved : Nat → Option Nat
  f_savedMany : Nat → Int32
  f_text : Nat → Option Nat
  f_length : Nat → Int32
  f_digested : Nat → Int64
/-- the arrays of kind 6: what each holds, by its address -/
structure wK_R_I where
  len : Nat → Nat
  row : Nat → Nat → Int32
/-- the arrays of kind 7: what each holds, by its address -/
structure wK_R_Z where
  len : Nat → Nat
  row : Nat → Nat → Int32
/-- the arrays of kind 8: what each holds, by its address -/
structure wK_R_State where
  len : Nat → Nat
  row : Nat → Nat → Option Nat
/-- the pool: the addresses, the kind of each, and the kinds -/
structure wPS where
  L : List Nat
  K : Nat → Nat
  O_Rows : wK_O_Rows
  O_State : wK_O_State
  O_Text : wK_O_Text
  O_Ways : wK_O_Ways
  O_CoverWays : wK_O_CoverWays
  O_CoverWaysModel : wK_O_CoverWaysModel
  R_I : wK_R_I
  R_Z : wK_R_Z
  R_State : wK_R_State
/-- the empty pool -/
abbrev wP0 : wPS := { L := [], K := (fun _ => 0), O_Rows := { f_behind := (fun _ => none), f_aheadOf := (fun _ => none), f_tried := (fun _ => 0) }, O_State := { f_covers := (fun _ => none), f_marks := (fun _ => none), f_joins := (fun _ => none), f_bars := (fun _ => none), f_rests := (fun _ => none), f_notedWeights := (fun _ => none), f_notedMasks := (fun _ => none), f_notedWays := (fun _ => 0), f_steps := (fun _ => 0), f_refusals := (fun _ => 0) }, O_Text := { f_codes := (fun _ => none), f_length := (fun _ => 0), f_graph := (fun _ => none), f_place := (fun _ => 0), f_kind := (fun _ => 0), f_first := (fun _ => 0) }, O_Ways := { f_all := (fun _ => none), f_open := (fun _ => none), f_allWays := (fun _ => 0), f_openWays := (fun _ => 0), f_listed := (fun _ => none), f_waysFrom := (fun _ => none) }, O_CoverWays := { f_now := (fun _ => none), f_trial := (fun _ => none), f_saved := (fun _ => none), f_savedStates := (fun _ => 0), f_snapshots := (fun _ => none), f_isKept := (fun _ => none), f_text := (fun _ => none), f_ways := (fun _ => none), f_rows := (fun _ => none) }, O_CoverWaysModel := { f_thrown := (fun _ => 0), f_s := (fun _ => none), f_aside := (fun _ => none), f_slots := (fun _ => none), f_isKept := (fun _ => none), f_saved := (fun _ => none), f_savedMany := (fun _ => 0), f_text := (fun _ => none), f_length := (fun _ => 0), f_digested := (fun _ => 0) }, R_I := { len := (fun _ => 0), row := (fun _ _ => 0) }, R_Z := { len := (fun _ => 0), row := (fun _ _ => 0) }, R_State := { len := (fun _ => 0), row := (fun _ _ => none) } }
/-- the pool's rows by their kinds -/
abbrev wPF (cyI : ClassId) (cyZ : ClassId) (cyO49b63 : ClassId) (S : wPS) : Nat → va_E := fun a => if S.K a = 0 then .inr (0, [va_rf (S.O_Rows.f_behind a), va_rf (S.O_Rows.f_aheadOf a), .int (S.O_Rows.f_tried a)]) else if S.K a = 1 then .inr (1, [va_rf (S.O_State.f_covers a), va_rf (S.O_State.f_marks a), va_rf (S.O_State.f_joins a), va_rf (S.O_State.f_bars a), va_rf (S.O_State.f_rests a), va_rf (S.O_State.f_notedWeights a), va_rf (S.O_State.f_notedMasks a), .int (S.O_State.f_notedWays a), .int (S.O_State.f_steps a), .int (S.O_State.f_refusals a)]) else if S.K a = 2 then .inr (2, [va_rf (S.O_Text.f_codes a), .int (S.O_Text.f_length a), va_rf (S.O_Text.f_graph a), .int (S.O_Text.f_place a), .int (S.O_Text.f_kind a), .int (S.O_Text.f_first a)]) else if S.K a = 3 then .inr (3, [va_rf (S.O_Ways.f_all a), va_rf (S.O_Ways.f_open a), .int (S.O_Ways.f_allWays a), .int (S.O_Ways.f_openWays a), va_rf (S.O_Ways.f_listed a), va_rf (S.O_Ways.f_waysFrom a)]) else if S.K a = 4 then .inr (4, [va_rf (S.O_CoverWays.f_now a), va_rf (S.O_CoverWays.f_trial a), va_rf (S.O_CoverWays.f_saved a), .int (S.O_CoverWays.f_savedStates a), va_rf (S.O_CoverWays.f_snapshots a), va_rf (S.O_CoverWays.f_isKept a), va_rf (S.O_CoverWays.f_text a), va_rf (S.O_CoverWays.f_ways a), va_rf (S.O_CoverWays.f_rows a)]) else if S.K a = 5 then .inr (5, [.int (S.O_CoverWaysModel.f_thrown a), va_rf (S.O_CoverWaysModel.f_s a), va_rf (S.O_CoverWaysModel.f_aside a), va_rf (S.O_CoverWaysModel.f_slots a), va_rf (S.O_CoverWaysModel.f_isKept a), va_rf (S.O_CoverWaysModel.f_saved a), .int (S.O_CoverWaysModel.f_savedMany a), va_rf (S.O_CoverWaysModel.f_text a), .int (S.O_CoverWaysModel.f_length a), .long (S.O_CoverWaysModel.f_digested a)]) else if S.K a = 6 then .inl (cyI, S.R_I.len a, .inl (S.R_I.row a)) else if S.K a = 7 then .inl (cyZ, S.R_Z.len a, .inl (S.R_Z.row a)) else .inl (cyO49b63, S.R_State.len a, .inr (.inr (.inr (.inr (S.R_State.row a)))))
theorem wAt_O_Rows (cyI : ClassId) (cyZ : ClassId) (cyO49b63 : ClassId) (S : wPS) {a : Nat} (h : S.K a = 0) : wPF cyI cyZ cyO49b63 S a = .inr (0, [va_rf (S.O_Rows.f_behind a), va_rf (S.O_Rows.f_aheadOf a), .int (S.O_Rows.f_tried a)]) := by simp [wPF, h]
theorem wGt_O_Rows (cyI : ClassId) (cyZ : ClassId) (cyO49b63 : ClassId) (X : va_W) (S : wPS) {a : Nat} (hL : a ∈ S.L) (h : S.K a = 0) : ∃ k : Nat, (X ++ va_pl S.L (wPF cyI cyZ cyO49b63 S))[k]? = some (a, wPF cyI cyZ cyO49b63 S a) ∧ (X ++ va_pl S.L (wPF cyI cyZ cyO49b63 S))[k]? = some (a, .inr (0, [va_rf (S.O_Rows.f_behind a), va_rf (S.O_Rows.f_aheadOf a), .int (S.O_Rows.f_tried a)])) := by
  obtain ⟨k, hk⟩ := va_pl_get (X := X) (f := wPF cyI cyZ cyO49b63 S) hL
  exact ⟨k, hk, hk.trans (congrArg (fun e => some (a, e)) (wAt_O_Rows cyI cyZ cyO49b63 S h))⟩
theorem wSt_O_Rows_f_behind (cyI : ClassId) (cyZ : ClassId) (cyO49b63 : ClassId) (S : wPS) {a : Nat} (h : S.K a = 0) (v : Option Nat) (b : Nat) : va_up (wPF cyI cyZ cyO49b63 S) a (.inr (0, [va_rf v, va_rf (S.O_Rows.f_aheadOf a), .int (S.O_Rows.f_tried a)])) b = wPF cyI cyZ cyO49b63 { S with O_Rows := { S.O_Rows with f_behind := va_up S.O_Rows.f_behind a v } } b := by by_cases hb : b = a <;> first | (simp only [wPF, va_up_ne _ _ hb]; done) | (simp only [wPF, va_up, if_neg hb]; done) | simp [wPF, va_re, va_up, va_rf, hb, h]
theorem wPu_O_Rows_f_behind (cyI : ClassId) (cyZ : ClassId) (cyO49b63 : ClassId) (X : va_W) (S : wPS) {A : Nat → Prop} {a k : Nat} (hD : va_D A (X ++ va_pl S.L (wPF cyI cyZ cyO49b63 S))) (hL : a ∈ S.L) (h : S.K a = 0) (hk : (X ++ va_pl S.L (wPF cyI cyZ cyO49b63 S))[k]? = some (a, wPF cyI cyZ cyO49b63 S a)) (v : Option Nat) : (X ++ va_pl S.L (wPF cyI cyZ cyO49b63 S)).set k (a, .inr (0, [va_rf v, va_rf (S.O_Rows.f_aheadOf a), .int (S.O_Rows.f_tried a)])) = X ++ va_pl S.L (wPF cyI cyZ cyO49b63 { S with O_Rows := { S.O_Rows with f_behind := va_up S.O_Rows.f_behind a v } }) := by
  rw [va_pl_set hD hL hk]
  exact congrArg (fun l => X ++ l) (va_pl_congr (wSt_O_Rows_f_behind cyI cyZ cyO49b63 S h v))
theorem wSt_O_Rows_f_aheadOf (cyI : ClassId) (cyZ : ClassId) (cyO49b63 : ClassId) (S : wPS) {a : Nat} (h : S.K a = 0) (v : Option Nat) (b : Nat) : va_up (wPF cyI cyZ cyO49b63 S) a (.inr (0, [va_rf (S.O_Rows.f_behind a), va_rf v, .int (S.O_Rows.f_tried a)])) b = wPF cyI cyZ cyO49b63 { S with O_Rows := { S.O_Rows with f_aheadOf := va_up S.O_Rows.f_aheadOf a v } } b := by by_cases hb : b = a <;> first | (simp only [wPF, va_up_ne _ _ hb]; done) | (simp only [wPF, va_up, if_neg hb]; done) | simp [wPF, va_re, va_up, va_rf, hb, h]
theorem wPu_O_Rows_f_aheadOf (cyI : ClassId) (cyZ : ClassId) (cyO49b63 : ClassId) (X : va_W) (S : wPS) {A : Nat → Prop} {a k : Nat} (hD : va_D A (X ++ va_pl S.L (wPF cyI cyZ cyO49b63 S))) (hL : a ∈ S.L) (h : S.K a = 0) (hk : (X ++ va_pl S.L (wPF cyI cyZ cyO49b63 S))[k]? = some (a, wPF cyI cyZ cyO49b63 S a)) (v : Option Nat) : (X ++ va_pl S.L (wPF cyI cyZ cyO49b63 S)).set k (a, .inr (0, [va_rf (S.O_Rows.f_behind a), va_rf v, .int (S.O_Rows.f_tried a)])) = X ++ va_pl S.L (wPF cyI cyZ cyO49b63 { S with O_Rows := { S.O_Rows with f_aheadOf := va_up S.O_Rows.f_aheadOf a v } }) := by
  rw [va_pl_set hD hL hk]
  exact congrArg (fun l => X ++ l) (va_pl_congr (wSt_O_Rows_f_aheadOf cyI cyZ cyO49b63 S h v))
theorem wSt_O_Rows_f_tried (cyI : ClassId) (cyZ : ClassId) (cyO49b63 : ClassId) (S : wPS) {a : Nat} (h : S.K a = 0) (v : Int32) (b : Nat) : va_up (wPF cyI cyZ cyO49b63 S) a (.inr (0, [va_rf (S.O_Rows.f_behind a), va_rf (S.O_Rows.f_aheadOf a), .int v])) b = wPF cyI cyZ cyO49b63 { S with O_Rows := { S.O_Rows with f_tried := va_up S.O_Rows.f_tried a v } } b := by by_cases hb : b = a <;> first | (simp only [wPF, va_up_ne _ _ hb]; done) | (simp only [wPF, va_up, if_neg hb]; done) | simp [wPF, va_re, va_up, va_rf, hb, h]
theorem wPu_O_Rows_f_tried (cyI : ClassId) (cyZ : ClassId) (cyO49b63 : ClassId) (X : va_W) (S : wPS) {A : Nat → Prop} {a k : Nat} (hD : va_D A (X ++ va_pl S.L (wPF cyI cyZ cyO49b63 S))) (hL : a ∈ S.L) (h : S.K a = 0) (hk : (X ++ va_pl S.L (wPF cyI cyZ cyO49b63 S))[k]? = some (a, wPF cyI cyZ cyO49b63 S a)) (v : Int32) : (X ++ va_pl S.L (wPF cyI cyZ cyO49b63 S)).set k (a, .inr (0, [va_rf (S.O_Rows.f_behind a), va_rf (S.O_Rows.f_aheadOf a), .int v])) = X ++ va_pl S.L (wPF cyI cyZ cyO49b63 { S with O_Rows := { S.O_Rows with f_tried := va_up S.O_Rows.f_tried a v } }) := by
  rw [va_pl_set hD hL hk]
  exact congrArg (fun l => X ++ l) (va_pl_congr (wSt_O_Rows_f_tried cyI cyZ cyO49b63 S h v))
theorem wNw_O_Rows (cyI : ClassId) (cyZ : ClassId) (cyO49b63 : ClassId) (S : wPS) (a b : Nat) : va_up (wPF cyI cyZ cyO49b63 S) a (.inr (0, [.null, .null, .int 0])) b = wPF cyI cyZ cyO49b63 { S with L := S.L ++ [a], K := va_up S.K a 0, O_Rows := { f_behind := va_up S.O_Rows.f_behind a none, f_aheadOf := va_up S.O_Rows.f_aheadOf a none, f_tried := va_up S.O_Rows.f_tried a 0 } } b := by by_cases hb : b = a <;> first | (simp only [wPF, va_up_ne _ _ hb]; done) | (simp only [wPF, va_up, if_neg hb]; done) | simp [wPF, va_re, va_up, va_rf, hb]
theorem wPn_O_Rows (cyI : ClassId) (cyZ : ClassId) (cyO49b63 : ClassId) (X : va_W) (S : wPS) {a : Nat} (ha : a ∉ S.L) : (X ++ va_pl S.L (wPF cyI cyZ cyO49b63 S)) ++ [(a, .inr (0, [.null, .null, .int 0]))] = X ++ va_pl (S.L ++ [a]) (wPF cyI cyZ cyO49b63 { S with L := S.L ++ [a], K := va_up S.K a 0, O_Rows := { f_behind := va_up S.O_Rows.f_behind a none, f_aheadOf := va_up S.O_Rows.f_aheadOf a none, f_tried := va_up S.O_Rows.f_tried a 0 } }) := by
  rw [List.append_assoc, va_pl_push ha]
  exact congrArg (fun l => X ++ l) (va_pl_congr (wNw_O_Rows cyI cyZ cyO49b63 S a))
theorem wAt_O_State (cyI : ClassId) (cyZ : ClassId) (cyO49b63 : ClassId) (S : wPS) {a : Nat} (h : S.K a = 1) : wPF cyI cyZ cyO49b63 S a = .inr (1, [va_rf (S.O_State.f_covers a), va_rf (S.O_State.f_marks a), va_rf (S.O_State.f_joins a), va_rf (S.O_State.f_bars a), va_rf (S.O_State.f_rests a), va_rf (S.O_State.f_notedWeights a), va_rf (S.O_State.f_notedMasks a), .int (S.O_State.f_notedWays a), .int (S.O_State.f_steps a), .int (S.O_State.f_refusals a)]) := by simp [wPF, h]
theorem wGt_O_State (cyI : ClassId) (cyZ : ClassId) (cyO49b63 : ClassId) (X : va_W) (S : wPS) {a : Nat} (hL : a ∈ S.L) (h : S.K a = 1) : ∃ k : Nat, (X ++ va_pl S.L (wPF cyI cyZ cyO49b63 S))[k]? = some (a, wPF cyI cyZ cyO49b63 S a) ∧ (X ++ va_pl S.L (wPF cyI cyZ cyO49b63 S))[k]? = some (a, .inr (1, [va_rf (S.O_State.f_covers a), va_rf (S.O_State.f_marks a), va_rf (S.O_State.f_joins a), va_rf (S.O_State.f_bars a), va_rf (S.O_State.f_rests a), va_rf (S.O_State.f_notedWeights a), va_rf (S.O_State.f_notedMasks a), .int (S.O_State.f_notedWays a), .int (S.O_State.f_steps a), .int (S.O_State.f_refusals a)])) := by
  obtain ⟨k, hk⟩ := va_pl_get (X := X) (f := wPF cyI cyZ cyO49b63 S) hL
  exact ⟨k, hk, hk.trans (congrArg (fun e => some (a, e)) (wAt_O_State cyI cyZ cyO49b63 S h))⟩
theorem wSt_O_State_f_covers (cyI : ClassId) (cyZ : ClassId) (cyO49b63 : ClassId) (S : wPS) {a : Nat} (h : S.K a = 1) (v : Option Nat) (b : Nat) : va_up (wPF cyI cyZ cyO49b63 S) a (.inr (1, [va_rf v, va_rf (S.O_State.f_marks a), va_rf (S.O_State.f_joins a), va_rf (S.O_State.f_bars a), va_rf (S.O_State.f_rests a), va_rf (S.O_State.f_notedWeights a), va_rf (S.O_State.f_notedMasks a), .int (S.O_State.f_notedWays a), .int (S.O_State.f_steps a), .int (S.O_State.f_refusals a)])) b = wPF cyI cyZ cyO49b63 { S with O_State := { S.O_State with f_covers := va_up S.O_State.f_covers a v } } b := by by_cases hb : b = a <;> first | (simp only [wPF, va_up_ne _ _ hb]; done) | (simp only [wPF, va_up, if_neg hb]; done) | simp [wPF, va_re, va_up, va_rf, hb, h]
theorem wPu_O_State_f_covers (cyI : ClassId) (cyZ : ClassId) (cyO49b63 : ClassId) (X : va_W) (S : wPS) {A : Nat → Prop} {a k : Nat} (hD : va_D A (X ++ va_pl S.L (wPF cyI cyZ cyO49b63 S))) (hL : a ∈ S.L) (h : S.K a = 1) (hk : (X ++ va_pl S.L (wPF cyI cyZ cyO49b63 S))[k]? = some (a, wPF cyI cyZ cyO49b63 S a)) (v : Option Nat) : (X ++ va_pl S.L (wPF cyI cyZ cyO49b63 S)).set k (a, .inr (1, [va_rf v, va_rf (S.O_State.f_marks a), va_rf (S.O_State.f_joins a), va_rf (S.O_State.f_bars a), va_rf (S.O_State.f_rests a), va_rf (S.O_State.f_notedWeights a), va_rf (S.O_State.f_notedMasks a), .int (S.O_State.f_notedWays a), .int (S.O_State.f_steps a), .int (S.O_State.f_refusals a)])) = X ++ va_pl S.L (wPF cyI cyZ cyO49b63 { S with O_State := { S.O_State with f_covers := va_up S.O_State.f_covers a v } }) := by
  rw [va_pl_set hD hL hk]
  exact congrArg (fun l => X ++ l) (va_pl_congr (wSt_O_State_f_covers cyI cyZ cyO49b63 S h v))
theorem wSt_O_State_f_marks (cyI : ClassId) (cyZ : ClassId) (cyO49b63 : ClassId) (S : wPS) {a : Nat} (h : S.K a = 1) (v : Option Nat) (b : Nat) : va_up (wPF cyI cyZ cyO49b63 S) a (.inr (1, [va_rf (S.O_State.f_covers a), va_rf v, va_rf (S.O_State.f_joins a), va_rf (S.O_State.f_bars a), va_rf (S.O_State.f_rests a), va_rf (S.O_State.f_notedWeights a), va_rf (S.O_State.f_notedMasks a), .int (S.O_State.f_notedWays a), .int (S.O_State.f_steps a), .int (S.O_State.f_refusals a)])) b = wPF cyI cyZ cyO49b63 { S with O_State := { S.O_State with f_marks := va_up S.O_State.f_marks a v } } b := by by_cases hb : b = a <;> first | (simp only [wPF, va_up_ne _ _ hb]; done) | (simp only [wPF, va_up, if_neg hb]; done) | simp [wPF, va_re, va_up, va_rf, hb, h]
theorem wPu_O_State_f_marks (cyI : ClassId) (cyZ : ClassId) (cyO49b63 : ClassId) (X : va_W) (S : wPS) {A : Nat → Prop} {a k : Nat} (hD : va_D A (X ++ va_pl S.L (wPF cyI cyZ cyO49b63 S))) (hL : a ∈ S.L) (h : S.K a = 1) (hk : (X ++ va_pl S.L (wPF cyI cyZ cyO49b63 S))[k]? = some (a, wPF cyI cyZ cyO49b63 S a)) (v : Option Nat) : (X ++ va_pl S.L (wPF cyI cyZ cyO49b63 S)).set k (a, .inr (1, [va_rf (S.O_State.f_covers a), va_rf v, va_rf (S.O_State.f_joins a), va_rf (S.O_State.f_bars a), va_rf (S.O_State.f_rests a), va_rf (S.O_State.f_notedWeights a), va_rf (S.O_State.f_notedMasks a), .int (S.O_State.f_notedWays a), .int (S.O_State.f_steps a), .int (S.O_State.f_refusals a)])) = X ++ va_pl S.L (wPF cyI cyZ cyO49b63 { S with O_State := { S.O_State with f_marks := va_up S.O_State.f_marks a v } }) := by
  rw [va_pl_set hD hL hk]
  exact congrArg (fun l => X ++ l) (va_pl_congr (wSt_O_State_f_marks cyI cyZ cyO49b63 S h v))
theorem wSt_O_State_f_joins (cyI : ClassId) (cyZ : ClassId) (cyO49b63 : ClassId) (S : wPS) {a : Nat} (h : S.K a = 1) (v : Option Nat) (b : Nat) : va_up (wPF cyI cyZ cyO49b63 S) a (.inr (1, [va_rf (S.O_State.f_covers a), va_rf (S.O_State.f_marks a), va_rf v, va_rf (S.O_State.f_bars a), va_rf (S.O_State.f_rests a), va_rf (S.O_State.f_notedWeights a), va_rf (S.O_State.f_notedMasks a), .int (S.O_State.f_notedWays a), .int (S.O_State.f_steps a), .int (S.O_State.f_refusals a)])) b = wPF cyI cyZ cyO49b63 { S with O_State := { S.O_State with f_joins := va_up S.O_State.f_joins a v } } b := by by_cases hb : b = a <;> first | (simp only [wPF, va_up_ne _ _ hb]; done) | (simp only [wPF, va_up, if_neg hb]; done) | simp [wPF, va_re, va_up, va_rf, hb, h]
theorem wPu_O_State_f_joins (cyI : ClassId) (cyZ : ClassId) (cyO49b63 : ClassId) (X : va_W) (S : wPS) {A : Nat → Prop} {a k : Nat} (hD : va_D A (X ++ va_pl S.L (wPF cyI cyZ cyO49b63 S))) (hL : a ∈ S.L) (h : S.K a = 1) (hk : (X ++ va_pl S.L (wPF cyI cyZ cyO49b63 S))[k]? = some (a, wPF cyI cyZ cyO49b63 S a)) (v : Option Nat) : (X ++ va_pl S.L (wPF cyI cyZ cyO49b63 S)).set k (a, .inr (1, [va_rf (S.O_State.f_covers a), va_rf (S.O_State.f_marks a), va_rf v, va_rf (S.O_State.f_bars a), va_rf (S.O_State.f_rests a), va_rf (S.O_State.f_notedWeights a), va_rf (S.O_State.f_notedMasks a), .int (S.O_State.f_notedWays a), .int (S.O_State.f_steps a), .int (S.O_State.f_refusals a)])) = X ++ va_pl S.L (wPF cyI cyZ cyO49b63 { S with O_State := { S.O_State with f_joins := va_up S.O_State.f_joins a v } }) := by
  rw [va_pl_set hD hL hk]
  exact congrArg (fun l => X ++ l) (va_pl_congr (wSt_O_State_f_joins cyI cyZ cyO49b63 S h v))
theorem wSt_O_State_f_bars (cyI : ClassId) (cyZ : ClassId) (cyO49b63 : ClassId) (S : wPS) {a : Nat} (h : S.K a = 1) (v : Option Nat) (b : Nat) : va_up (wPF cyI cyZ cyO49b63 S) a (.inr (1, [va_rf (S.O_State.f_covers a), va_rf (S.O_State.f_marks a), va_rf (S.O_State.f_joins a), va_rf v, va_rf (S.O_State.f_rests a), va_rf (S.O_State.f_notedWeights a), va_rf (S.O_State.f_notedMasks a), .int (S.O_State.f_notedWays a), .int (S.O_State.f_steps a), .int (S.O_State.f_refusals a)])) b = wPF cyI cyZ cyO49b63 { S with O_State := { S.O_State with f_bars := va_up S.O_State.f_bars a v } } b := by by_cases hb : b = a <;> first | (simp only [wPF, va_up_ne _ _ hb]; done) | (simp only [wPF, va_up, if_neg hb]; done) | simp [wPF, va_re, va_up, va_rf, hb, h]
theorem wPu_O_State_f_bars (cyI : ClassId) (cyZ : ClassId) (cyO49b63 : ClassId) (X : va_W) (S : wPS) {A : Nat → Prop} {a k : Nat} (hD : va_D A (X ++ va_pl S.L (wPF cyI cyZ cyO49b63 S))) (hL : a ∈ S.L) (h : S.K a = 1) (hk : (X ++ va_pl S.L (wPF cyI cyZ cyO49b63 S))[k]? = some (a, wPF cyI cyZ cyO49b63 S a)) (v : Option Nat) : (X ++ va_pl S.L (wPF cyI cyZ cyO49b63 S)).set k (a, .inr (1, [va_rf (S.O_State.f_covers a), va_rf (S.O_State.f_marks a), va_rf (S.O_State.f_joins a), va_rf v, va_rf (S.O_State.f_rests a), va_rf (S.O_State.f_notedWeights a), va_rf (S.O_State.f_notedMasks a), .int (S.O_State.f_notedWays a), .int (S.O_State.f_steps a), .int (S.O_State.f_refusals a)])) = X ++ va_pl S.L (wPF cyI cyZ cyO49b63 { S with O_State := { S.O_State with f_bars := va_up S.O_State.f_bars a v } }) := by
  rw [va_pl_set hD hL hk]
  exact congrArg (fun l => X ++ l) (va_pl_congr (wSt_O_State_f_bars cyI cyZ cyO49b63 S h v))
theorem wSt_O_State_f_rests (cyI : ClassId) (cyZ : ClassId) (cyO49b63 : ClassId) (S : wPS) {a : Nat} (h : S.K a = 1) (v : Option Nat) (b : Nat) : va_up (wPF cyI cyZ cyO49b63 S) a (.inr (1, [va_rf (S.O_State.f_covers a), va_rf (S.O_State.f_marks a), va_rf (S.O_State.f_joins a), va_rf (S.O_State.f_bars a), va_rf v, va_rf (S.O_State.f_notedWeights a), va_rf (S.O_State.f_notedMasks a), .int (S.O_State.f_notedWays a), .int (S.O_State.f_steps a), .int (S.O_State.f_refusals a)])) b = wPF cyI cyZ cyO49b63 { S with O_State := { S.O_State with f_rests := va_up S.O_State.f_rests a v } } b := by by_cases hb : b = a <;> first | (simp only [wPF, va_up_ne _ _ hb]; done) | (simp only [wPF, va_up, if_neg hb]; done) | simp [wPF, va_re, va_up, va_rf, hb, h]
theorem wPu_O_State_f_rests (cyI : ClassId) (cyZ : ClassId) (cyO49b63 : ClassId) (X : va_W) (S : wPS) {A : Nat → Prop} {a k : Nat} (hD : va_D A (X ++ va_pl S.L (wPF cyI cyZ cyO49b63 S))) (hL : a ∈ S.L) (h : S.K a = 1) (hk : (X ++ va_pl S.L (wPF cyI cyZ cyO49b63 S))[k]? = some (a, wPF cyI cyZ cyO49b63 S a)) (v : Option Nat) : (X ++ va_pl S.L (wPF cyI cyZ cyO49b63 S)).set k (a, .inr (1, [va_rf (S.O_State.f_covers a), va_rf (S.O_State.f_marks a), va_rf (S.O_State.f_joins a), va_rf (S.O_State.f_bars a), va_rf v, va_rf (S.O_State.f_notedWeights a), va_rf (S.O_State.f_notedMasks a), .int (S.O_State.f_notedWays a), .int (S.O_State.f_steps a), .int (S.O_State.f_refusals a)])) = X ++ va_pl S.L (wPF cyI cyZ cyO49b63 { S with O_State := { S.O_State with f_rests := va_up S.O_State.f_rests a v } }) := by
  rw [va_pl_set hD hL hk]
  exact congrArg (fun l => X ++ l) (va_pl_congr (wSt_O_State_f_rests cyI cyZ cyO49b63 S h v))
theorem wSt_O_State_f_notedWeights (cyI : ClassId) (cyZ : ClassId) (cyO49b63 : ClassId) (S : wPS) {a : Nat} (h : S.K a = 1) (v : Option Nat) (b : Nat) : va_up (wPF cyI cyZ cyO49b63 S) a (.inr (1, [va_rf (S.O_State.f_covers a), va_rf (S.O_State.f_marks a), va_rf (S.O_State.f_joins a), va_rf (S.O_State.f_bars a), va_rf (S.O_State.f_rests a), va_rf v, va_rf (S.O_State.f_notedMasks a), .int (S.O_State.f_notedWays a), .int (S.O_State.f_steps a), .int (S.O_State.f_refusals a)])) b = wPF cyI cyZ cyO49b63 { S with O_State := { S.O_State with f_notedWeights := va_up S.O_State.f_notedWeights a v } } b := by by_cases hb : b = a <;> first | (simp only [wPF, va_up_ne _ _ hb]; done) | (simp only [wPF, va_up, if_neg hb]; done) | simp [wPF, va_re, va_up, va_rf, hb, h]
theorem wPu_O_State_f_notedWeights (cyI : ClassId) (cyZ : ClassId) (cyO49b63 : ClassId) (X : va_W) (S : wPS) {A : Nat → Prop} {a k : Nat} (hD : va_D A (X ++ va_pl S.L (wPF cyI cyZ cyO49b63 S))) (hL : a ∈ S.L) (h : S.K a = 1) (hk : (X ++ va_pl S.L (wPF cyI cyZ cyO49b63 S))[k]? = some (a, wPF cyI cyZ cyO49b63 S a)) (v : Option Nat) : (X ++ va_pl S.L (wPF cyI cyZ cyO49b63 S)).set k (a, .inr (1, [va_rf (S.O_State.f_covers a), va_rf (S.O_State.f_marks a), va_rf (S.O_State.f_joins a), va_rf (S.O_State.f_bars a), va_rf (S.O_State.f_rests a), va_rf v, va_rf (S.O_State.f_notedMasks a), .int (S.O_State.f_notedWays a), .int (S.O_State.f_steps a), .int (S.O_State.f_refusals a)])) = X ++ va_pl S.L (wPF cyI cyZ cyO49b63 { S with O_State := { S.O_State with f_notedWeights := va_up S.O_State.f_notedWeights a v } }) := by
  rw [va_pl_set hD hL hk]
  exact congrArg (fun l => X ++ l) (va_pl_congr (wSt_O_State_f_notedWeights cyI cyZ cyO49b63 S h v))
theorem wSt_O_State_f_notedMasks (cyI : ClassId) (cyZ : ClassId) (cyO49b63 : ClassId) (S : wPS) {a : Nat} (h : S.K a = 1) (v : Option Nat) (b : Nat) : va_up (wPF cyI cyZ cyO49b63 S) a (.inr (1, [va_rf (S.O_State.f_covers a), va_rf (S.O_State.f_marks a), va_rf (S.O_State.f_joins a), va_rf (S.O_State.f_bars a), va_rf (S.O_State.f_rests a), va_rf (S.O_State.f_notedWeights a), va_rf v, .int (S.O_State.f_notedWays a), .int (S.O_State.f_steps a), .int (S.O_State.f_refusals a)])) b = wPF cyI cyZ cyO49b63 { S with O_State := { S.O_State with f_notedMasks := va_up S.O_State.f_notedMasks a v } } b := by by_cases hb : b = a <;> first | (simp only [wPF, va_up_ne _ _ hb]; done) | (simp only [wPF, va_up, if_neg hb]; done) | simp [wPF, va_re, va_up, va_rf, hb, h]
theorem wPu_O_State_f_notedMasks (cyI : ClassId) (cyZ : ClassId) (cyO49b63 : ClassId) (X : va_W) (S : wPS) {A : Nat → Prop} {a k : Nat} (hD : va_D A (X ++ va_pl S.L (wPF cyI cyZ cyO49b63 S))) (hL : a ∈ S.L) (h : S.K a = 1) (hk : (X ++ va_pl S.L (wPF cyI cyZ cyO49b63 S))[k]? = some (a, wPF cyI cyZ cyO49b63 S a)) (v : Option Nat) : (X ++ va_pl S.L (wPF cyI cyZ cyO49b63 S)).set k (a, .inr (1, [va_rf (S.O_State.f_covers a), va_rf (S.O_State.f_marks a), va_rf (S.O_State.f_joins a), va_rf (S.O_State.f_bars a), va_rf (S.O_State.f_rests a), va_rf (S.O_State.f_notedWeights a), va_rf v, .int (S.O_State.f_notedWays a), .int (S.O_State.f_steps a), .int (S.O_State.f_refusals a)])) = X ++ va_pl S.L (wPF cyI cyZ cyO49b63 { S with O_State := { S.O_State with f_notedMasks := va_up S.O_State.f_notedMasks a v } }) := by
  rw [va_pl_set hD hL hk]
  exact congrArg (fun l => X ++ l) (va_pl_congr (wSt_O_State_f_notedMasks cyI cyZ cyO49b63 S h v))
theorem wSt_O_State_f_notedWays (cyI : ClassId) (cyZ : ClassId) (cyO49b63 : ClassId) (S : wPS) {a : Nat} (h : S.K a = 1) (v : Int32) (b : Nat) : va_up (wPF cyI cyZ cyO49b63 S) a (.inr (1, [va_rf (S.O_State.f_covers a), va_rf (S.O_State.f_marks a), va_rf (S.O_State.f_joins a), va_rf (S.O_State.f_bars a), va_rf (S.O_State.f_rests a), va_rf (S.O_State.f_notedWeights a), va_rf (S.O_State.f_notedMasks a), .int v, .int (S.O_State.f_steps a), .int (S.O_State.f_refusals a)])) b = wPF cyI cyZ cyO49b63 { S with O_State := { S.O_State with f_notedWays := va_up S.O_State.f_notedWays a v } } b := by by_cases hb : b = a <;> first | (simp only [wPF, va_up_ne _ _ hb]; done) | (simp only [wPF, va_up, if_neg hb]; done) | simp [wPF, va_re, va_up, va_rf, hb, h]
theorem wPu_O_State_f_notedWays (cyI : ClassId) (cyZ : ClassId) (cyO49b63 : ClassId) (X : va_W) (S : wPS) {A : Nat → Prop} {a k : Nat} (hD : va_D A (X ++ va_pl S.L (wPF cyI cyZ cyO49b63 S))) (hL : a ∈ S.L) (h : S.K a = 1) (hk : (X ++ va_pl S.L (wPF cyI cyZ cyO49b63 S))[k]? = some (a, wPF cyI cyZ cyO49b63 S a)) (v : Int32) : (X ++ va_pl S.L (wPF cyI cyZ cyO49b63 S)).set k (a, .inr (1, [va_rf (S.O_State.f_covers a), va_rf (S.O_State.f_marks a), va_rf (S.O_State.f_joins a), va_rf (S.O_State.f_bars a), va_rf (S.O_State.f_rests a), va_rf (S.O_State.f_notedWeights a), va_rf (S.O_State.f_notedMasks a), .int v, .int (S.O_State.f_steps a), .int (S.O_State.f_refusals a)])) = X ++ va_pl S.L (wPF cyI cyZ cyO49b63 { S with O_State := { S.O_State with f_notedWays := va_up S.O_State.f_notedWays a v } }) := by
  rw [va_pl_set hD hL hk]
  exact congrArg (fun l => X ++ l) (va_pl_congr (wSt_O_State_f_notedWays cyI cyZ cyO49b63 S h v))
theorem wSt_O_State_f_steps (cyI : ClassId) (cyZ : ClassId) (cyO49b63 : ClassId) (S : wPS) {a : Nat} (h : S.K a = 1) (v : Int32) (b : Nat) : va_up (wPF cyI cyZ cyO49b63 S) a (.inr (1, [va_rf (S.O_State.f_covers a), va_rf (S.O_State.f_marks a), va_rf (S.O_State.f_joins a), va_rf (S.O_State.f_bars a), va_rf (S.O_State.f_rests a), va_rf (S.O_State.f_notedWeights a), va_rf (S.O_State.f_notedMasks a), .int (S.O_State.f_notedWays a), .int v, .int (S.O_State.f_refusals a)])) b = wPF cyI cyZ cyO49b63 { S with O_State := { S.O_State with f_steps := va_up S.O_State.f_steps a v } } b := by by_cases hb : b = a <;> first | (simp only [wPF, va_up_ne _ _ hb]; done) | (simp only [wPF, va_up, if_neg hb]; done) | simp [wPF, va_re, va_up, va_rf, hb, h]
theorem wPu_O_State_f_steps (cyI : ClassId) (cyZ : ClassId) (cyO49b63 : ClassId) (X : va_W) (S : wPS) {A : Nat → Prop} {a k : Nat} (hD : va_D A (X ++ va_pl S.L (wPF cyI cyZ cyO49b63 S))) (hL : a ∈ S.L) (h : S.K a = 1) (hk : (X ++ va_pl S.L (wPF cyI cyZ cyO49b63 S))[k]? = some (a, wPF cyI cyZ cyO49b63 S a)) (v : Int32) : (X ++ va_pl S.L (wPF cyI cyZ cyO49b63 S)).set k (a, .inr (1, [va_rf (S.O_State.f_covers a), va_rf (S.O_State.f_marks a), va_rf (S.O_State.f_joins a), va_rf (S.O_State.f_bars a), va_rf (S.O_State.f_rests a), va_rf (S.O_State.f_notedWeights a), va_rf (S.O_State.f_notedMasks a), .int (S.O_State.f_notedWays a), .int v, .int (S.O_State.f_refusals a)])) = X ++ va_pl S.L (wPF cyI cyZ cyO49b63 { S with O_State := { S.O_State with f_steps := va_up S.O_State.f_steps a v } }) := by
  rw [va_pl_set hD hL hk]
  exact congrArg (fun l => X ++ l) (va_pl_congr (wSt_O_State_f_steps cyI cyZ cyO49b63 S h v))
theorem wSt_O_State_f_refusals (cyI : ClassId) (cyZ : ClassId) (cyO49b63 : ClassId) (S : wPS) {a : Nat} (h : S.K a = 1) (v : Int32) (b : Nat) : va_up (wPF cyI cyZ cyO49b63 S) a (.inr (1, [va_rf (S.O_State.f_covers a), va_rf (S.O_State.f_marks a), va_rf (S.O_State.f_joins a), va_rf (S.O_State.f_bars a), va_rf (S.O_State.f_rests a), va_rf (S.O_State.f_notedWeights a), va_rf (S.O_State.f_notedMasks a), .int (S.O_State.f_notedWays a), .int (S.O_State.f_steps a), .int v])) b = wPF cyI cyZ cyO49b63 { S with O_State := { S.O_State with f_refusals := va_up S.O_State.f_refusals a v } } b := by by_cases hb : b = a <;> first | (simp only [wPF, va_up_ne _ _ hb]; done) | (simp only [wPF, va_up, if_neg hb]; done) | simp [wPF, va_re, va_up, va_rf, hb, h]
theorem wPu_O_State_f_refusals (cyI : ClassId) (cyZ : ClassId) (cyO49b63 : ClassId) (X : va_W) (S : wPS) {A : Nat → Prop} {a k : Nat} (hD : va_D A (X ++ va_pl S.L (wPF cyI cyZ cyO49b63 S))) (hL : a ∈ S.L) (h : S.K a = 1) (hk : (X ++ va_pl S.L (wPF cyI cyZ cyO49b63 S))[k]? = some (a, wPF cyI cyZ cyO49b63 S a)) (v : Int32) : (X ++ va_pl S.L (wPF cyI cyZ cyO49b63 S)).set k (a, .inr (1, [va_rf (S.O_State.f_covers a), va_rf (S.O_State.f_marks a), va_rf (S.O_State.f_joins a), va_rf (S.O_State.f_bars a), va_rf (S.O_State.f_rests a), va_rf (S.O_State.f_notedWeights a), va_rf (S.O_State.f_notedMasks a), .int (S.O_State.f_notedWays a), .int (S.O_State.f_steps a), .int v])) = X ++ va_pl S.L (wPF cyI cyZ cyO49b63 { S with O_State := { S.O_State with f_refusals := va_up S.O_State.f_refusals a v } }) := by
  rw [va_pl_set hD hL hk]
  exact congrArg (fun l => X ++ l) (va_pl_congr (wSt_O_State_f_refusals cyI cyZ cyO49b63 S h v))
theorem wNw_O_State (cyI : ClassId) (cyZ : ClassId) (cyO49b63 : ClassId) (S : wPS) (a b : Nat) : va_up (wPF cyI cyZ cyO49b63 S) a (.inr (1, [.null, .null, .null, .null, .null, .null, .null, .int 0, .int 0, .int 0])) b = wPF cyI cyZ cyO49b63 { S with L := S.L ++ [a], K := va_up S.K a 1, O_State := { f_covers := va_up S.O_State.f_covers a none, f_marks := va_up S.O_State.f_marks a none, f_joins := va_up S.O_State.f_joins a none, f_bars := va_up S.O_State.f_bars a none, f_rests := va_up S.O_State.f_rests a none, f_notedWeights := va_up S.O_State.f_notedWeights a none, f_notedMasks := va_up S.O_State.f_notedMasks a none, f_notedWays := va_up S.O_State.f_notedWays a 0, f_steps := va_up S.O_State.f_steps a 0, f_refusals := va_up S.O_State.f_refusals a 0 } } b := by by_cases hb : b = a <;> first | (simp only [wPF, va_up_ne _ _ hb]; done) | (simp only [wPF, va_up, if_neg hb]; done) | simp [wPF, va_re, va_up, va_rf, hb]
theorem wPn_O_State (cyI : ClassId) (cyZ : ClassId) (cyO49b63 : ClassId) (X : va_W) (S : wPS) {a : Nat} (ha : a ∉ S.L) : (X ++ va_pl S.L (wPF cyI cyZ cyO49b63 S)) ++ [(a, .inr (1, [.null, .null, .null, .null, .null, .null, .null, .int 0, .int 0, .int 0]))] = X ++ va_pl (S.L ++ [a]) (wPF cyI cyZ cyO49b63 { S with L := S.L ++ [a], K := va_up S.K a 1, O_State := { f_covers := va_up S.O_State.f_covers a none, f_marks := va_up S.O_State.f_marks a none, f_joins := va_up S.O_State.f_joins a none, f_bars := va_up S.O_State.f_bars a none, f_rests := va_up S.O_State.f_rests a none, f_notedWeights := va_up S.O_State.f_notedWeights a none, f_notedMasks := va_up S.O_State.f_notedMasks a none, f_notedWays := va_up S.O_State.f_notedWays a 0, f_steps := va_up S.O_State.f_steps a 0, f_refusals := va_up S.O_State.f_refusals a 0 } }) := by
  rw [List.append_assoc, va_pl_push ha]
  exact congrArg (fun l => X ++ l) (va_pl_congr (wNw_O_State cyI cyZ cyO49b63 S a))
theorem wAt_O_Text (cyI : ClassId) (cyZ : ClassId) (cyO49b63 : ClassId) (S : wPS) {a : Nat} (h : S.K a = 2) : wPF cyI cyZ cyO49b63 S a = .inr (2, [va_rf (S.O_Text.f_codes a), .int (S.O_Text.f_length a), va_rf (S.O_Text.f_graph a), .int (S.O_Text.f_place a), .int (S.O_Text.f_kind a), .int (S.O_Text.f_first a)]) := by simp [wPF, h]
theorem wGt_O_Text (cyI : ClassId) (cyZ : ClassId) (cyO49b63 : ClassId) (X : va_W) (S : wPS) {a : Nat} (hL : a ∈ S.L) (h : S.K a = 2) : ∃ k : Nat, (X ++ va_pl S.L (wPF cyI cyZ cyO49b63 S))[k]? = some (a, wPF cyI cyZ cyO49b63 S a) ∧ (X ++ va_pl S.L (wPF cyI cyZ cyO49b63 S))[k]? = some (a, .inr (2, [va_rf (S.O_Text.f_codes a), .int (S.O_Text.f_length a), va_rf (S.O_Text.f_graph a), .int (S.O_Text.f_place a), .int (S.O_Text.f_kind a), .int (S.O_Text.f_first a)])) := by
  obtain ⟨k, hk⟩ := va_pl_get (X := X) (f := wPF cyI cyZ cyO49b63 S) hL
  exact ⟨k, hk, hk.trans (congrArg (fun e => some (a, e)) (wAt_O_Text cyI cyZ cyO49b63 S h))⟩
theorem wSt_O_Text_f_codes (cyI : ClassId) (cyZ : ClassId) (cyO49b63 : ClassId) (S : wPS) {a : Nat} (h : S.K a = 2) (v : Option Nat) (b : Nat) : va_up (wPF cyI cyZ cyO49b63 S) a (.inr (2, [va_rf v, .int (S.O_Text.f_length a), va_rf (S.O_Text.f_graph a), .int (S.O_Text.f_place a), .int (S.O_Text.f_kind a), .int (S.O_Text.f_first a)])) b = wPF cyI cyZ cyO49b63 { S with O_Text := { S.O_Text with f_codes := va_up S.O_Text.f_codes a v } } b := by by_cases hb : b = a <;> first | (simp only [wPF, va_up_ne _ _ hb]; done) | (simp only [wPF, va_up, if_neg hb]; done) | simp [wPF, va_re, va_up, va_rf, hb, h]
theorem wPu_O_Text_f_codes (cyI : ClassId) (cyZ : ClassId) (cyO49b63 : ClassId) (X : va_W) (S : wPS) {A : Nat → Prop} {a k : Nat} (hD : va_D A (X ++ va_pl S.L (wPF cyI cyZ cyO49b63 S))) (hL : a ∈ S.L) (h : S.K a = 2) (hk : (X ++ va_pl S.L (wPF cyI cyZ cyO49b63 S))[k]? = some (a, wPF cyI cyZ cyO49b63 S a)) (v : Option Nat) : (X ++ va_pl S.L (wPF cyI cyZ cyO49b63 S)).set k (a, .inr (2, [va_rf v, .int (S.O_Text.f_length a), va_rf (S.O_Text.f_graph a), .int (S.O_Text.f_place a), .int (S.O_Text.f_kind a), .int (S.O_Text.f_first a)])) = X ++ va_pl S.L (wPF cyI cyZ cyO49b63 { S with O_Text := { S.O_Text with f_codes := va_up S.O_Text.f_codes a v } }) := by
  rw [va_pl_set hD hL hk]
  exact congrArg (fun l => X ++ l) (va_pl_congr (wSt_O_Text_f_codes cyI cyZ cyO49b63 S h v))
theorem wSt_O_Text_f_length (cyI : ClassId) (cyZ : ClassId) (cyO49b63 : ClassId) (S : wPS) {a : Nat} (h : S.K a = 2) (v : Int32) (b : Nat) : va_up (wPF cyI cyZ cyO49b63 S) a (.inr (2, [va_rf (S.O_Text.f_codes a), .int v, va_rf (S.O_Text.f_graph a), .int (S.O_Text.f_place a), .int (S.O_Text.f_kind a), .int (S.O_Text.f_first a)])) b = wPF cyI cyZ cyO49b63 { S with O_Text := { S.O_Text with f_length := va_up S.O_Text.f_length a v } } b := by by_cases hb : b = a <;> first | (simp only [wPF, va_up_ne _ _ hb]; done) | (simp only [wPF, va_up, if_neg hb]; done) | simp [wPF, va_re, va_up, va_rf, hb, h]
theorem wPu_O_Text_f_length (cyI : ClassId) (cyZ : ClassId) (cyO49b63 : ClassId) (X : va_W) (S : wPS) {A : Nat → Prop} {a k : Nat} (hD : va_D A (X ++ va_pl S.L (wPF cyI cyZ cyO49b63 S))) (hL : a ∈ S.L) (h : S.K a = 2) (hk : (X ++ va_pl S.L (wPF cyI cyZ cyO49b63 S))[k]? = some (a, wPF cyI cyZ cyO49b63 S a)) (v : Int32) : (X ++ va_pl S.L (wPF cyI cyZ cyO49b63 S)).set k (a, .inr (2, [va_rf (S.O_Text.f_codes a), .int v, va_rf (S.O_Text.f_graph a), .int (S.O_Text.f_place a), .int (S.O_Text.f_kind a), .int (S.O_Text.f_first a)])) = X ++ va_pl S.L (wPF cyI cyZ cyO49b63 { S with O_Text := { S.O_Text with f_length := va_up S.O_Text.f_length a v } }) := by
  rw [va_pl_set hD hL hk]
  exact congrArg (fun l => X ++ l) (va_pl_congr (wSt_O_Text_f_length cyI cyZ cyO49b63 S h v))
theorem wSt_O_Text_f_graph (cyI : ClassId) (cyZ : ClassId) (cyO49b63 : ClassId) (S : wPS) {a : Nat} (h : S.K a = 2) (v : Option Nat) (b : Nat) : va_up (wPF cyI cyZ cyO49b63 S) a (.inr (2, [va_rf (S.O_Text.f_codes a), .int (S.O_Text.f_length a), va_rf v, .int (S.O_Text.f_place a), .int (S.O_Text.f_kind a), .int (S.O_Text.f_first a)])) b = wPF cyI cyZ cyO49b63 { S with O_Text := { S.O_Text with f_graph := va_up S.O_Text.f_graph a v } } b := by by_cases hb : b = a <;> first | (simp only [wPF, va_up_ne _ _ hb]; done) | (simp only [wPF, va_up, if_neg hb]; done) | simp [wPF, va_re, va_up, va_rf, hb, h]
theorem wPu_O_Text_f_graph (cyI : ClassId) (cyZ : ClassId) (cyO49b63 : ClassId) (X : va_W) (S : wPS) {A : Nat → Prop} {a k : Nat} (hD : va_D A (X ++ va_pl S.L (wPF cyI cyZ cyO49b63 S))) (hL : a ∈ S.L) (h : S.K a = 2) (hk : (X ++ va_pl S.L (wPF cyI cyZ cyO49b63 S))[k]? = some (a, wPF cyI cyZ cyO49b63 S a)) (v : Option Nat) : (X ++ va_pl S.L (wPF cyI cyZ cyO49b63 S)).set k (a, .inr (2, [va_rf (S.O_Text.f_codes a), .int (S.O_Text.f_length a), va_rf v, .int (S.O_Text.f_place a), .int (S.O_Text.f_kind a), .int (S.O_Text.f_first a)])) = X ++ va_pl S.L (wPF cyI cyZ cyO49b63 { S with O_Text := { S.O_Text with f_graph := va_up S.O_Text.f_graph a v } }) := by
  rw [va_pl_set hD hL hk]
  exact congrArg (fun l => X ++ l) (va_pl_congr (wSt_O_Text_f_graph cyI cyZ cyO49b63 S h v))
theorem wSt_O_Text_f_place (cyI : ClassId) (cyZ : ClassId) (cyO49b63 : ClassId) (S : wPS) {a : Nat} (h : S.K a = 2) (v : Int32) (b : Nat) : va_up (wPF cyI cyZ cyO49b63 S) a (.inr (2, [va_rf (S.O_Text.f_codes a), .int (S.O_Text.f_length a), va_rf (S.O_Text.f_graph a), .int v, .int (S.O_Text.f_kind a), .int (S.O_Text.f_first a)])) b = wPF cyI cyZ cyO49b63 { S with O_Text := { S.O_Text with f_place := va_up S.O_Text.f_place a v } } b := by by_cases hb : b = a <;> first | (simp only [wPF, va_up_ne _ _ hb]; done) | (simp only [wPF, va_up, if_neg hb]; done) | simp [wPF, va_re, va_up, va_rf, hb, h]
theorem wPu_O_Text_f_place (cyI : ClassId) (cyZ : ClassId) (cyO49b63 : ClassId) (X : va_W) (S : wPS) {A : Nat → Prop} {a k : Nat} (hD : va_D A (X ++ va_pl S.L (wPF cyI cyZ cyO49b63 S))) (hL : a ∈ S.L) (h : S.K a = 2) (hk : (X ++ va_pl S.L (wPF cyI cyZ cyO49b63 S))[k]? = some (a, wPF cyI cyZ cyO49b63 S a)) (v : Int32) : (X ++ va_pl S.L (wPF cyI cyZ cyO49b63 S)).set k (a, .inr (2, [va_rf (S.O_Text.f_codes a), .int (S.O_Text.f_length a), va_rf (S.O_Text.f_graph a), .int v, .int (S.O_Text.f_kind a), .int (S.O_Text.f_first a)])) = X ++ va_pl S.L (wPF cyI cyZ cyO49b63 { S with O_Text := { S.O_Text with f_place := va_up S.O_Text.f_place a v } }) := by
  rw [va_pl_set hD hL hk]
  exact congrArg (fun l => X ++ l) (va_pl_congr (wSt_O_Text_f_place cyI cyZ cyO49b63 S h v))
theorem wSt_O_Text_f_kind (cyI : ClassId) (cyZ : ClassId) (cyO49b63 : ClassId) (S : wPS) {a : Nat} (h : S.K a = 2) (v : Int32) (b : Nat) : va_up (wPF cyI cyZ cyO49b63 S) a (.inr (2, [va_rf (S.O_Text.f_codes a), .int (S.O_Text.f_length a), va_rf (S.O_Text.f_graph a), .int (S.O_Text.f_place a), .int v, .int (S.O_Text.f_first a)])) b = wPF cyI cyZ cyO49b63 { S with O_Text := { S.O_Text with f_kind := va_up S.O_Text.f_kind a v } } b := by by_cases hb : b = a <;> first | (simp only [wPF, va_up_ne _ _ hb]; done) | (simp only [wPF, va_up, if_neg hb]; done) | simp [wPF, va_re, va_up, va_rf, hb, h]
theorem wPu_O_Text_f_kind (cyI : ClassId) (cyZ : ClassId) (cyO49b63 : ClassId) (X : va_W) (S : wPS) {A : Nat → Prop} {a k : Nat} (hD : va_D A (X ++ va_pl S.L (wPF cyI cyZ cyO49b63 S))) (hL : a ∈ S.L) (h : S.K a = 2) (hk : (X ++ va_pl S.L (wPF cyI cyZ cyO49b63 S))[k]? = some (a, wPF cyI cyZ cyO49b63 S a)) (v : Int32) : (X ++ va_pl S.L (wPF cyI cyZ cyO49b63 S)).set k (a, .inr (2, [va_rf (S.O_Text.f_codes a), .int (S.O_Text.f_length a), va_rf (S.O_Text.f_graph a), .int (S.O_Text.f_place a), .int v, .int (S.O_Text.f_first a)])) = X ++ va_pl S.L (wPF cyI cyZ cyO49b63 { S with O_Text := { S.O_Text with f_kind := va_up S.O_Text.f_kind a v } }) := by
  rw [va_pl_set hD hL hk]
  exact congrArg (fun l => X ++ l) (va_pl_congr (wSt_O_Text_f_kind cyI cyZ cyO49b63 S h v))
theorem wSt_O_Text_f_first (cyI : ClassId) (cyZ : ClassId) (cyO49b63 : ClassId) (S : wPS) {a : Nat} (h : S.K a = 2) (v : Int32) (b : Nat) : va_up (wPF cyI cyZ cyO49b63 S) a (.inr (2, [va_rf (S.O_Text.f_codes a), .int (S.O_Text.f_length a), va_rf (S.O_Text.f_graph a), .int (S.O_Text.f_place a), .int (S.O_Text.f_kind a), .int v])) b = wPF cyI cyZ cyO49b63 { S with O_Text := { S.O_Text with f_first := va_up S.O_Text.f_first a v } } b := by by_cases hb : b = a <;> first | (simp only [wPF, va_up_ne _ _ hb]; done) | (simp only [wPF, va_up, if_neg hb]; done) | simp [wPF, va_re, va_up, va_rf, hb, h]
theorem wPu_O_Text_f_first (cyI : ClassId) (cyZ : ClassId) (cyO49b63 : ClassId) (X : va_W) (S : wPS) {A : Nat → Prop} {a k : Nat} (hD : va_D A (X ++ va_pl S.L (wPF cyI cyZ cyO49b63 S))) (hL : a ∈ S.L) (h : S.K a = 2) (hk : (X ++ va_pl S.L (wPF cyI cyZ cyO49b63 S))[k]? = some (a, wPF cyI cyZ cyO49b63 S a)) (v : Int32) : (X ++ va_pl S.L (wPF cyI cyZ cyO49b63 S)).set k (a, .inr (2, [va_rf (S.O_Text.f_codes a), .int (S.O_Text.f_length a), va_rf (S.O_Text.f_graph a), .int (S.O_Text.f_place a), .int (S.O_Text.f_kind a), .int v])) = X ++ va_pl S.L (wPF cyI cyZ cyO49b63 { S with O_Text := { S.O_Text with f_first := va_up S.O_Text.f_first a v } }) := by
  rw [va_pl_set hD hL hk]
  exact congrArg (fun l => X ++ l) (va_pl_congr (wSt_O_Text_f_first cyI cyZ cyO49b63 S h v))
theorem wNw_O_Text (cyI : ClassId) (cyZ : ClassId) (cyO49b63 : ClassId) (S : wPS) (a b : Nat) : va_up (wPF cyI cyZ cyO49b63 S) a (.inr (2, [.null, .int 0, .null, .int 0, .int 0, .int 0])) b = wPF cyI cyZ cyO49b63 { S with L := S.L ++ [a], K := va_up S.K a 2, O_Text := { f_codes := va_up S.O_Text.f_codes a none, f_length := va_up S.O_Text.f_length a 0, f_graph := va_up S.O_Text.f_graph a none, f_place := va_up S.O_Text.f_place a 0, f_kind := va_up S.O_Text.f_kind a 0, f_first := va_up S.O_Text.f_first a 0 } } b := by by_cases hb : b = a <;> first | (simp only [wPF, va_up_ne _ _ hb]; done) | (simp only [wPF, va_up, if_neg hb]; done) | simp [wPF, va_re, va_up, va_rf, hb]
theorem wPn_O_Text (cyI : ClassId) (cyZ : ClassId) (cyO49b63 : ClassId) (X : va_W) (S : wPS) {a : Nat} (ha : a ∉ S.L) : (X ++ va_pl S.L (wPF cyI cyZ cyO49b63 S)) ++ [(a, .inr (2, [.null, .int 0, .null, .int 0, .int 0, .int 0]))] = X ++ va_pl (S.L ++ [a]) (wPF cyI cyZ cyO49b63 { S with L := S.L ++ [a], K := va_up S.K a 2, O_Text := { f_codes := va_up S.O_Text.f_codes a none, f_length := va_up S.O_Text.f_length a 0, f_graph := va_up S.O_Text.f_graph a none, f_place := va_up S.O_Text.f_place a 0, f_kind := va_up S.O_Text.f_kind a 0, f_first := va_up S.O_Text.f_first a 0 } }) := by
  rw [List.append_assoc, va_pl_push ha]
  exact congrArg (fun l => X ++ l) (va_pl_congr (wNw_O_Text cyI cyZ cyO49b63 S a))
theorem wAt_O_Ways (cyI : ClassId) (cyZ : ClassId) (cyO49b63 : ClassId) (S : wPS) {a : Nat} (h : S.K a = 3) : wPF cyI cyZ cyO49b63 S a = .inr (3, [va_rf (S.O_Ways.f_all a), va_rf (S.O_Ways.f_open a), .int (S.O_Ways.f_allWays a), .int (S.O_Ways.f_openWays a), va_rf (S.O_Ways.f_listed a), va_rf (S.O_Ways.f_waysFrom a)]) := by simp [wPF, h]
theorem wGt_O_Ways (cyI : ClassId) (cyZ : ClassId) (cyO49b63 : ClassId) (X : va_W) (S : wPS) {a : Nat} (hL : a ∈ S.L) (h : S.K a = 3) : ∃ k : Nat, (X ++ va_pl S.L (wPF cyI cyZ cyO49b63 S))[k]? = some (a, wPF cyI cyZ cyO49b63 S a) ∧ (X ++ va_pl S.L (wPF cyI cyZ cyO49b63 S))[k]? = some (a, .inr (3, [va_rf (S.O_Ways.f_all a), va_rf (S.O_Ways.f_open a), .int (S.O_Ways.f_allWays a), .int (S.O_Ways.f_openWays a), va_rf (S.O_Ways.f_listed a), va_rf (S.O_Ways.f_waysFrom a)])) := by
  obtain ⟨k, hk⟩ := va_pl_get (X := X) (f := wPF cyI cyZ cyO49b63 S) hL
  exact ⟨k, hk, hk.trans (congrArg (fun e => some (a, e)) (wAt_O_Ways cyI cyZ cyO49b63 S h))⟩
theorem wSt_O_Ways_f_all (cyI : ClassId) (cyZ : ClassId) (cyO49b63 : ClassId) (S : wPS) {a : Nat} (h : S.K a = 3) (v : Option Nat) (b : Nat) : va_up (wPF cyI cyZ cyO49b63 S) a (.inr (3, [va_rf v, va_rf (S.O_Ways.f_open a), .int (S.O_Ways.f_allWays a), .int (S.O_Ways.f_openWays a), va_rf (S.O_Ways.f_listed a), va_rf (S.O_Ways.f_waysFrom a)])) b = wPF cyI cyZ cyO49b63 { S with O_Ways := { S.O_Ways with f_all := va_up S.O_Ways.f_all a v } } b := by by_cases hb : b = a <;> first | (simp only [wPF, va_up_ne _ _ hb]; done) | (simp only [wPF, va_up, if_neg hb]; done) | simp [wPF, va_re, va_up, va_rf, hb, h]
theorem wPu_O_Ways_f_all (cyI : ClassId) (cyZ : ClassId) (cyO49b63 : ClassId) (X : va_W) (S : wPS) {A : Nat → Prop} {a k : Nat} (hD : va_D A (X ++ va_pl S.L (wPF cyI cyZ cyO49b63 S))) (hL : a ∈ S.L) (h : S.K a = 3) (hk : (X ++ va_pl S.L (wPF cyI cyZ cyO49b63 S))[k]? = some (a, wPF cyI cyZ cyO49b63 S a)) (v : Option Nat) : (X ++ va_pl S.L (wPF cyI cyZ cyO49b63 S)).set k (a, .inr (3, [va_rf v, va_rf (S.O_Ways.f_open a), .int (S.O_Ways.f_allWays a), .int (S.O_Ways.f_openWays a), va_rf (S.O_Ways.f_listed a), va_rf (S.O_Ways.f_waysFrom a)])) = X ++ va_pl S.L (wPF cyI cyZ cyO49b63 { S with O_Ways := { S.O_Ways with f_all := va_up S.O_Ways.f_all a v } }) := by
  rw [va_pl_set hD hL hk]
  exact congrArg (fun l => X ++ l) (va_pl_congr (wSt_O_Ways_f_all cyI cyZ cyO49b63 S h v))
theorem wSt_O_Ways_f_open (cyI : ClassId) (cyZ : ClassId) (cyO49b63 : ClassId) (S : wPS) {a : Nat} (h : S.K a = 3) (v : Option Nat) (b : Nat) : va_up (wPF cyI cyZ cyO49b63 S) a (.inr (3, [va_rf (S.O_Ways.f_all a), va_rf v, .int (S.O_Ways.f_allWays a), .int (S.O_Ways.f_openWays a), va_rf (S.O_Ways.f_listed a), va_rf (S.O_Ways.f_waysFrom a)])) b = wPF cyI cyZ cyO49b63 { S with O_Ways := { S.O_Ways with f_open := va_up S.O_Ways.f_open a v } } b := by by_cases hb : b = a <;> first | (simp only [wPF, va_up_ne _ _ hb]; done) | (simp only [wPF, va_up, if_neg hb]; done) | simp [wPF, va_re, va_up, va_rf, hb, h]
theorem wPu_O_Ways_f_open (cyI : ClassId) (cyZ : ClassId) (cyO49b63 : ClassId) (X : va_W) (S : wPS) {A : Nat → Prop} {a k : Nat} (hD : va_D A (X ++ va_pl S.L (wPF cyI cyZ cyO49b63 S))) (hL : a ∈ S.L) (h : S.K a = 3) (hk : (X ++ va_pl S.L (wPF cyI cyZ cyO49b63 S))[k]? = some (a, wPF cyI cyZ cyO49b63 S a)) (v : Option Nat) : (X ++ va_pl S.L (wPF cyI cyZ cyO49b63 S)).set k (a, .inr (3, [va_rf (S.O_Ways.f_all a), va_rf v, .int (S.O_Ways.f_allWays a), .int (S.O_Ways.f_openWays a), va_rf (S.O_Ways.f_listed a), va_rf (S.O_Ways.f_waysFrom a)])) = X ++ va_pl S.L (wPF cyI cyZ cyO49b63 { S with O_Ways := { S.O_Ways with f_open := va_up S.O_Ways.f_open a v } }) := by
  rw [va_pl_set hD hL hk]
  exact congrArg (fun l => X ++ l) (va_pl_congr (wSt_O_Ways_f_open cyI cyZ cyO49b63 S h v))
theorem wSt_O_Ways_f_allWays (cyI : ClassId) (cyZ : ClassId) (cyO49b63 : ClassId) (S : wPS) {a : Nat} (h : S.K a = 3) (v : Int32) (b : Nat) : va_up (wPF cyI cyZ cyO49b63 S) a (.inr (3, [va_rf (S.O_Ways.f_all a), va_rf (S.O_Ways.f_open a), .int v, .int (S.O_Ways.f_openWays a), va_rf (S.O_Ways.f_listed a), va_rf (S.O_Ways.f_waysFrom a)])) b = wPF cyI cyZ cyO49b63 { S with O_Ways := { S.O_Ways with f_allWays := va_up S.O_Ways.f_allWays a v } } b := by by_cases hb : b = a <;> first | (simp only [wPF, va_up_ne _ _ hb]; done) | (simp only [wPF, va_up, if_neg hb]; done) | simp [wPF, va_re, va_up, va_rf, hb, h]
theorem wPu_O_Ways_f_allWays (cyI : ClassId) (cyZ : ClassId) (cyO49b63 : ClassId) (X : va_W) (S : wPS) {A : Nat → Prop} {a k : Nat} (hD : va_D A (X ++ va_pl S.L (wPF cyI cyZ cyO49b63 S))) (hL : a ∈ S.L) (h : S.K a = 3) (hk : (X ++ va_pl S.L (wPF cyI cyZ cyO49b63 S))[k]? = some (a, wPF cyI cyZ cyO49b63 S a)) (v : Int32) : (X ++ va_pl S.L (wPF cyI cyZ cyO49b63 S)).set k (a, .inr (3, [va_rf (S.O_Ways.f_all a), va_rf (S.O_Ways.f_open a), .int v, .int (S.O_Ways.f_openWays a), va_rf (S.O_Ways.f_listed a), va_rf (S.O_Ways.f_waysFrom a)])) = X ++ va_pl S.L (wPF cyI cyZ cyO49b63 { S with O_Ways := { S.O_Ways with f_allWays := va_up S.O_Ways.f_allWays a v } }) := by
  rw [va_pl_set hD hL hk]
  exact congrArg (fun l => X ++ l) (va_pl_congr (wSt_O_Ways_f_allWays cyI cyZ cyO49b63 S h v))
theorem wSt_O_Ways_f_openWays (cyI : ClassId) (cyZ : ClassId) (cyO49b63 : ClassId) (S : wPS) {a : Nat} (h : S.K a = 3) (v : Int32) (b : Nat) : va_up (wPF cyI cyZ cyO49b63 S) a (.inr (3, [va_rf (S.O_Ways.f_all a), va_rf (S.O_Ways.f_open a), .int (S.O_Ways.f_allWays a), .int v, va_rf (S.O_Ways.f_listed a), va_rf (S.O_Ways.f_waysFrom a)])) b = wPF cyI cyZ cyO49b63 { S with O_Ways := { S.O_Ways with f_openWays := va_up S.O_Ways.f_openWays a v } } b := by by_cases hb : b = a <;> first | (simp only [wPF, va_up_ne _ _ hb]; done) | (simp only [wPF, va_up, if_neg hb]; done) | simp [wPF, va_re, va_up, va_rf, hb, h]
theorem wPu_O_Ways_f_openWays (cyI : ClassId) (cyZ : ClassId) (cyO49b63 : ClassId) (X : va_W) (S : wPS) {A : Nat → Prop} {a k : Nat} (hD : va_D A (X ++ va_pl S.L (wPF cyI cyZ cyO49b63 S))) (hL : a ∈ S.L) (h : S.K a = 3) (hk : (X ++ va_pl S.L (wPF cyI cyZ cyO49b63 S))[k]? = some (a, wPF cyI cyZ cyO49b63 S a)) (v : Int32) : (X ++ va_pl S.L (wPF cyI cyZ cyO49b63 S)).set k (a, .inr (3, [va_rf (S.O_Ways.f_all a), va_rf (S.O_Ways.f_open a), .int (S.O_Ways.f_allWays a), .int v, va_rf (S.O_Ways.f_listed a), va_rf (S.O_Ways.f_waysFrom a)])) = X ++ va_pl S.L (wPF cyI cyZ cyO49b63 { S with O_Ways := { S.O_Ways with f_openWays := va_up S.O_Ways.f_openWays a v } }) := by
  rw [va_pl_set hD hL hk]
  exact congrArg (fun l => X ++ l) (va_pl_congr (wSt_O_Ways_f_openWays cyI cyZ cyO49b63 S h v))
theorem wSt_O_Ways_f_listed (cyI : ClassId) (cyZ : ClassId) (cyO49b63 : ClassId) (S : wPS) {a : Nat} (h : S.K a = 3) (v : Option Nat) (b : Nat) : va_up (wPF cyI cyZ cyO49b63 S) a (.inr (3, [va_rf (S.O_Ways.f_all a), va_rf (S.O_Ways.f_open a), .int (S.O_Ways.f_allWays a), .int (S.O_Ways.f_openWays a), va_rf v, va_rf (S.O_Ways.f_waysFrom a)])) b = wPF cyI cyZ cyO49b63 { S with O_Ways := { S.O_Ways with f_listed := va_up S.O_Ways.f_listed a v } } b := by by_cases hb : b = a <;> first | (simp only [wPF, va_up_ne _ _ hb]; done) | (simp only [wPF, va_up, if_neg hb]; done) | simp [wPF, va_re, va_up, va_rf, hb, h]
theorem wPu_O_Ways_f_listed (cyI : ClassId) (cyZ : ClassId) (cyO49b63 : ClassId) (X : va_W) (S : wPS) {A : Nat → Prop} {a k : Nat} (hD : va_D A (X ++ va_pl S.L (wPF cyI cyZ cyO49b63 S))) (hL : a ∈ S.L) (h : S.K a = 3) (hk : (X ++ va_pl S.L (wPF cyI cyZ cyO49b63 S))[k]? = some (a, wPF cyI cyZ cyO49b63 S a)) (v : Option Nat) : (X ++ va_pl S.L (wPF cyI cyZ cyO49b63 S)).set k (a, .inr (3, [va_rf (S.O_Ways.f_all a), va_rf (S.O_Ways.f_open a), .int (S.O_Ways.f_allWays a), .int (S.O_Ways.f_openWays a), va_rf v, va_rf (S.O_Ways.f_waysFrom a)])) = X ++ va_pl S.L (wPF cyI cyZ cyO49b63 { S with O_Ways := { S.O_Ways with f_listed := va_up S.O_Ways.f_listed a v } }) := by
  rw [va_pl_set hD hL hk]
  exact congrArg (fun l => X ++ l) (va_pl_congr (wSt_O_Ways_f_listed cyI cyZ cyO49b63 S h v))
theorem wSt_O_Ways_f_waysFrom (cyI : ClassId) (cyZ : ClassId) (cyO49b63 : ClassId) (S : wPS) {a : Nat} (h : S.K a = 3) (v : Option Nat) (b : Nat) : va_up (wPF cyI cyZ cyO49b63 S) a (.inr (3, [va_rf (S.O_Ways.f_all a), va_rf (S.O_Ways.f_open a), .int (S.O_Ways.f_allWays a), .int (S.O_Ways.f_openWays a), va_rf (S.O_Ways.f_listed a), va_rf v])) b = wPF cyI cyZ cyO49b63 { S with O_Ways := { S.O_Ways with f_waysFrom := va_up S.O_Ways.f_waysFrom a v } } b := by by_cases hb : b = a <;> first | (simp only [wPF, va_up_ne _ _ hb]; done) | (simp only [wPF, va_up, if_neg hb]; done) | simp [wPF, va_re, va_up, va_rf, hb, h]
theorem wPu_O_Ways_f_waysFrom (cyI : ClassId) (cyZ : ClassId) (cyO49b63 : ClassId) (X : va_W) (S : wPS) {A : Nat → Prop} {a k : Nat} (hD : va_D A (X ++ va_pl S.L (wPF cyI cyZ cyO49b63 S))) (hL : a ∈ S.L) (h : S.K a = 3) (hk : (X ++ va_pl S.L (wPF cyI cyZ cyO49b63 S))[k]? = some (a, wPF cyI cyZ cyO49b63 S a)) (v : Option Nat) : (X ++ va_pl S.L (wPF cyI cyZ cyO49b63 S)).set k (a, .inr (3, [va_rf (S.O_Ways.f_all a), va_rf (S.O_Ways.f_open a), .int (S.O_Ways.f_allWays a), .int (S.O_Ways.f_openWays a), va_rf (S.O_Ways.f_listed a), va_rf v])) = X ++ va_pl S.L (wPF cyI cyZ cyO49b63 { S with O_Ways := { S.O_Ways with f_waysFrom := va_up S.O_Ways.f_waysFrom a v } }) := by
  rw [va_pl_set hD hL hk]
  exact congrArg (fun l => X ++ l) (va_pl_congr (wSt_O_Ways_f_waysFrom cyI cyZ cyO49b63 S h v))
theorem wNw_O_Ways (cyI : ClassId) (cyZ : ClassId) (cyO49b63 : ClassId) (S : wPS) (a b : Nat) : va_up (wPF cyI cyZ cyO49b63 S) a (.inr (3, [.null, .null, .int 0, .int 0, .null, .null])) b = wPF cyI cyZ cyO49b63 { S with L := S.L ++ [a], K := va_up S.K a 3, O_Ways := { f_all := va_up S.O_Ways.f_all a none, f_open := va_up S.O_Ways.f_open a none, f_allWays := va_up S.O_Ways.f_allWays a 0, f_openWays := va_up S.O_Ways.f_openWays a 0, f_listed := va_up S.O_Ways.f_listed a none, f_waysFrom := va_up S.O_Ways.f_waysFrom a none } } b := by by_cases hb : b = a <;> first | (simp only [wPF, va_up_ne _ _ hb]; done) | (simp only [wPF, va_up, if_neg hb]; done) | simp [wPF, va_re, va_up, va_rf, hb]
theorem wPn_O_Ways (cyI : ClassId) (cyZ : ClassId) (cyO49b63 : ClassId) (X : va_W) (S : wPS) {a : Nat} (ha : a ∉ S.L) : (X ++ va_pl S.L (wPF cyI cyZ cyO49b63 S)) ++ [(a, .inr (3, [.null, .null, .int 0, .int 0, .null, .null]))] = X ++ va_pl (S.L ++ [a]) (wPF cyI cyZ cyO49b63 { S with L := S.L ++ [a], K := va_up S.K a 3, O_Ways := { f_all := va_up S.O_Ways.f_all a none, f_open := va_up S.O_Ways.f_open a none, f_allWays := va_up S.O_Ways.f_allWays a 0, f_openWays := va_up S.O_Ways.f_openWays a 0, f_listed := va_up S.O_Ways.f_listed a none, f_waysFrom := va_up S.O_Ways.f_waysFrom a none } }) := by
  rw [List.append_assoc, va_pl_push ha]
  exact congrArg (fun l => X ++ l) (va_pl_congr (wNw_O_Ways cyI cyZ cyO49b63 S a))
theorem wAt_O_CoverWays (cyI : ClassId) (cyZ : ClassId) (cyO49b63 : ClassId) (S : wPS) {a : Nat} (h : S.K a = 4) : wPF cyI cyZ cyO49b63 S a = .inr (4, [va_rf (S.O_CoverWays.f_now a), va_rf (S.O_CoverWays.f_trial a), va_rf (S.O_CoverWays.f_saved a), .int (S.O_CoverWays.f_savedStates a), va_rf (S.O_CoverWays.f_snapshots a), va_rf (S.O_CoverWays.f_isKept a), va_rf (S.O_CoverWays.f_text a), va_rf (S.O_CoverWays.f_ways a), va_rf (S.O_CoverWays.f_rows a)]) := by simp [wPF, h]
theorem wGt_O_CoverWays (cyI : ClassId) (cyZ : ClassId) (cyO49b63 : ClassId) (X : va_W) (S : wPS) {a : Nat} (hL : a ∈ S.L) (h : S.K a = 4) : ∃ k : Nat, (X ++ va_pl S.L (wPF cyI cyZ cyO49b63 S))[k]? = some (a, wPF cyI cyZ cyO49b63 S a) ∧ (X ++ va_pl S.L (wPF cyI cyZ cyO49b63 S))[k]? = some (a, .inr (4, [va_rf (S.O_CoverWays.f_now a), va_rf (S.O_CoverWays.f_trial a), va_rf (S.O_CoverWays.f_saved a), .int (S.O_CoverWays.f_savedStates a), va_rf (S.O_CoverWays.f_snapshots a), va_rf (S.O_CoverWays.f_isKept a), va_rf (S.O_CoverWays.f_text a), va_rf (S.O_CoverWays.f_ways a), va_rf (S.O_CoverWays.f_rows a)])) := by
  obtain ⟨k, hk⟩ := va_pl_get (X := X) (f := wPF cyI cyZ cyO49b63 S) hL
  exact ⟨k, hk, hk.trans (congrArg (fun e => some (a, e)) (wAt_O_CoverWays cyI cyZ cyO49b63 S h))⟩
theorem wSt_O_CoverWays_f_now (cyI : ClassId) (cyZ : ClassId) (cyO49b63 : ClassId) (S : wPS) {a : Nat} (h : S.K a = 4) (v : Option Nat) (b : Nat) : va_up (wPF cyI cyZ cyO49b63 S) a (.inr (4, [va_rf v, va_rf (S.O_CoverWays.f_trial a), va_rf (S.O_CoverWays.f_saved a), .int (S.O_CoverWays.f_savedStates a), va_rf (S.O_CoverWays.f_snapshots a), va_rf (S.O_CoverWays.f_isKept a), va_rf (S.O_CoverWays.f_text a), va_rf (S.O_CoverWays.f_ways a), va_rf (S.O_CoverWays.f_rows a)])) b = wPF cyI cyZ cyO49b63 { S with O_CoverWays := { S.O_CoverWays with f_now := va_up S.O_CoverWays.f_now a v } } b := by by_cases hb : b = a <;> first | (simp only [wPF, va_up_ne _ _ hb]; done) | (simp only [wPF, va_up, if_neg hb]; done) | simp [wPF, va_re, va_up, va_rf, hb, h]
theorem wPu_O_CoverWays_f_now (cyI : ClassId) (cyZ : ClassId) (cyO49b63 : ClassId) (X : va_W) (S : wPS) {A : Nat → Prop} {a k : Nat} (hD : va_D A (X ++ va_pl S.L (wPF cyI cyZ cyO49b63 S))) (hL : a ∈ S.L) (h : S.K a = 4) (hk : (X ++ va_pl S.L (wPF cyI cyZ cyO49b63 S))[k]? = some (a, wPF cyI cyZ cyO49b63 S a)) (v : Option Nat) : (X ++ va_pl S.L (wPF cyI cyZ cyO49b63 S)).set k (a, .inr (4, [va_rf v, va_rf (S.O_CoverWays.f_trial a), va_rf (S.O_CoverWays.f_saved a), .int (S.O_CoverWays.f_savedStates a), va_rf (S.O_CoverWays.f_snapshots a), va_rf (S.O_CoverWays.f_isKept a), va_rf (S.O_CoverWays.f_text a), va_rf (S.O_CoverWays.f_ways a), va_rf (S.O_CoverWays.f_rows a)])) = X ++ va_pl S.L (wPF cyI cyZ cyO49b63 { S with O_CoverWays := { S.O_CoverWays with f_now := va_up S.O_CoverWays.f_now a v } }) := by
  rw [va_pl_set hD hL hk]
  exact congrArg (fun l => X ++ l) (va_pl_congr (wSt_O_CoverWays_f_now cyI cyZ cyO49b63 S h v))
theorem wSt_O_CoverWays_f_trial (cyI : ClassId) (cyZ : ClassId) (cyO49b63 : ClassId) (S : wPS) {a : Nat} (h : S.K a = 4) (v : Option Nat) (b : Nat) : va_up (wPF cyI cyZ cyO49b63 S) a (.inr (4, [va_rf (S.O_CoverWays.f_now a), va_rf v, va_rf (S.O_CoverWays.f_saved a), .int (S.O_CoverWays.f_savedStates a), va_rf (S.O_CoverWays.f_snapshots a), va_rf (S.O_CoverWays.f_isKept a), va_rf (S.O_CoverWays.f_text a), va_rf (S.O_CoverWays.f_ways a), va_rf (S.O_CoverWays.f_rows a)])) b = wPF cyI cyZ cyO49b63 { S with O_CoverWays := { S.O_CoverWays with f_trial := va_up S.O_CoverWays.f_trial a v } } b := by by_cases hb : b = a <;> first | (simp only [wPF, va_up_ne _ _ hb]; done) | (simp only [wPF, va_up, if_neg hb]; done) | simp [wPF, va_re, va_up, va_rf, hb, h]
theorem wPu_O_CoverWays_f_trial (cyI : ClassId) (cyZ : ClassId) (cyO49b63 : ClassId) (X : va_W) (S : wPS) {A : Nat → Prop} {a k : Nat} (hD : va_D A (X ++ va_pl S.L (wPF cyI cyZ cyO49b63 S))) (hL : a ∈ S.L) (h : S.K a = 4) (hk : (X ++ va_pl S.L (wPF cyI cyZ cyO49b63 S))[k]? = some (a, wPF cyI cyZ cyO49b63 S a)) (v : Option Nat) : (X ++ va_pl S.L (wPF cyI cyZ cyO49b63 S)).set k (a, .inr (4, [va_rf (S.O_CoverWays.f_now a), va_rf v, va_rf (S.O_CoverWays.f_saved a), .int (S.O_CoverWays.f_savedStates a), va_rf (S.O_CoverWays.f_snapshots a), va_rf (S.O_CoverWays.f_isKept a), va_rf (S.O_CoverWays.f_text a), va_rf (S.O_CoverWays.f_ways a), va_rf (S.O_CoverWays.f_rows a)])) = X ++ va_pl S.L (wPF cyI cyZ cyO49b63 { S with O_CoverWays := { S.O_CoverWays with f_trial := va_up S.O_CoverWays.f_trial a v } }) := by
  rw [va_pl_set hD hL hk]
  exact congrArg (fun l => X ++ l) (va_pl_congr (wSt_O_CoverWays_f_trial cyI cyZ cyO49b63 S h v))
theorem wSt_O_CoverWays_f_saved (cyI : ClassId) (cyZ : ClassId) (cyO49b63 : ClassId) (S : wPS) {a : Nat} (h : S.K a = 4) (v : Option Nat) (b : Nat) : va_up (wPF cyI cyZ cyO49b63 S) a (.inr (4, [va_rf (S.O_CoverWays.f_now a), va_rf (S.O_CoverWays.f_trial a), va_rf v, .int (S.O_CoverWays.f_savedStates a), va_rf (S.O_CoverWays.f_snapshots a), va_rf (S.O_CoverWays.f_isKept a), va_rf (S.O_CoverWays.f_text a), va_rf (S.O_CoverWays.f_ways a), va_rf (S.O_CoverWays.f_rows a)])) b = wPF cyI cyZ cyO49b63 { S with O_CoverWays := { S.O_CoverWays with f_saved := va_up S.O_CoverWays.f_saved a v } } b := by by_cases hb : b = a <;> first | (simp only [wPF, va_up_ne _ _ hb]; done) | (simp only [wPF, va_up, if_neg hb]; done) | simp [wPF, va_re, va_up, va_rf, hb, h]
theorem wPu_O_CoverWays_f_saved (cyI : ClassId) (cyZ : ClassId) (cyO49b63 : ClassId) (X : va_W) (S : wPS) {A : Nat → Prop} {a k : Nat} (hD : va_D A (X ++ va_pl S.L (wPF cyI cyZ cyO49b63 S))) (hL : a ∈ S.L) (h : S.K a = 4) (hk : (X ++ va_pl S.L (wPF cyI cyZ cyO49b63 S))[k]? = some (a, wPF cyI cyZ cyO49b63 S a)) (v : Option Nat) : (X ++ va_pl S.L (wPF cyI cyZ cyO49b63 S)).set k (a, .inr (4, [va_rf (S.O_CoverWays.f_now a), va_rf (S.O_CoverWays.f_trial a), va_rf v, .int (S.O_CoverWays.f_savedStates a), va_rf (S.O_CoverWays.f_snapshots a), va_rf (S.O_CoverWays.f_isKept a), va_rf (S.O_CoverWays.f_text a), va_rf (S.O_CoverWays.f_ways a), va_rf (S.O_CoverWays.f_rows a)])) = X ++ va_pl S.L (wPF cyI cyZ cyO49b63 { S with O_CoverWays := { S.O_CoverWays with f_saved := va_up S.O_CoverWays.f_saved a v } }) := by
  rw [va_pl_set hD hL hk]
  exact congrArg (fun l => X ++ l) (va_pl_congr (wSt_O_CoverWays_f_saved cyI cyZ cyO49b63 S h v))
theorem wSt_O_CoverWays_f_savedStates (cyI : ClassId) (cyZ : ClassId) (cyO49b63 : ClassId) (S : wPS) {a : Nat} (h : S.K a = 4) (v : Int32) (b : Nat) : va_up (wPF cyI cyZ cyO49b63 S) a (.inr (4, [va_rf (S.O_CoverWays.f_now a), va_rf (S.O_CoverWays.f_trial a), va_rf (S.O_CoverWays.f_saved a), .int v, va_rf (S.O_CoverWays.f_snapshots a), va_rf (S.O_CoverWays.f_isKept a), va_rf (S.O_CoverWays.f_text a), va_rf (S.O_CoverWays.f_ways a), va_rf (S.O_CoverWays.f_rows a)])) b = wPF cyI cyZ cyO49b63 { S with O_CoverWays := { S.O_CoverWays with f_savedStates := va_up S.O_CoverWays.f_savedStates a v } } b := by by_cases hb : b = a <;> first | (simp only [wPF, va_up_ne _ _ hb]; done) | (simp only [wPF, va_up, if_neg hb]; done) | simp [wPF, va_re, va_up, va_rf, hb, h]
theorem wPu_O_CoverWays_f_savedStates (cyI : ClassId) (cyZ : ClassId) (cyO49b63 : ClassId) (X : va_W) (S : wPS) {A : Nat → Prop} {a k : Nat} (hD : va_D A (X ++ va_pl S.L (wPF cyI cyZ cyO49b63 S))) (hL : a ∈ S.L) (h : S.K a = 4) (hk : (X ++ va_pl S.L (wPF cyI cyZ cyO49b63 S))[k]? = some (a, wPF cyI cyZ cyO49b63 S a)) (v : Int32) : (X ++ va_pl S.L (wPF cyI cyZ cyO49b63 S)).set k (a, .inr (4, [va_rf (S.O_CoverWays.f_now a), va_rf (S.O_CoverWays.f_trial a), va_rf (S.O_CoverWays.f_saved a), .int v, va_rf (S.O_CoverWays.f_snapshots a), va_rf (S.O_CoverWays.f_isKept a), va_rf (S.O_CoverWays.f_text a), va_rf (S.O_CoverWays.f_ways a), va_rf (S.O_CoverWays.f_rows a)])) = X ++ va_pl S.L (wPF cyI cyZ cyO49b63 { S with O_CoverWays := { S.O_CoverWays with f_savedStates := va_up S.O_CoverWays.f_savedStates a v } }) := by
  rw [va_pl_set hD hL hk]
  exact congrArg (fun l => X ++ l) (va_pl_congr (wSt_O_CoverWays_f_savedStates cyI cyZ cyO49b63 S h v))
theorem wSt_O_CoverWays_f_snapshots (cyI : ClassId) (cyZ : ClassId) (cyO49b63 : ClassId) (S : wPS) {a : Nat} (h : S.K a = 4) (v : Option Nat) (b : Nat) : va_up (wPF cyI cyZ cyO49b63 S) a (.inr (4, [va_rf (S.O_CoverWays.f_now a), va_rf (S.O_CoverWays.f_trial a), va_rf (S.O_CoverWays.f_saved a), .int (S.O_CoverWays.f_savedStates a), va_rf v, va_rf (S.O_CoverWays.f_isKept a), va_rf (S.O_CoverWays.f_text a), va_rf (S.O_CoverWays.f_ways a), va_rf (S.O_CoverWays.f_rows a)])) b = wPF cyI cyZ cyO49b63 { S with O_CoverWays := { S.O_CoverWays with f_snapshots := va_up S.O_CoverWays.f_snapshots a v } } b := by by_cases hb : b = a <;> first | (simp only [wPF, va_up_ne _ _ hb]; done) | (simp only [wPF, va_up, if_neg hb]; done) | simp [wPF, va_re, va_up, va_rf, hb, h]
theorem wPu_O_CoverWays_f_snapshots (cyI : ClassId) (cyZ : ClassId) (cyO49b63 : ClassId) (X : va_W) (S : wPS) {A : Nat → Prop} {a k : Nat} (hD : va_D A (X ++ va_pl S.L (wPF cyI cyZ cyO49b63 S))) (hL : a ∈ S.L) (h : S.K a = 4) (hk : (X ++ va_pl S.L (wPF cyI cyZ cyO49b63 S))[k]? = some (a, wPF cyI cyZ cyO49b63 S a)) (v : Option Nat) : (X ++ va_pl S.L (wPF cyI cyZ cyO49b63 S)).set k (a, .inr (4, [va_rf (S.O_CoverWays.f_now a), va_rf (S.O_CoverWays.f_trial a), va_rf (S.O_CoverWays.f_saved a), .int (S.O_CoverWays.f_savedStates a), va_rf v, va_rf (S.O_CoverWays.f_isKept a), va_rf (S.O_CoverWays.f_text a), va_rf (S.O_CoverWays.f_ways a), va_rf (S.O_CoverWays.f_rows a)])) = X ++ va_pl S.L (wPF cyI cyZ cyO49b63 { S with O_CoverWays := { S.O_CoverWays with f_snapshots := va_up S.O_CoverWays.f_snapshots a v } }) := by
  rw [va_pl_set hD hL hk]
  exact congrArg (fun l => X ++ l) (va_pl_congr (wSt_O_CoverWays_f_snapshots cyI cyZ cyO49b63 S h v))
theorem wSt_O_CoverWays_f_isKept (cyI : ClassId) (cyZ : ClassId) (cyO49b63 : ClassId) (S : wPS) {a : Nat} (h : S.K a = 4) (v : Option Nat) (b : Nat) : va_up (wPF cyI cyZ cyO49b63 S) a (.inr (4, [va_rf (S.O_CoverWays.f_now a), va_rf (S.O_CoverWays.f_trial a), va_rf (S.O_CoverWays.f_saved a), .int (S.O_CoverWays.f_savedStates a), va_rf (S.O_CoverWays.f_snapshots a), va_rf v, va_rf (S.O_CoverWays.f_text a), va_rf (S.O_CoverWays.f_ways a), va_rf (S.O_CoverWays.f_rows a)])) b = wPF cyI cyZ cyO49b63 { S with O_CoverWays := { S.O_CoverWays with f_isKept := va_up S.O_CoverWays.f_isKept a v } } b := by by_cases hb : b = a <;> first | (simp only [wPF, va_up_ne _ _ hb]; done) | (simp only [wPF, va_up, if_neg hb]; done) | simp [wPF, va_re, va_up, va_rf, hb, h]
theorem wPu_O_CoverWays_f_isKept (cyI : ClassId) (cyZ : ClassId) (cyO49b63 : ClassId) (X : va_W) (S : wPS) {A : Nat → Prop} {a k : Nat} (hD : va_D A (X ++ va_pl S.L (wPF cyI cyZ cyO49b63 S))) (hL : a ∈ S.L) (h : S.K a = 4) (hk : (X ++ va_pl S.L (wPF cyI cyZ cyO49b63 S))[k]? = some (a, wPF cyI cyZ cyO49b63 S a)) (v : Option Nat) : (X ++ va_pl S.L (wPF cyI cyZ cyO49b63 S)).set k (a, .inr (4, [va_rf (S.O_CoverWays.f_now a), va_rf (S.O_CoverWays.f_trial a), va_rf (S.O_CoverWays.f_saved a), .int (S.O_CoverWays.f_savedStates a), va_rf (S.O_CoverWays.f_snapshots a), va_rf v, va_rf (S.O_CoverWays.f_text a), va_rf (S.O_CoverWays.f_ways a), va_rf (S.O_CoverWays.f_rows a)])) = X ++ va_pl S.L (wPF cyI cyZ cyO49b63 { S with O_CoverWays := { S.O_CoverWays with f_isKept := va_up S.O_CoverWays.f_isKept a v } }) := by
  rw [va_pl_set hD hL hk]
  exact congrArg (fun l => X ++ l) (va_pl_congr (wSt_O_CoverWays_f_isKept cyI cyZ cyO49b63 S h v))
theorem wSt_O_CoverWays_f_text (cyI : ClassId) (cyZ : ClassId) (cyO49b63 : ClassId) (S : wPS) {a : Nat} (h : S.K a = 4) (v : Option Nat) (b : Nat) : va_up (wPF cyI cyZ cyO49b63 S) a (.inr (4, [va_rf (S.O_CoverWays.f_now a), va_rf (S.O_CoverWays.f_trial a), va_rf (S.O_CoverWays.f_saved a), .int (S.O_CoverWays.f_savedStates a), va_rf (S.O_CoverWays.f_snapshots a), va_rf (S.O_CoverWays.f_isKept a), va_rf v, va_rf (S.O_CoverWays.f_ways a), va_rf (S.O_CoverWays.f_rows a)])) b = wPF cyI cyZ cyO49b63 { S with O_CoverWays := { S.O_CoverWays with f_text := va_up S.O_CoverWays.f_text a v } } b := by by_cases hb : b = a <;> first | (simp only [wPF, va_up_ne _ _ hb]; done) | (simp only [wPF, va_up, if_neg hb]; done) | simp [wPF, va_re, va_up, va_rf, hb, h]
theorem wPu_O_CoverWays_f_text (cyI : ClassId) (cyZ : ClassId) (cyO49b63 : ClassId) (X : va_W) (S : wPS) {A : Nat → Prop} {a k : Nat} (hD : va_D A (X ++ va_pl S.L (wPF cyI cyZ cyO49b63 S))) (hL : a ∈ S.L) (h : S.K a = 4) (hk : (X ++ va_pl S.L (wPF cyI cyZ cyO49b63 S))[k]? = some (a, wPF cyI cyZ cyO49b63 S a)) (v : Option Nat) : (X ++ va_pl S.L (wPF cyI cyZ cyO49b63 S)).set k (a, .inr (4, [va_rf (S.O_CoverWays.f_now a), va_rf (S.O_CoverWays.f_trial a), va_rf (S.O_CoverWays.f_saved a), .int (S.O_CoverWays.f_savedStates a), va_rf (S.O_CoverWays.f_snapshots a), va_rf (S.O_CoverWays.f_isKept a), va_rf v, va_rf (S.O_CoverWays.f_ways a), va_rf (S.O_CoverWays.f_rows a)])) = X ++ va_pl S.L (wPF cyI cyZ cyO49b63 { S with O_CoverWays := { S.O_CoverWays with f_text := va_up S.O_CoverWays.f_text a v } }) := by
  rw [va_pl_set hD hL hk]
  exact congrArg (fun l => X ++ l) (va_pl_congr (wSt_O_CoverWays_f_text cyI cyZ cyO49b63 S h v))
theorem wSt_O_CoverWays_f_ways (cyI : ClassId) (cyZ : ClassId) (cyO49b63 : ClassId) (S : wPS) {a : Nat} (h : S.K a = 4) (v : Option Nat) (b : Nat) : va_up (wPF cyI cyZ cyO49b63 S) a (.inr (4, [va_rf (S.O_CoverWays.f_now a), va_rf (S.O_CoverWays.f_trial a), va_rf (S.O_CoverWays.f_saved a), .int (S.O_CoverWays.f_savedStates a), va_rf (S.O_CoverWays.f_snapshots a), va_rf (S.O_CoverWays.f_isKept a), va_rf (S.O_CoverWays.f_text a), va_rf v, va_rf (S.O_CoverWays.f_rows a)])) b = wPF cyI cyZ cyO49b63 { S with O_CoverWays := { S.O_CoverWays with f_ways := va_up S.O_CoverWays.f_ways a v } } b := by by_cases hb : b = a <;> first | (simp only [wPF, va_up_ne _ _ hb]; done) | (simp only [wPF, va_up, if_neg hb]; done) | simp [wPF, va_re, va_up, va_rf, hb, h]
theorem wPu_O_CoverWays_f_ways (cyI : ClassId) (cyZ : ClassId) (cyO49b63 : ClassId) (X : va_W) (S : wPS) {A : Nat → Prop} {a k : Nat} (hD : va_D A (X ++ va_pl S.L (wPF cyI cyZ cyO49b63 S))) (hL : a ∈ S.L) (h : S.K a = 4) (hk : (X ++ va_pl S.L (wPF cyI cyZ cyO49b63 S))[k]? = some (a, wPF cyI cyZ cyO49b63 S a)) (v : Option Nat) : (X ++ va_pl S.L (wPF cyI cyZ cyO49b63 S)).set k (a, .inr (4, [va_rf (S.O_CoverWays.f_now a), va_rf (S.O_CoverWays.f_trial a), va_rf (S.O_CoverWays.f_saved a), .int (S.O_CoverWays.f_savedStates a), va_rf (S.O_CoverWays.f_snapshots a), va_rf (S.O_CoverWays.f_isKept a), va_rf (S.O_CoverWays.f_text a), va_rf v, va_rf (S.O_CoverWays.f_rows a)])) = X ++ va_pl S.L (wPF cyI cyZ cyO49b63 { S with O_CoverWays := { S.O_CoverWays with f_ways := va_up S.O_CoverWays.f_ways a v } }) := by
  rw [va_pl_set hD hL hk]
  exact congrArg (fun l => X ++ l) (va_pl_congr (wSt_O_CoverWays_f_ways cyI cyZ cyO49b63 S h v))
theorem wSt_O_CoverWays_f_rows (cyI : ClassId) (cyZ : ClassId) (cyO49b63 : ClassId) (S : wPS) {a : Nat} (h : S.K a = 4) (v : Option Nat) (b : Nat) : va_up (wPF cyI cyZ cyO49b63 S) a (.inr (4, [va_rf (S.O_CoverWays.f_now a), va_rf (S.O_CoverWays.f_trial a), va_rf (S.O_CoverWays.f_saved a), .int (S.O_CoverWays.f_savedStates a), va_rf (S.O_CoverWays.f_snapshots a), va_rf (S.O_CoverWays.f_isKept a), va_rf (S.O_CoverWays.f_text a), va_rf (S.O_CoverWays.f_ways a), va_rf v])) b = wPF cyI cyZ cyO49b63 { S with O_CoverWays := { S.O_CoverWays with f_rows := va_up S.O_CoverWays.f_rows a v } } b := by by_cases hb : b = a <;> first | (simp only [wPF, va_up_ne _ _ hb]; done) | (simp only [wPF, va_up, if_neg hb]; done) | simp [wPF, va_re, va_up, va_rf, hb, h]
theorem wPu_O_CoverWays_f_rows (cyI : ClassId) (cyZ : ClassId) (cyO49b63 : ClassId) (X : va_W) (S : wPS) {A : Nat → Prop} {a k : Nat} (hD : va_D A (X ++ va_pl S.L (wPF cyI cyZ cyO49b63 S))) (hL : a ∈ S.L) (h : S.K a = 4) (hk : (X ++ va_pl S.L (wPF cyI cyZ cyO49b63 S))[k]? = some (a, wPF cyI cyZ cyO49b63 S a)) (v : Option Nat) : (X ++ va_pl S.L (wPF cyI cyZ cyO49b63 S)).set k (a, .inr (4, [va_rf (S.O_CoverWays.f_now a), va_rf (S.O_CoverWays.f_trial a), va_rf (S.O_CoverWays.f_saved a), .int (S.O_CoverWays.f_savedStates a), va_rf (S.O_CoverWays.f_snapshots a), va_rf (S.O_CoverWays.f_isKept a), va_rf (S.O_CoverWays.f_text a), va_rf (S.O_CoverWays.f_ways a), va_rf v])) = X ++ va_pl S.L (wPF cyI cyZ cyO49b63 { S with O_CoverWays := { S.O_CoverWays with f_rows := va_up S.O_CoverWays.f_rows a v } }) := by
  rw [va_pl_set hD hL hk]
  exact congrArg (fun l => X ++ l) (va_pl_congr (wSt_O_CoverWays_f_rows cyI cyZ cyO49b63 S h v))
theorem wNw_O_CoverWays (cyI : ClassId) (cyZ : ClassId) (cyO49b63 : ClassId) (S : wPS) (a b : Nat) : va_up (wPF cyI cyZ cyO49b63 S) a (.inr (4, [.null, .null, .null, .int 0, .null, .null, .null, .null, .null])) b = wPF cyI cyZ cyO49b63 { S with L := S.L ++ [a], K := va_up S.K a 4, O_CoverWays := { f_now := va_up S.O_CoverWays.f_now a none, f_trial := va_up S.O_CoverWays.f_trial a none, f_saved := va_up S.O_CoverWays.f_saved a none, f_savedStates := va_up S.O_CoverWays.f_savedStates a 0, f_snapshots := va_up S.O_CoverWays.f_snapshots a none, f_isKept := va_up S.O_CoverWays.f_isKept a none, f_text := va_up S.O_CoverWays.f_text a none, f_ways := va_up S.O_CoverWays.f_ways a none, f_rows := va_up S.O_CoverWays.f_rows a none } } b := by by_cases hb : b = a <;> first | (simp only [wPF, va_up_ne _ _ hb]; done) | (simp only [wPF, va_up, if_neg hb]; done) | simp [wPF, va_re, va_up, va_rf, hb]
theorem wPn_O_CoverWays (cyI : ClassId) (cyZ : ClassId) (cyO49b63 : ClassId) (X : va_W) (S : wPS) {a : Nat} (ha : a ∉ S.L) : (X ++ va_pl S.L (wPF cyI cyZ cyO49b63 S)) ++ [(a, .inr (4, [.null, .null, .null, .int 0, .null, .null, .null, .null, .null]))] = X ++ va_pl (S.L ++ [a]) (wPF cyI cyZ cyO49b63 { S with L := S.L ++ [a], K := va_up S.K a 4, O_CoverWays := { f_now := va_up S.O_CoverWays.f_now a none, f_trial := va_up S.O_CoverWays.f_trial a none, f_saved := va_up S.O_CoverWays.f_saved a none, f_savedStates := va_up S.O_CoverWays.f_savedStates a 0, f_snapshots := va_up S.O_CoverWays.f_snapshots a none, f_isKept := va_up S.O_CoverWays.f_isKept a none, f_text := va_up S.O_CoverWays.f_text a none, f_ways := va_up S.O_CoverWays.f_ways a none, f_rows := va_up S.O_CoverWays.f_rows a none } }) := by
  rw [List.append_assoc, va_pl_push ha]
  exact congrArg (fun l => X ++ l) (va_pl_congr (wNw_O_CoverWays cyI cyZ cyO49b63 S a))
theorem wAt_O_CoverWaysModel (cyI : ClassId) (cyZ : ClassId) (cyO49b63 : ClassId) (S : wPS) {a : Nat} (h : S.K a = 5) : wPF cyI cyZ cyO49b63 S a = .inr (5, [.int (S.O_CoverWaysModel.f_thrown a), va_rf (S.O_CoverWaysModel.f_s a), va_rf (S.O_CoverWaysModel.f_aside a), va_rf (S.O_CoverWaysModel.f_slots a), va_rf (S.O_CoverWaysModel.f_isKept a), va_rf (S.O_CoverWaysModel.f_saved a), .int (S.O_CoverWaysModel.f_savedMany a), va_rf (S.O_CoverWaysModel.f_text a), .int (S.O_CoverWaysModel.f_length a), .long (S.O_CoverWaysModel.f_digested a)]) := by simp [wPF, h]
theorem wGt_O_CoverWaysModel (cyI : ClassId) (cyZ : ClassId) (cyO49b63 : ClassId) (X : va_W) (S : wPS) {a : Nat} (hL : a ∈ S.L) (h : S.K a = 5) : ∃ k : Nat, (X ++ va_pl S.L (wPF cyI cyZ cyO49b63 S))[k]? = some (a, wPF cyI cyZ cyO49b63 S a) ∧ (X ++ va_pl S.L (wPF cyI cyZ cyO49b63 S))[k]? = some (a, .inr (5, [.int (S.O_CoverWaysModel.f_thrown a), va_rf (S.O_CoverWaysModel.f_s a), va_rf (S.O_CoverWaysModel.f_aside a), va_rf (S.O_CoverWaysModel.f_slots a), va_rf (S.O_CoverWaysModel.f_isKept a), va_rf (S.O_CoverWaysModel.f_saved a), .int (S.O_CoverWaysModel.f_savedMany a), va_rf (S.O_CoverWaysModel.f_text a), .int (S.O_CoverWaysModel.f_length a), .long (S.O_CoverWaysModel.f_digested a)])) := by
  obtain ⟨k, hk⟩ := va_pl_get (X := X) (f := wPF cyI cyZ cyO49b63 S) hL
  exact ⟨k, hk, hk.trans (congrArg (fun e => some (a, e)) (wAt_O_CoverWaysModel cyI cyZ cyO49b63 S h))⟩
theorem wSt_O_CoverWaysModel_f_thrown (cyI : ClassId) (cyZ : ClassId) (cyO49b63 : ClassId) (S : wPS) {a : Nat} (h : S.K a = 5) (v : Int32) (b : Nat) : va_up (wPF cyI cyZ cyO49b63 S) a (.inr (5, [.int v, va_rf (S.O_CoverWaysModel.f_s a), va_rf (S.O_CoverWaysModel.f_aside a), va_rf (S.O_CoverWaysModel.f_slots a), va_rf (S.O_CoverWaysModel.f_isKept a), va_rf (S.O_CoverWaysModel.f_saved a), .int (S.O_CoverWaysModel.f_savedMany a), va_rf (S.O_CoverWaysModel.f_text a), .int (S.O_CoverWaysModel.f_length a), .long (S.O_CoverWaysModel.f_digested a)])) b = wPF cyI cyZ cyO49b63 { S with O_CoverWaysModel := { S.O_CoverWaysModel with f_thrown := va_up S.O_CoverWaysModel.f_thrown a v } } b := by by_cases hb : b = a <;> first | (simp only [wPF, va_up_ne _ _ hb]; done) | (simp only [wPF, va_up, if_neg hb]; done) | simp [wPF, va_re, va_up, va_rf, hb, h]
theorem wPu_O_CoverWaysModel_f_thrown (cyI : ClassId) (cyZ : ClassId) (cyO49b63 : ClassId) (X : va_W) (S : wPS) {A : Nat → Prop} {a k : Nat} (hD : va_D A (X ++ va_pl S.L (wPF cyI cyZ cyO49b63 S))) (hL : a ∈ S.L) (h : S.K a = 5) (hk : (X ++ va_pl S.L (wPF cyI cyZ cyO49b63 S))[k]? = some (a, wPF cyI cyZ cyO49b63 S a)) (v : Int32) : (X ++ va_pl S.L (wPF cyI cyZ cyO49b63 S)).set k (a, .inr (5, [.int v, va_rf (S.O_CoverWaysModel.f_s a), va_rf (S.O_CoverWaysModel.f_aside a), va_rf (S.O_CoverWaysModel.f_slots a), va_rf (S.O_CoverWaysModel.f_isKept a), va_rf (S.O_CoverWaysModel.f_saved a), .int (S.O_CoverWaysModel.f_savedMany a), va_rf (S.O_CoverWaysModel.f_text a), .int (S.O_CoverWaysModel.f_length a), .long (S.O_CoverWaysModel.f_digested a)])) = X ++ va_pl S.L (wPF cyI cyZ cyO49b63 { S with O_CoverWaysModel := { S.O_CoverWaysModel with f_thrown := va_up S.O_CoverWaysModel.f_thrown a v } }) := by
  rw [va_pl_set hD hL hk]
  exact congrArg (fun l => X ++ l) (va_pl_congr (wSt_O_CoverWaysModel_f_thrown cyI cyZ cyO49b63 S h v))
theorem wSt_O_CoverWaysModel_f_s (cyI : ClassId) (cyZ : ClassId) (cyO49b63 : ClassId) (S : wPS) {a : Nat} (h : S.K a = 5) (v : Option Nat) (b : Nat) : va_up (wPF cyI cyZ cyO49b63 S) a (.inr (5, [.int (S.O_CoverWaysModel.f_thrown a), va_rf v, va_rf (S.O_CoverWaysModel.f_aside a), va_rf (S.O_CoverWaysModel.f_slots a), va_rf (S.O_CoverWaysModel.f_isKept a), va_rf (S.O_CoverWaysModel.f_saved a), .int (S.O_CoverWaysModel.f_savedMany a), va_rf (S.O_CoverWaysModel.f_text a), .int (S.O_CoverWaysModel.f_length a), .long (S.O_CoverWaysModel.f_digested a)])) b = wPF cyI cyZ cyO49b63 { S with O_CoverWaysModel := { S.O_CoverWaysModel with f_s := va_up S.O_CoverWaysModel.f_s a v } } b := by by_cases hb : b = a <;> first | (simp only [wPF, va_up_ne _ _ hb]; done) | (simp only [wPF, va_up, if_neg hb]; done) | simp [wPF, va_re, va_up, va_rf, hb, h]
theorem wPu_O_CoverWaysModel_f_s (cyI : ClassId) (cyZ : ClassId) (cyO49b63 : ClassId) (X : va_W) (S : wPS) {A : Nat → Prop} {a k : Nat} (hD : va_D A (X ++ va_pl S.L (wPF cyI cyZ cyO49b63 S))) (hL : a ∈ S.L) (h : S.K a = 5) (hk : (X ++ va_pl S.L (wPF cyI cyZ cyO49b63 S))[k]? = some (a, wPF cyI cyZ cyO49b63 S a)) (v : Option Nat) : (X ++ va_pl S.L (wPF cyI cyZ cyO49b63 S)).set k (a, .inr (5, [.int (S.O_CoverWaysModel.f_thrown a), va_rf v, va_rf (S.O_CoverWaysModel.f_aside a), va_rf (S.O_CoverWaysModel.f_slots a), va_rf (S.O_CoverWaysModel.f_isKept a), va_rf (S.O_CoverWaysModel.f_saved a), .int (S.O_CoverWaysModel.f_savedMany a), va_rf (S.O_CoverWaysModel.f_text a), .int (S.O_CoverWaysModel.f_length a), .long (S.O_CoverWaysModel.f_digested a)])) = X ++ va_pl S.L (wPF cyI cyZ cyO49b63 { S with O_CoverWaysModel := { S.O_CoverWaysModel with f_s := va_up S.O_CoverWaysModel.f_s a v } }) := by
  rw [va_pl_set hD hL hk]
  exact congrArg (fun l => X ++ l) (va_pl_congr (wSt_O_CoverWaysModel_f_s cyI cyZ cyO49b63 S h v))
theorem wSt_O_CoverWaysModel_f_aside (cyI : ClassId) (cyZ : ClassId) (cyO49b63 : ClassId) (S : wPS) {a : Nat} (h : S.K a = 5) (v : Option Nat) (b : Nat) : va_up (wPF cyI cyZ cyO49b63 S) a (.inr (5, [.int (S.O_CoverWaysModel.f_thrown a), va_rf (S.O_CoverWaysModel.f_s a), va_rf v, va_rf (S.O_CoverWaysModel.f_slots a), va_rf (S.O_CoverWaysModel.f_isKept a), va_rf (S.O_CoverWaysModel.f_saved a), .int (S.O_CoverWaysModel.f_savedMany a), va_rf (S.O_CoverWaysModel.f_text a), .int (S.O_CoverWaysModel.f_length a), .long (S.O_CoverWaysModel.f_digested a)])) b = wPF cyI cyZ cyO49b63 { S with O_CoverWaysModel := { S.O_CoverWaysModel with f_aside := va_up S.O_CoverWaysModel.f_aside a v } } b := by by_cases hb : b = a <;> first | (simp only [wPF, va_up_ne _ _ hb]; done) | (simp only [wPF, va_up, if_neg hb]; done) | simp [wPF, va_re, va_up, va_rf, hb, h]
theorem wPu_O_CoverWaysModel_f_aside (cyI : ClassId) (cyZ : ClassId) (cyO49b63 : ClassId) (X : va_W) (S : wPS) {A : Nat → Prop} {a k : Nat} (hD : va_D A (X ++ va_pl S.L (wPF cyI cyZ cyO49b63 S))) (hL : a ∈ S.L) (h : S.K a = 5) (hk : (X ++ va_pl S.L (wPF cyI cyZ cyO49b63 S))[k]? = some (a, wPF cyI cyZ cyO49b63 S a)) (v : Option Nat) : (X ++ va_pl S.L (wPF cyI cyZ cyO49b63 S)).set k (a, .inr (5, [.int (S.O_CoverWaysModel.f_thrown a), va_rf (S.O_CoverWaysModel.f_s a), va_rf v, va_rf (S.O_CoverWaysModel.f_slots a), va_rf (S.O_CoverWaysModel.f_isKept a), va_rf (S.O_CoverWaysModel.f_saved a), .int (S.O_CoverWaysModel.f_savedMany a), va_rf (S.O_CoverWaysModel.f_text a), .int (S.O_CoverWaysModel.f_length a), .long (S.O_CoverWaysModel.f_digested a)])) = X ++ va_pl S.L (wPF cyI cyZ cyO49b63 { S with O_CoverWaysModel := { S.O_CoverWaysModel with f_aside := va_up S.O_CoverWaysModel.f_aside a v } }) := by
  rw [va_pl_set hD hL hk]
  exact congrArg (fun l => X ++ l) (va_pl_congr (wSt_O_CoverWaysModel_f_aside cyI cyZ cyO49b63 S h v))
theorem wSt_O_CoverWaysModel_f_slots (cyI : ClassId) (cyZ : ClassId) (cyO49b63 : ClassId) (S : wPS) {a : Nat} (h : S.K a = 5) (v : Option Nat) (b : Nat) : va_up (wPF cyI cyZ cyO49b63 S) a (.inr (5, [.int (S.O_CoverWaysModel.f_thrown a), va_rf (S.O_CoverWaysModel.f_s a), va_rf (S.O_CoverWaysModel.f_aside a), va_rf v, va_rf (S.O_CoverWaysModel.f_isKept a), va_rf (S.O_CoverWaysModel.f_saved a), .int (S.O_CoverWaysModel.f_savedMany a), va_rf (S.O_CoverWaysModel.f_text a), .int (S.O_CoverWaysModel.f_length a), .long (S.O_CoverWaysModel.f_digested a)])) b = wPF cyI cyZ cyO49b63 { S with O_CoverWaysModel := { S.O_CoverWaysModel with f_slots := va_up S.O_CoverWaysModel.f_slots a v } } b := by by_cases hb : b = a <;> first | (simp only [wPF, va_up_ne _ _ hb]; done) | (simp only [wPF, va_up, if_neg hb]; done) | simp [wPF, va_re, va_up, va_rf, hb, h]
theorem wPu_O_CoverWaysModel_f_slots (cyI : ClassId) (cyZ : ClassId) (cyO49b63 : ClassId) (X : va_W) (S : wPS) {A : Nat → Prop} {a k : Nat} (hD : va_D A (X ++ va_pl S.L (wPF cyI cyZ cyO49b63 S))) (hL : a ∈ S.L) (h : S.K a = 5) (hk : (X ++ va_pl S.L (wPF cyI cyZ cyO49b63 S))[k]? = some (a, wPF cyI cyZ cyO49b63 S a)) (v : Option Nat) : (X ++ va_pl S.L (wPF cyI cyZ cyO49b63 S)).set k (a, .inr (5, [.int (S.O_CoverWaysModel.f_thrown a), va_rf (S.O_CoverWaysModel.f_s a), va_rf (S.O_CoverWaysModel.f_aside a), va_rf v, va_rf (S.O_CoverWaysModel.f_isKept a), va_rf (S.O_CoverWaysModel.f_saved a), .int (S.O_CoverWaysModel.f_savedMany a), va_rf (S.O_CoverWaysModel.f_text a), .int (S.O_CoverWaysModel.f_length a), .long (S.O_CoverWaysModel.f_digested a)])) = X ++ va_pl S.L (wPF cyI cyZ cyO49b63 { S with O_CoverWaysModel := { S.O_CoverWaysModel with f_slots := va_up S.O_CoverWaysModel.f_slots a v } }) := by
  rw [va_pl_set hD hL hk]
  exact congrArg (fun l => X ++ l) (va_pl_congr (wSt_O_CoverWaysModel_f_slots cyI cyZ cyO49b63 S h v))
theorem wSt_O_CoverWaysModel_f_isKept (cyI : ClassId) (cyZ : ClassId) (cyO49b63 : ClassId) (S : wPS) {a : Nat} (h : S.K a = 5) (v : Option Nat) (b : Nat) : va_up (wPF cyI cyZ cyO49b63 S) a (.inr (5, [.int (S.O_CoverWaysModel.f_thrown a), va_rf (S.O_CoverWaysModel.f_s a), va_rf (S.O_CoverWaysModel.f_aside a), va_rf (S.O_CoverWaysModel.f_slots a), va_rf v, va_rf (S.O_CoverWaysModel.f_saved a), .int (S.O_CoverWaysModel.f_savedMany a), va_rf (S.O_CoverWaysModel.f_text a), .int (S.O_CoverWaysModel.f_length a), .long (S.O_CoverWaysModel.f_digested a)])) b = wPF cyI cyZ cyO49b63 { S with O_CoverWaysModel := { S.O_CoverWaysModel with f_isKept := va_up S.O_CoverWaysModel.f_isKept a v } } b := by by_cases hb : b = a <;> first | (simp only [wPF, va_up_ne _ _ hb]; done) | (simp only [wPF, va_up, if_neg hb]; done) | simp [wPF, va_re, va_up, va_rf, hb, h]
theorem wPu_O_CoverWaysModel_f_isKept (cyI : ClassId) (cyZ : ClassId) (cyO49b63 : ClassId) (X : va_W) (S : wPS) {A : Nat → Prop} {a k : Nat} (hD : va_D A (X ++ va_pl S.L (wPF cyI cyZ cyO49b63 S))) (hL : a ∈ S.L) (h : S.K a = 5) (hk : (X ++ va_pl S.L (wPF cyI cyZ cyO49b63 S))[k]? = some (a, wPF cyI cyZ cyO49b63 S a)) (v : Option Nat) : (X ++ va_pl S.L (wPF cyI cyZ cyO49b63 S)).set k (a, .inr (5, [.int (S.O_CoverWaysModel.f_thrown a), va_rf (S.O_CoverWaysModel.f_s a), va_rf (S.O_CoverWaysModel.f_aside a), va_rf (S.O_CoverWaysModel.f_slots a), va_rf v, va_rf (S.O_CoverWaysModel.f_saved a), .int (S.O_CoverWaysModel.f_savedMany a), va_rf (S.O_CoverWaysModel.f_text a), .int (S.O_CoverWaysModel.f_length a), .long (S.O_CoverWaysModel.f_digested a)])) = X ++ va_pl S.L (wPF cyI cyZ cyO49b63 { S with O_CoverWaysModel := { S.O_CoverWaysModel with f_isKept := va_up S.O_CoverWaysModel.f_isKept a v } }) := by
  rw [va_pl_set hD hL hk]
  exact congrArg (fun l => X ++ l) (va_pl_congr (wSt_O_CoverWaysModel_f_isKept cyI cyZ cyO49b63 S h v))
theorem wSt_O_CoverWaysModel_f_saved (cyI : ClassId) (cyZ : ClassId) (cyO49b63 : ClassId) (S : wPS) {a : Nat} (h : S.K a = 5) (v : Option Nat) (b : Nat) : va_up (wPF cyI cyZ cyO49b63 S) a (.inr (5, [.int (S.O_CoverWaysModel.f_thrown a), va_rf (S.O_CoverWaysModel.f_s a), va_rf (S.O_CoverWaysModel.f_aside a), va_rf (S.O_CoverWaysModel.f_slots a), va_rf (S.O_CoverWaysModel.f_isKept a), va_rf v, .int (S.O_CoverWaysModel.f_savedMany a), va_rf (S.O_CoverWaysModel.f_text a), .int (S.O_CoverWaysModel.f_length a), .long (S.O_CoverWaysModel.f_digested a)])) b = wPF cyI cyZ cyO49b63 { S with O_CoverWaysModel := { S.O_CoverWaysModel with f_saved := va_up S.O_CoverWaysModel.f_saved a v } } b := by by_cases hb : b = a <;> first | (simp only [wPF, va_up_ne _ _ hb]; done) | (simp only [wPF, va_up, if_neg hb]; done) | simp [wPF, va_re, va_up, va_rf, hb, h]
theorem wPu_O_CoverWaysModel_f_saved (cyI : ClassId) (cyZ : ClassId) (cyO49b63 : ClassId) (X : va_W) (S : wPS) {A : Nat → Prop} {a k : Nat} (hD : va_D A (X ++ va_pl S.L (wPF cyI cyZ cyO49b63 S))) (hL : a ∈ S.L) (h : S.K a = 5) (hk : (X ++ va_pl S.L (wPF cyI cyZ cyO49b63 S))[k]? = some (a, wPF cyI cyZ cyO49b63 S a)) (v : Option Nat) : (X ++ va_pl S.L (wPF cyI cyZ cyO49b63 S)).set k (a, .inr (5, [.int (S.O_CoverWaysModel.f_thrown a), va_rf (S.O_CoverWaysModel.f_s a), va_rf (S.O_CoverWaysModel.f_aside a), va_rf (S.O_CoverWaysModel.f_slots a), va_rf (S.O_CoverWaysModel.f_isKept a), va_rf v, .int (S.O_CoverWaysModel.f_savedMany a), va_rf (S.O_CoverWaysModel.f_text a), .int (S.O_CoverWaysModel.f_length a), .long (S.O_CoverWaysModel.f_digested a)])) = X ++ va_pl S.L (wPF cyI cyZ cyO49b63 { S with O_CoverWaysModel := { S.O_CoverWaysModel with f_saved := va_up S.O_CoverWaysModel.f_saved a v } }) := by
  rw [va_pl_set hD hL hk]
  exact congrArg (fun l => X ++ l) (va_pl_congr (wSt_O_CoverWaysModel_f_saved cyI cyZ cyO49b63 S h v))
theorem wSt_O_CoverWaysModel_f_savedMany (cyI : ClassId) (cyZ : ClassId) (cyO49b63 : ClassId) (S : wPS) {a : Nat} (h : S.K a = 5) (v : Int32) (b : Nat) : va_up (wPF cyI cyZ cyO49b63 S) a (.inr (5, [.int (S.O_CoverWaysModel.f_thrown a), va_rf (S.O_CoverWaysModel.f_s a), va_rf (S.O_CoverWaysModel.f_aside a), va_rf (S.O_CoverWaysModel.f_slots a), va_rf (S.O_CoverWaysModel.f_isKept a), va_rf (S.O_CoverWaysModel.f_saved a), .int v, va_rf (S.O_CoverWaysModel.f_text a), .int (S.O_CoverWaysModel.f_length a), .long (S.O_CoverWaysModel.f_digested a)])) b = wPF cyI cyZ cyO49b63 { S with O_CoverWaysModel := { S.O_CoverWaysModel with f_savedMany := va_up S.O_CoverWaysModel.f_savedMany a v } } b := by by_cases hb : b = a <;> first | (simp only [wPF, va_up_ne _ _ hb]; done) | (simp only [wPF, va_up, if_neg hb]; done) | simp [wPF, va_re, va_up, va_rf, hb, h]
theorem wPu_O_CoverWaysModel_f_savedMany (cyI : ClassId) (cyZ : ClassId) (cyO49b63 : ClassId) (X : va_W) (S : wPS) {A : Nat → Prop} {a k : Nat} (hD : va_D A (X ++ va_pl S.L (wPF cyI cyZ cyO49b63 S))) (hL : a ∈ S.L) (h : S.K a = 5) (hk : (X ++ va_pl S.L (wPF cyI cyZ cyO49b63 S))[k]? = some (a, wPF cyI cyZ cyO49b63 S a)) (v : Int32) : (X ++ va_pl S.L (wPF cyI cyZ cyO49b63 S)).set k (a, .inr (5, [.int (S.O_CoverWaysModel.f_thrown a), va_rf (S.O_CoverWaysModel.f_s a), va_rf (S.O_CoverWaysModel.f_aside a), va_rf (S.O_CoverWaysModel.f_slots a), va_rf (S.O_CoverWaysModel.f_isKept a), va_rf (S.O_CoverWaysModel.f_saved a), .int v, va_rf (S.O_CoverWaysModel.f_text a), .int (S.O_CoverWaysModel.f_length a), .long (S.O_CoverWaysModel.f_digested a)])) = X ++ va_pl S.L (wPF cyI cyZ cyO49b63 { S with O_CoverWaysModel := { S.O_CoverWaysModel with f_savedMany := va_up S.O_CoverWaysModel.f_savedMany a v } }) := by
  rw [va_pl_set hD hL hk]
  exact congrArg (fun l => X ++ l) (va_pl_congr (wSt_O_CoverWaysModel_f_savedMany cyI cyZ cyO49b63 S h v))
theorem wSt_O_CoverWaysModel_f_text (cyI : ClassId) (cyZ : ClassId) (cyO49b63 : ClassId) (S : wPS) {a : Nat} (h : S.K a = 5) (v : Option Nat) (b : Nat) : va_up (wPF cyI cyZ cyO49b63 S) a (.inr (5, [.int (S.O_CoverWaysModel.f_thrown a), va_rf (S.O_CoverWaysModel.f_s a), va_rf (S.O_CoverWaysModel.f_aside a), va_rf (S.O_CoverWaysModel.f_slots a), va_rf (S.O_CoverWaysModel.f_isKept a), va_rf (S.O_CoverWaysModel.f_saved a), .int (S.O_CoverWaysModel.f_savedMany a), va_rf v, .int (S.O_CoverWaysModel.f_length a), .long (S.O_CoverWaysModel.f_digested a)])) b = wPF cyI cyZ cyO49b63 { S with O_CoverWaysModel := { S.O_CoverWaysModel with f_text := va_up S.O_CoverWaysModel.f_text a v } } b := by by_cases hb : b = a <;> first | (simp only [wPF, va_up_ne _ _ hb]; done) | (simp only [wPF, va_up, if_neg hb]; done) | simp [wPF, va_re, va_up, va_rf, hb, h]
theorem wPu_O_CoverWaysModel_f_text (cyI : ClassId) (cyZ : ClassId) (cyO49b63 : ClassId) (X : va_W) (S : wPS) {A : Nat → Prop} {a k : Nat} (hD : va_D A (X ++ va_pl S.L (wPF cyI cyZ cyO49b63 S))) (hL : a ∈ S.L) (h : S.K a = 5) (hk : (X ++ va_pl S.L (wPF cyI cyZ cyO49b63 S))[k]? = some (a, wPF cyI cyZ cyO49b63 S a)) (v : Option Nat) : (X ++ va_pl S.L (wPF cyI cyZ cyO49b63 S)).set k (a, .inr (5, [.int (S.O_CoverWaysModel.f_thrown a), va_rf (S.O_CoverWaysModel.f_s a), va_rf (S.O_CoverWaysModel.f_aside a), va_rf (S.O_CoverWaysModel.f_slots a), va_rf (S.O_CoverWaysModel.f_isKept a), va_rf (S.O_CoverWaysModel.f_saved a), .int (S.O_CoverWaysModel.f_savedMany a), va_rf v, .int (S.O_CoverWaysModel.f_length a), .long (S.O_CoverWaysModel.f_digested a)])) = X ++ va_pl S.L (wPF cyI cyZ cyO49b63 { S with O_CoverWaysModel := { S.O_CoverWaysModel with f_text := va_up S.O_CoverWaysModel.f_text a v } }) := by
  rw [va_pl_set hD hL hk]
  exact congrArg (fun l => X ++ l) (va_pl_congr (wSt_O_CoverWaysModel_f_text cyI cyZ cyO49b63 S h v))
theorem wSt_O_CoverWaysModel_f_length (cyI : ClassId) (cyZ : ClassId) (cyO49b63 : ClassId) (S : wPS) {a : Nat} (h : S.K a = 5) (v : Int32) (b : Nat) : va_up (wPF cyI cyZ cyO49b63 S) a (.inr (5, [.int (S.O_CoverWaysModel.f_thrown a), va_rf (S.O_CoverWaysModel.f_s a), va_rf (S.O_CoverWaysModel.f_aside a), va_rf (S.O_CoverWaysModel.f_slots a), va_rf (S.O_CoverWaysModel.f_isKept a), va_rf (S.O_CoverWaysModel.f_saved a), .int (S.O_CoverWaysModel.f_savedMany a), va_rf (S.O_CoverWaysModel.f_text a), .int v, .long (S.O_CoverWaysModel.f_digested a)])) b = wPF cyI cyZ cyO49b63 { S with O_CoverWaysModel := { S.O_CoverWaysModel with f_length := va_up S.O_CoverWaysModel.f_length a v } } b := by by_cases hb : b = a <;> first | (simp only [wPF, va_up_ne _ _ hb]; done) | (simp only [wPF, va_up, if_neg hb]; done) | simp [wPF, va_re, va_up, va_rf, hb, h]
theorem wPu_O_CoverWaysModel_f_length (cyI : ClassId) (cyZ : ClassId) (cyO49b63 : ClassId) (X : va_W) (S : wPS) {A : Nat → Prop} {a k : Nat} (hD : va_D A (X ++ va_pl S.L (wPF cyI cyZ cyO49b63 S))) (hL : a ∈ S.L) (h : S.K a = 5) (hk : (X ++ va_pl S.L (wPF cyI cyZ cyO49b63 S))[k]? = some (a, wPF cyI cyZ cyO49b63 S a)) (v : Int32) : (X ++ va_pl S.L (wPF cyI cyZ cyO49b63 S)).set k (a, .inr (5, [.int (S.O_CoverWaysModel.f_thrown a), va_rf (S.O_CoverWaysModel.f_s a), va_rf (S.O_CoverWaysModel.f_aside a), va_rf (S.O_CoverWaysModel.f_slots a), va_rf (S.O_CoverWaysModel.f_isKept a), va_rf (S.O_CoverWaysModel.f_saved a), .int (S.O_CoverWaysModel.f_savedMany a), va_rf (S.O_CoverWaysModel.f_text a), .int v, .long (S.O_CoverWaysModel.f_digested a)])) = X ++ va_pl S.L (wPF cyI cyZ cyO49b63 { S with O_CoverWaysModel := { S.O_CoverWaysModel with f_length := va_up S.O_CoverWaysModel.f_length a v } }) := by
  rw [va_pl_set hD hL hk]
  exact congrArg (fun l => X ++ l) (va_pl_congr (wSt_O_CoverWaysModel_f_length cyI cyZ cyO49b63 S h v))
theorem wSt_O_CoverWaysModel_f_digested (cyI : ClassId) (cyZ : ClassId) (cyO49b63 : ClassId) (S : wPS) {a : Nat} (h : S.K a = 5) (v : Int64) (b : Nat) : va_up (wPF cyI cyZ cyO49b63 S) a (.inr (5, [.int (S.O_CoverWaysModel.f_thrown a), va_rf (S.O_CoverWaysModel.f_s a), va_rf (S.O_CoverWaysModel.f_aside a), va_rf (S.O_CoverWaysModel.f_slots a), va_rf (S.O_CoverWaysModel.f_isKept a), va_rf (S.O_CoverWaysModel.f_saved a), .int (S.O_CoverWaysModel.f_savedMany a), va_rf (S.O_CoverWaysModel.f_text a), .int (S.O_CoverWaysModel.f_length a), .long v])) b = wPF cyI cyZ cyO49b63 { S with O_CoverWaysModel := { S.O_CoverWaysModel with f_digested := va_up S.O_CoverWaysModel.f_digested a v } } b := by by_cases hb : b = a <;> first | (simp only [wPF, va_up_ne _ _ hb]; done) | (simp only [wPF, va_up, if_neg hb]; done) | simp [wPF, va_re, va_up, va_rf, hb, h]
theorem wPu_O_CoverWaysModel_f_digested (cyI : ClassId) (cyZ : ClassId) (cyO49b63 : ClassId) (X : va_W) (S : wPS) {A : Nat → Prop} {a k : Nat} (hD : va_D A (X ++ va_pl S.L (wPF cyI cyZ cyO49b63 S))) (hL : a ∈ S.L) (h : S.K a = 5) (hk : (X ++ va_pl S.L (wPF cyI cyZ cyO49b63 S))[k]? = some (a, wPF cyI cyZ cyO49b63 S a)) (v : Int64) : (X ++ va_pl S.L (wPF cyI cyZ cyO49b63 S)).set k (a, .inr (5, [.int (S.O_CoverWaysModel.f_thrown a), va_rf (S.O_CoverWaysModel.f_s a), va_rf (S.O_CoverWaysModel.f_aside a), va_rf (S.O_CoverWaysModel.f_slots a), va_rf (S.O_CoverWaysModel.f_isKept a), va_rf (S.O_CoverWaysModel.f_saved a), .int (S.O_CoverWaysModel.f_savedMany a), va_rf (S.O_CoverWaysModel.f_text a), .int (S.O_CoverWaysModel.f_length a), .long v])) = X ++ va_pl S.L (wPF cyI cyZ cyO49b63 { S with O_CoverWaysModel := { S.O_CoverWaysModel with f_digested := va_up S.O_CoverWaysModel.f_digested a v } }) := by
  rw [va_pl_set hD hL hk]
  exact congrArg (fun l => X ++ l) (va_pl_congr (wSt_O_CoverWaysModel_f_digested cyI cyZ cyO49b63 S h v))
theorem wNw_O_CoverWaysModel (cyI : ClassId) (cyZ : ClassId) (cyO49b63 : ClassId) (S : wPS) (a b : Nat) : va_up (wPF cyI cyZ cyO49b63 S) a (.inr (5, [.int 0, .null, .null, .null, .null, .null, .int 0, .null, .int 0, .long 0])) b = wPF cyI cyZ cyO49b63 { S with L := S.L ++ [a], K := va_up S.K a 5, O_CoverWaysModel := { f_thrown := va_up S.O_CoverWaysModel.f_thrown a 0, f_s := va_up S.O_CoverWaysModel.f_s a none, f_aside := va_up S.O_CoverWaysModel.f_aside a none, f_slots := va_up S.O_CoverWaysModel.f_slots a none, f_isKept := va_up S.O_CoverWaysModel.f_isKept a none, f_saved := va_up S.O_CoverWaysModel.f_saved a none, f_savedMany := va_up S.O_CoverWaysModel.f_savedMany a 0, f_text := va_up S.O_CoverWaysModel.f_text a none, f_length := va_up S.O_CoverWaysModel.f_length a 0, f_digested := va_up S.O_CoverWaysModel.f_digested a 0 } } b := by by_cases hb : b = a <;> first | (simp only [wPF, va_up_ne _ _ hb]; done) | (simp only [wPF, va_up, if_neg hb]; done) | simp [wPF, va_re, va_up, va_rf, hb]
theorem wPn_O_CoverWaysModel (cyI : ClassId) (cyZ : ClassId) (cyO49b63 : ClassId) (X : va_W) (S : wPS) {a : Nat} (ha : a ∉ S.L) : (X ++ va_pl S.L (wPF cyI cyZ cyO49b63 S)) ++ [(a, .inr (5, [.int 0, .null, .null, .null, .null, .null, .int 0, .null, .int 0, .long 0]))] = X ++ va_pl (S.L ++ [a]) (wPF cyI cyZ cyO49b63 { S with L := S.L ++ [a], K := va_up S.K a 5, O_CoverWaysModel := { f_thrown := va_up S.O_CoverWaysModel.f_thrown a 0, f_s := va_up S.O_CoverWaysModel.f_s a none, f_aside := va_up S.O_CoverWaysModel.f_aside a none, f_slots := va_up S.O_CoverWaysModel.f_slots a none, f_isKept := va_up S.O_CoverWaysModel.f_isKept a none, f_saved := va_up S.O_CoverWaysModel.f_saved a none, f_savedMany := va_up S.O_CoverWaysModel.f_savedMany a 0, f_text := va_up S.O_CoverWaysModel.f_text a none, f_length := va_up S.O_CoverWaysModel.f_length a 0, f_digested := va_up S.O_CoverWaysModel.f_digested a 0 } }) := by
  rw [List.append_assoc, va_pl_push ha]
  exact congrArg (fun l => X ++ l) (va_pl_congr (wNw_O_CoverWaysModel cyI cyZ cyO49b63 S a))
theorem wAt_R_I (cyI : ClassId) (cyZ : ClassId) (cyO49b63 : ClassId) (S : wPS) {a : Nat} (h : S.K a = 6) : wPF cyI cyZ cyO49b63 S a = .inl (cyI, S.R_I.len a, .inl (S.R_I.row a)) := by simp [wPF, h]
theorem wGt_R_I (cyI : ClassId) (cyZ : ClassId) (cyO49b63 : ClassId) (X : va_W) (S : wPS) {a : Nat} (hL : a ∈ S.L) (h : S.K a = 6) : ∃ k : Nat, (X ++ va_pl S.L (wPF cyI cyZ cyO49b63 S))[k]? = some (a, wPF cyI cyZ cyO49b63 S a) ∧ (X ++ va_pl S.L (wPF cyI cyZ cyO49b63 S))[k]? = some (a, .inl (cyI, S.R_I.len a, .inl (S.R_I.row a))) := by
  obtain ⟨k, hk⟩ := va_pl_get (X := X) (f := wPF cyI cyZ cyO49b63 S) hL
  exact ⟨k, hk, hk.trans (congrArg (fun e => some (a, e)) (wAt_R_I cyI cyZ cyO49b63 S h))⟩
theorem wSt_R_I_row (cyI : ClassId) (cyZ : ClassId) (cyO49b63 : ClassId) (S : wPS) {a : Nat} (h : S.K a = 6) (v : Nat → Int32) (b : Nat) : va_up (wPF cyI cyZ cyO49b63 S) a (.inl (cyI, S.R_I.len a, .inl v)) b = wPF cyI cyZ cyO49b63 { S with R_I := { S.R_I with row := va_up S.R_I.row a v } } b := by by_cases hb : b = a <;> first | (simp only [wPF, va_up_ne _ _ hb]; done) | (simp only [wPF, va_up, if_neg hb]; done) | simp [wPF, va_re, va_up, va_rf, hb, h]
theorem wPu_R_I_row (cyI : ClassId) (cyZ : ClassId) (cyO49b63 : ClassId) (X : va_W) (S : wPS) {A : Nat → Prop} {a k : Nat} (hD : va_D A (X ++ va_pl S.L (wPF cyI cyZ cyO49b63 S))) (hL : a ∈ S.L) (h : S.K a = 6) (hk : (X ++ va_pl S.L (wPF cyI cyZ cyO49b63 S))[k]? = some (a, wPF cyI cyZ cyO49b63 S a)) (v : Nat → Int32) : (X ++ va_pl S.L (wPF cyI cyZ cyO49b63 S)).set k (a, .inl (cyI, S.R_I.len a, .inl v)) = X ++ va_pl S.L (wPF cyI cyZ cyO49b63 { S with R_I := { S.R_I with row := va_up S.R_I.row a v } }) := by
  rw [va_pl_set hD hL hk]
  exact congrArg (fun l => X ++ l) (va_pl_congr (wSt_R_I_row cyI cyZ cyO49b63 S h v))
theorem wNw_R_I (cyI : ClassId) (cyZ : ClassId) (cyO49b63 : ClassId) (S : wPS) (a : Nat) (z : Nat) (f : Nat → Int32) (b : Nat) : va_up (wPF cyI cyZ cyO49b63 S) a (.inl (cyI, z, .inl f)) b = wPF cyI cyZ cyO49b63 { S with L := S.L ++ [a], K := va_up S.K a 6, R_I := { len := va_up S.R_I.len a z, row := va_up S.R_I.row a f } } b := by by_cases hb : b = a <;> first | (simp only [wPF, va_up_ne _ _ hb]; done) | (simp only [wPF, va_up, if_neg hb]; done) | simp [wPF, va_re, va_up, va_rf, hb]
theorem wAt_R_Z (cyI : ClassId) (cyZ : ClassId) (cyO49b63 : ClassId) (S : wPS) {a : Nat} (h : S.K a = 7) : wPF cyI cyZ cyO49b63 S a = .inl (cyZ, S.R_Z.len a, .inl (S.R_Z.row a)) := by simp [wPF, h]
theorem wGt_R_Z (cyI : ClassId) (cyZ : ClassId) (cyO49b63 : ClassId) (X : va_W) (S : wPS) {a : Nat} (hL : a ∈ S.L) (h : S.K a = 7) : ∃ k : Nat, (X ++ va_pl S.L (wPF cyI cyZ cyO49b63 S))[k]? = some (a, wPF cyI cyZ cyO49b63 S a) ∧ (X ++ va_pl S.L (wPF cyI cyZ cyO49b63 S))[k]? = some (a, .inl (cyZ, S.R_Z.len a, .inl (S.R_Z.row a))) := by
  obtain ⟨k, hk⟩ := va_pl_get (X := X) (f := wPF cyI cyZ cyO49b63 S) hL
  exact ⟨k, hk, hk.trans (congrArg (fun e => some (a, e)) (wAt_R_Z cyI cyZ cyO49b63 S h))⟩
theorem wSt_R_Z_row (cyI : ClassId) (cyZ : ClassId) (cyO49b63 : ClassId) (S : wPS) {a : Nat} (h : S.K a = 7) (v : Nat → Int32) (b : Nat) : va_up (wPF cyI cyZ cyO49b63 S) a (.inl (cyZ, S.R_Z.len a, .inl v)) b = wPF cyI cyZ cyO49b63 { S with R_Z := { S.R_Z with row := va_up S.R_Z.row a v } } b := by by_cases hb : b = a <;> first | (simp only [wPF, va_up_ne _ _ hb]; done) | (simp only [wPF, va_up, if_neg hb]; done) | simp [wPF, va_re, va_up, va_rf, hb, h]
theorem wPu_R_Z_row (cyI : ClassId) (cyZ : ClassId) (cyO49b63 : ClassId) (X : va_W) (S : wPS) {A : Nat → Prop} {a k : Nat} (hD : va_D A (X ++ va_pl S.L (wPF cyI cyZ cyO49b63 S))) (hL : a ∈ S.L) (h : S.K a = 7) (hk : (X ++ va_pl S.L (wPF cyI cyZ cyO49b63 S))[k]? = some (a, wPF cyI cyZ cyO49b63 S a)) (v : Nat → Int32) : (X ++ va_pl S.L (wPF cyI cyZ cyO49b63 S)).set k (a, .inl (cyZ, S.R_Z.len a, .inl v)) = X ++ va_pl S.L (wPF cyI cyZ cyO49b63 { S with R_Z := { S.R_Z with row := va_up S.R_Z.row a v } }) := by
  rw [va_pl_set hD hL hk]
  exact congrArg (fun l => X ++ l) (va_pl_congr (wSt_R_Z_row cyI cyZ cyO49b63 S h v))
theorem wNw_R_Z (cyI : ClassId) (cyZ : ClassId) (cyO49b63 : ClassId) (S : wPS) (a : Nat) (z : Nat) (f : Nat → Int32) (b : Nat) : va_up (wPF cyI cyZ cyO49b63 S) a (.inl (cyZ, z, .inl f)) b = wPF cyI cyZ cyO49b63 { S with L := S.L ++ [a], K := va_up S.K a 7, R_Z := { len := va_up S.R_Z.len a z, row := va_up S.R_Z.row a f } } b := by by_cases hb : b = a <;> first | (simp only [wPF, va_up_ne _ _ hb]; done) | (simp only [wPF, va_up, if_neg hb]; done) | simp [wPF, va_re, va_up, va_rf, hb]
theorem wAt_R_State (cyI : ClassId) (cyZ : ClassId) (cyO49b63 : ClassId) (S : wPS) {a : Nat} (h : S.K a = 8) : wPF cyI cyZ cyO49b63 S a = .inl (cyO49b63, S.R_State.len a, .inr (.inr (.inr (.inr (S.R_State.row a))))) := by simp [wPF, h]
theorem wGt_R_State (cyI : ClassId) (cyZ : ClassId) (cyO49b63 : ClassId) (X : va_W) (S : wPS) {a : Nat} (hL : a ∈ S.L) (h : S.K a = 8) : ∃ k : Nat, (X ++ va_pl S.L (wPF cyI cyZ cyO49b63 S))[k]? = some (a, wPF cyI cyZ cyO49b63 S a) ∧ (X ++ va_pl S.L (wPF cyI cyZ cyO49b63 S))[k]? = some (a, .inl (cyO49b63, S.R_State.len a, .inr (.inr (.inr (.inr (S.R_State.row a)))))) := by
  obtain ⟨k, hk⟩ := va_pl_get (X := X) (f := wPF cyI cyZ cyO49b63 S) hL
  exact ⟨k, hk, hk.trans (congrArg (fun e => some (a, e)) (wAt_R_State cyI cyZ cyO49b63 S h))⟩
theorem wSt_R_State_row (cyI : ClassId) (cyZ : ClassId) (cyO49b63 : ClassId) (S : wPS) {a : Nat} (h : S.K a = 8) (v : Nat → Option Nat) (b : Nat) : va_up (wPF cyI cyZ cyO49b63 S) a (.inl (cyO49b63, S.R_State.len a, .inr (.inr (.inr (.inr v))))) b = wPF cyI cyZ cyO49b63 { S with R_State := { S.R_State with row := va_up S.R_State.row a v } } b := by by_cases hb : b = a <;> first | (simp only [wPF, va_up_ne _ _ hb]; done) | (simp only [wPF, va_up, if_neg hb]; done) | simp [wPF, va_re, va_up, va_rf, hb, h]
theorem wPu_R_State_row (cyI : ClassId) (cyZ : ClassId) (cyO49b63 : ClassId) (X : va_W) (S : wPS) {A : Nat → Prop} {a k : Nat} (hD : va_D A (X ++ va_pl S.L (wPF cyI cyZ cyO49b63 S))) (hL : a ∈ S.L) (h : S.K a = 8) (hk : (X ++ va_pl S.L (wPF cyI cyZ cyO49b63 S))[k]? = some (a, wPF cyI cyZ cyO49b63 S a)) (v : Nat → Option Nat) : (X ++ va_pl S.L (wPF cyI cyZ cyO49b63 S)).set k (a, .inl (cyO49b63, S.R_State.len a, .inr (.inr (.inr (.inr v))))) = X ++ va_pl S.L (wPF cyI cyZ cyO49b63 { S with R_State := { S.R_State with row := va_up S.R_State.row a v } }) := by
  rw [va_pl_set hD hL hk]
  exact congrArg (fun l => X ++ l) (va_pl_congr (wSt_R_State_row cyI cyZ cyO49b63 S h v))
theorem wNw_R_State (cyI : ClassId) (cyZ : ClassId) (cyO49b63 : ClassId) (S : wPS) (a : Nat) (z : Nat) (f : Nat → Option Nat) (b : Nat) : va_up (wPF cyI cyZ cyO49b63 S) a (.inl (cyO49b63, z, .inr (.inr (.inr (.inr f))))) b = wPF cyI cyZ cyO49b63 { S with L := S.L ++ [a], K := va_up S.K a 8, R_State := { len := va_up S.R_State.len a z, row := va_up S.R_State.row a f } } b := by by_cases hb : b = a <;> first | (simp only [wPF, va_up_ne _ _ hb]; done) | (simp only [wPF, va_up, if_neg hb]; done) | simp [wPF, va_re, va_up, va_rf, hb]
/-! ===== END printed: names ===== -/
