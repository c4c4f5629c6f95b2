/-! names, fields, word lists (chosen out of the printed ones) -/
theorem goodIn_sub {big ws : List Cond} (hm : ∀ w ∈ ws, w ∈ big) (h : ws.all goodWord = true) : GoodIn big ws := fun w hw => ⟨hm w hw, good_of_word (List.all_eq_true.mp h w hw)⟩
def RX0 : String := "MensuralRows$Chain"
def TX0 : u_T := fun k => match k with
  | 0 => ("MensuralRows$Chain", "sorts", "[I", true)
  | 1 => ("MensuralRows$Chain", "kinds", "[I", true)
  | 2 => ("MensuralRows$Chain", "worths", "[I", true)
  | 3 => ("MensuralRows$Chain", "rests", "[I", true)
  | 4 => ("MensuralRows$Chain", "places", "[I", true)
  | 5 => ("MensuralRows$Chain", "spans", "LMensuralRows$Spans;", true)
  | _ => ("MensuralRows$Chain", "made", "I", false)
def tyX0 : Nat → FieldType := fun k => match k with
  | 0 => .array .int
  | 1 => .array .int
  | 2 => .array .int
  | 3 => .array .int
  | 4 => .array .int
  | 5 => .object "MensuralRows$Spans"
  | _ => .int
abbrev wsX00 : List Cond := u_ws RX0 TX0 7
theorem nmX0 : ∀ a, a < 7 → ∀ b, b < 7 → a ≠ b → (TX0 a).2.1 ≠ (TX0 b).2.1 := by decide +kernel
theorem tyX0_ok : ∀ k, k < 7 → parseFieldDescriptor (TX0 k).2.2.1 = some (tyX0 k) := by decide +kernel
abbrev cX0_init : ByteArray := prog_2_method_1_code
def yX0_init : MethodName := ⟨RX0, "<init>", "()V"⟩
abbrev cX0_begin : ByteArray := prog_2_method_2_code
def yX0_begin : MethodName := ⟨RX0, "begin", "()V"⟩
abbrev cX0_unit : ByteArray := prog_2_method_3_code
def yX0_unit : MethodName := ⟨RX0, "unit", "(II)I"⟩
abbrev cX0_pair : ByteArray := prog_2_method_4_code
def yX0_pair : MethodName := ⟨RX0, "pair", "(II)I"⟩
abbrev cX0_third : ByteArray := prog_2_method_5_code
def yX0_third : MethodName := ⟨RX0, "third", "(II)I"⟩
abbrev cX0_take : ByteArray := prog_2_method_6_code
def yX0_take : MethodName := ⟨RX0, "take", "(III)I"⟩
abbrev cX0_takeDotted : ByteArray := prog_2_method_7_code
def yX0_takeDotted : MethodName := ⟨RX0, "takeDotted", "(III)I"⟩
abbrev cX0_divide : ByteArray := prog_2_method_8_code
def yX0_divide : MethodName := ⟨RX0, "divide", "(I)I"⟩
abbrev cX0_push : ByteArray := prog_2_method_9_code
def yX0_push : MethodName := ⟨RX0, "push", "(IIIII)I"⟩
abbrev cX0_sortOf : ByteArray := prog_2_method_10_code
def yX0_sortOf : MethodName := ⟨RX0, "sortOf", "(I)I"⟩
abbrev cX0_kindOf : ByteArray := prog_2_method_11_code
def yX0_kindOf : MethodName := ⟨RX0, "kindOf", "(I)I"⟩
abbrev cX0_worthOf : ByteArray := prog_2_method_12_code
def yX0_worthOf : MethodName := ⟨RX0, "worthOf", "(I)I"⟩
abbrev cX0_restOf : ByteArray := prog_2_method_13_code
def yX0_restOf : MethodName := ⟨RX0, "restOf", "(I)I"⟩
abbrev cX0_placesOf : ByteArray := prog_2_method_14_code
def yX0_placesOf : MethodName := ⟨RX0, "placesOf", "(I)I"⟩
def RX1 : String := "MensuralRows$Draft"
def TX1 : u_T := fun k => match k with
  | 0 => ("MensuralRows$Draft", "forms", "[I", true)
  | 1 => ("MensuralRows$Draft", "ticks", "[I", true)
  | 2 => ("MensuralRows$Draft", "length", "I", false)
  | 3 => ("MensuralRows$Draft", "strain", "I", false)
  | 4 => ("MensuralRows$Draft", "place", "I", false)
  | _ => ("MensuralRows$Draft", "copies", "I", false)
def tyX1 : Nat → FieldType := fun k => match k with
  | 0 => .array .int
  | 1 => .array .int
  | 2 => .int
  | 3 => .int
  | 4 => .int
  | _ => .int
abbrev wsX10 : List Cond := u_ws RX1 TX1 6
theorem nmX1 : ∀ a, a < 6 → ∀ b, b < 6 → a ≠ b → (TX1 a).2.1 ≠ (TX1 b).2.1 := by decide +kernel
theorem tyX1_ok : ∀ k, k < 6 → parseFieldDescriptor (TX1 k).2.2.1 = some (tyX1 k) := by decide +kernel
abbrev cX1_init : ByteArray := prog_3_method_1_code
def yX1_init : MethodName := ⟨RX1, "<init>", "()V"⟩
abbrev cX1_begin : ByteArray := prog_3_method_2_code
def yX1_begin : MethodName := ⟨RX1, "begin", "()V"⟩
abbrev cX1_tell : ByteArray := prog_3_method_3_code
def yX1_tell : MethodName := ⟨RX1, "tell", "(I)V"⟩
abbrev cX1_take : ByteArray := prog_3_method_4_code
def yX1_take : MethodName := ⟨RX1, "take", "(I)V"⟩
abbrev cX1_takeDotted : ByteArray := prog_3_method_5_code
def yX1_takeDotted : MethodName := ⟨RX1, "takeDotted", "(I)V"⟩
abbrev cX1_formAt : ByteArray := prog_3_method_6_code
def yX1_formAt : MethodName := ⟨RX1, "formAt", "(I)I"⟩
abbrev cX1_ticksAt : ByteArray := prog_3_method_7_code
def yX1_ticksAt : MethodName := ⟨RX1, "ticksAt", "(I)I"⟩
def RX2 : String := "MensuralRows$Follower"
def TX2 : u_T := fun k => match k with
  | 0 => ("MensuralRows$Follower", "pitches", "[I", true)
  | 1 => ("MensuralRows$Follower", "beginUps", "[J", true)
  | 2 => ("MensuralRows$Follower", "beginDowns", "[J", true)
  | 3 => ("MensuralRows$Follower", "lengthUps", "[J", true)
  | 4 => ("MensuralRows$Follower", "lengthDowns", "[J", true)
  | 5 => ("MensuralRows$Follower", "now", "LMensuralRows$Ratio;", true)
  | 6 => ("MensuralRows$Follower", "lasting", "LMensuralRows$Ratio;", true)
  | _ => ("MensuralRows$Follower", "size", "I", false)
def tyX2 : Nat → FieldType := fun k => match k with
  | 0 => .array .int
  | 1 => .array .long
  | 2 => .array .long
  | 3 => .array .long
  | 4 => .array .long
  | 5 => .object "MensuralRows$Ratio"
  | 6 => .object "MensuralRows$Ratio"
  | _ => .int
abbrev wsX20 : List Cond := u_ws RX2 TX2 8
theorem nmX2 : ∀ a, a < 8 → ∀ b, b < 8 → a ≠ b → (TX2 a).2.1 ≠ (TX2 b).2.1 := by decide +kernel
theorem tyX2_ok : ∀ k, k < 8 → parseFieldDescriptor (TX2 k).2.2.1 = some (tyX2 k) := by decide +kernel
abbrev cX2_init : ByteArray := prog_4_method_1_code
def yX2_init : MethodName := ⟨RX2, "<init>", "()V"⟩
abbrev cX2_follow : ByteArray := prog_4_method_2_code
def yX2_follow : MethodName := ⟨RX2, "follow", "(LMensuralRows$Voice;III)V"⟩
abbrev cX2_append : ByteArray := prog_4_method_3_code
def yX2_append : MethodName := ⟨RX2, "append", "(I)V"⟩
abbrev cX2_tell : ByteArray := prog_4_method_4_code
def yX2_tell : MethodName := ⟨RX2, "tell", "(II)J"⟩
def RX3 : String := "MensuralRows$Found"
def TX3 : u_T := fun k => match k with
  | 0 => ("MensuralRows$Found", "words", "[J", true)
  | 1 => ("MensuralRows$Found", "strains", "[I", true)
  | 2 => ("MensuralRows$Found", "order", "[I", true)
  | 3 => ("MensuralRows$Found", "firstOfStrain", "[I", true)
  | _ => ("MensuralRows$Found", "total", "I", false)
def tyX3 : Nat → FieldType := fun k => match k with
  | 0 => .array .long
  | 1 => .array .int
  | 2 => .array .int
  | 3 => .array .int
  | _ => .int
abbrev wsX30 : List Cond := u_ws RX3 TX3 5
theorem nmX3 : ∀ a, a < 5 → ∀ b, b < 5 → a ≠ b → (TX3 a).2.1 ≠ (TX3 b).2.1 := by decide +kernel
theorem tyX3_ok : ∀ k, k < 5 → parseFieldDescriptor (TX3 k).2.2.1 = some (tyX3 k) := by decide +kernel
abbrev cX3_init : ByteArray := prog_5_method_1_code
def yX3_init : MethodName := ⟨RX3, "<init>", "()V"⟩
abbrev cX3_clear : ByteArray := prog_5_method_2_code
def yX3_clear : MethodName := ⟨RX3, "clear", "()V"⟩
abbrev cX3_isMany : ByteArray := prog_5_method_3_code
def yX3_isMany : MethodName := ⟨RX3, "isMany", "()Z"⟩
abbrev cX3_add : ByteArray := prog_5_method_4_code
def yX3_add : MethodName := ⟨RX3, "add", "([IIII)V"⟩
abbrev cX3_pack : ByteArray := prog_5_method_5_code
def yX3_pack : MethodName := ⟨RX3, "pack", "([II)V"⟩
abbrev cX3_arrange : ByteArray := prog_5_method_6_code
def yX3_arrange : MethodName := ⟨RX3, "arrange", "()V"⟩
abbrev cX3_choiceOf : ByteArray := prog_5_method_7_code
def yX3_choiceOf : MethodName := ⟨RX3, "choiceOf", "(II)I"⟩
def RX4 : String := "MensuralRows$Ratio"
def TX4 : u_T := fun k => match k with
  | 0 => ("MensuralRows$Ratio", "up", "J", false)
  | _ => ("MensuralRows$Ratio", "down", "J", false)
def tyX4 : Nat → FieldType := fun k => match k with
  | 0 => .long
  | _ => .long
abbrev wsX40 : List Cond := u_ws RX4 TX4 2
theorem nmX4 : ∀ a, a < 2 → ∀ b, b < 2 → a ≠ b → (TX4 a).2.1 ≠ (TX4 b).2.1 := by decide +kernel
theorem tyX4_ok : ∀ k, k < 2 → parseFieldDescriptor (TX4 k).2.2.1 = some (tyX4 k) := by decide +kernel
abbrev cX4_init : ByteArray := prog_6_method_1_code
def yX4_init : MethodName := ⟨RX4, "<init>", "()V"⟩
abbrev cX4_common : ByteArray := prog_6_method_2_code
def yX4_common : MethodName := ⟨RX4, "common", "(JJ)J"⟩
abbrev cX4_set : ByteArray := prog_6_method_3_code
def yX4_set : MethodName := ⟨RX4, "set", "(JJ)V"⟩
abbrev cX4_add : ByteArray := prog_6_method_4_code
def yX4_add : MethodName := ⟨RX4, "add", "(LMensuralRows$Ratio;)V"⟩
abbrev cX4_compare : ByteArray := prog_6_method_5_code
def yX4_compare : MethodName := ⟨RX4, "compare", "(JJJJ)I"⟩
def RX5 : String := "MensuralRows$Reader"
def TX5 : u_T := fun k => match k with
  | 0 => ("MensuralRows$Reader", "chain", "LMensuralRows$Chain;", true)
  | 1 => ("MensuralRows$Reader", "found", "LMensuralRows$Found;", true)
  | 2 => ("MensuralRows$Reader", "draft", "LMensuralRows$Draft;", true)
  | 3 => ("MensuralRows$Reader", "stepTask", "[I", true)
  | 4 => ("MensuralRows$Reader", "stepPlace", "[I", true)
  | 5 => ("MensuralRows$Reader", "stepChoice", "[I", true)
  | 6 => ("MensuralRows$Reader", "stepMade", "[I", true)
  | 7 => ("MensuralRows$Reader", "stepLength", "[I", true)
  | 8 => ("MensuralRows$Reader", "stepStrain", "[I", true)
  | 9 => ("MensuralRows$Reader", "stepCopies", "[I", true)
  | 10 => ("MensuralRows$Reader", "task", "I", false)
  | 11 => ("MensuralRows$Reader", "leastStrain", "I", false)
  | _ => ("MensuralRows$Reader", "readLast", "LMensuralRows$Voice;", false)
def tyX5 : Nat → FieldType := fun k => match k with
  | 0 => .object "MensuralRows$Chain"
  | 1 => .object "MensuralRows$Found"
  | 2 => .object "MensuralRows$Draft"
  | 3 => .array .int
  | 4 => .array .int
  | 5 => .array .int
  | 6 => .array .int
  | 7 => .array .int
  | 8 => .array .int
  | 9 => .array .int
  | 10 => .int
  | 11 => .int
  | _ => .object "MensuralRows$Voice"
abbrev wsX50 : List Cond := u_ws RX5 TX5 13
theorem nmX5 : ∀ a, a < 13 → ∀ b, b < 13 → a ≠ b → (TX5 a).2.1 ≠ (TX5 b).2.1 := by decide +kernel
theorem tyX5_ok : ∀ k, k < 13 → parseFieldDescriptor (TX5 k).2.2.1 = some (tyX5 k) := by decide +kernel
abbrev cX5_init : ByteArray := prog_7_method_1_code
def yX5_init : MethodName := ⟨RX5, "<init>", "()V"⟩
abbrev cX5_read : ByteArray := prog_7_method_2_code
def yX5_read : MethodName := ⟨RX5, "read", "(LMensuralRows$Voice;)V"⟩
abbrev cX5_begin : ByteArray := prog_7_method_3_code
def yX5_begin : MethodName := ⟨RX5, "begin", "()V"⟩
abbrev cX5_keep : ByteArray := prog_7_method_4_code
def yX5_keep : MethodName := ⟨RX5, "keep", "(LMensuralRows$Voice;I)V"⟩
abbrev cX5_makeAgain : ByteArray := prog_7_method_5_code
def yX5_makeAgain : MethodName := ⟨RX5, "makeAgain", "(LMensuralRows$Voice;I)V"⟩
abbrev cX5_save : ByteArray := prog_7_method_6_code
def yX5_save : MethodName := ⟨RX5, "save", "(I)V"⟩
abbrev cX5_restore : ByteArray := prog_7_method_7_code
def yX5_restore : MethodName := ⟨RX5, "restore", "(I)V"⟩
abbrev cX5_nextChoice : ByteArray := prog_7_method_8_code
def yX5_nextChoice : MethodName := ⟨RX5, "nextChoice", "(LMensuralRows$Voice;III)I"⟩
abbrev cX5_itemForm : ByteArray := prog_7_method_9_code
def yX5_itemForm : MethodName := ⟨RX5, "itemForm", "(I)I"⟩
abbrev cX5_itemKind : ByteArray := prog_7_method_10_code
def yX5_itemKind : MethodName := ⟨RX5, "itemKind", "(LMensuralRows$Voice;II)I"⟩
abbrev cX5_choose : ByteArray := prog_7_method_11_code
def yX5_choose : MethodName := ⟨RX5, "choose", "(LMensuralRows$Voice;I)V"⟩
abbrev cX5_partsOfUnit : ByteArray := prog_7_method_12_code
def yX5_partsOfUnit : MethodName := ⟨RX5, "partsOfUnit", "(LMensuralRows$Voice;III)I"⟩
abbrev cX5_partsOfOthers : ByteArray := prog_7_method_13_code
def yX5_partsOfOthers : MethodName := ⟨RX5, "partsOfOthers", "(LMensuralRows$Voice;III)I"⟩
abbrev cX5_settle : ByteArray := prog_7_method_14_code
def yX5_settle : MethodName := ⟨RX5, "settle", "(LMensuralRows$Row;)V"⟩
abbrev cX5_divide : ByteArray := prog_7_method_15_code
def yX5_divide : MethodName := ⟨RX5, "divide", "(LMensuralRows$Row;I)I"⟩
def RX6 : String := "MensuralRows$Row"
def TX6 : u_T := fun k => match k with
  | 0 => ("MensuralRows$Row", "sorts", "[I", true)
  | 1 => ("MensuralRows$Row", "kinds", "[I", true)
  | 2 => ("MensuralRows$Row", "pitches", "[I", true)
  | 3 => ("MensuralRows$Row", "colours", "[Z", true)
  | 4 => ("MensuralRows$Row", "ups", "[I", true)
  | 5 => ("MensuralRows$Row", "downs", "[I", true)
  | 6 => ("MensuralRows$Row", "size", "I", false)
  | 7 => ("MensuralRows$Row", "up", "I", false)
  | _ => ("MensuralRows$Row", "down", "I", false)
def tyX6 : Nat → FieldType := fun k => match k with
  | 0 => .array .int
  | 1 => .array .int
  | 2 => .array .int
  | 3 => .array .boolean
  | 4 => .array .int
  | 5 => .array .int
  | 6 => .int
  | 7 => .int
  | _ => .int
abbrev wsX60 : List Cond := u_ws RX6 TX6 9
theorem nmX6 : ∀ a, a < 9 → ∀ b, b < 9 → a ≠ b → (TX6 a).2.1 ≠ (TX6 b).2.1 := by decide +kernel
theorem tyX6_ok : ∀ k, k < 9 → parseFieldDescriptor (TX6 k).2.2.1 = some (tyX6 k) := by decide +kernel
abbrev cX6_init : ByteArray := prog_8_method_1_code
def yX6_init : MethodName := ⟨RX6, "<init>", "()V"⟩
abbrev cX6_hasRoomFor : ByteArray := prog_8_method_2_code
def yX6_hasRoomFor : MethodName := ⟨RX6, "hasRoomFor", "(I)Z"⟩
abbrev cX6_add : ByteArray := prog_8_method_3_code
def yX6_add : MethodName := ⟨RX6, "add", "(IIIZ)V"⟩
abbrev cX6_multiply : ByteArray := prog_8_method_4_code
def yX6_multiply : MethodName := ⟨RX6, "multiply", "(II)Z"⟩
abbrev cX6_sortAt : ByteArray := prog_8_method_5_code
def yX6_sortAt : MethodName := ⟨RX6, "sortAt", "(I)I"⟩
abbrev cX6_kindAt : ByteArray := prog_8_method_6_code
def yX6_kindAt : MethodName := ⟨RX6, "kindAt", "(I)I"⟩
abbrev cX6_pitchAt : ByteArray := prog_8_method_7_code
def yX6_pitchAt : MethodName := ⟨RX6, "pitchAt", "(I)I"⟩
abbrev cX6_isColouredAt : ByteArray := prog_8_method_8_code
def yX6_isColouredAt : MethodName := ⟨RX6, "isColouredAt", "(I)Z"⟩
abbrev cX6_upAt : ByteArray := prog_8_method_9_code
def yX6_upAt : MethodName := ⟨RX6, "upAt", "(I)I"⟩
abbrev cX6_downAt : ByteArray := prog_8_method_10_code
def yX6_downAt : MethodName := ⟨RX6, "downAt", "(I)I"⟩
def RX7 : String := "MensuralRows$Spans"
def TX7 : u_T := fun k => match k with
  | 0 => ("MensuralRows$Spans", "ends", "[I", true)
  | 1 => ("MensuralRows$Spans", "units", "[I", true)
  | 2 => ("MensuralRows$Spans", "pairs", "[I", true)
  | 3 => ("MensuralRows$Spans", "thirds", "[I", true)
  | 4 => ("MensuralRows$Spans", "plain", "[I", true)
  | 5 => ("MensuralRows$Spans", "rests", "[I", true)
  | 6 => ("MensuralRows$Spans", "coloured", "[I", true)
  | 7 => ("MensuralRows$Spans", "altered", "[I", true)
  | 8 => ("MensuralRows$Spans", "lateImperfect", "[I", true)
  | 9 => ("MensuralRows$Spans", "dots", "I", false)
  | 10 => ("MensuralRows$Spans", "size", "I", false)
  | 11 => ("MensuralRows$Spans", "toEnd", "I", false)
  | _ => ("MensuralRows$Spans", "reached", "I", false)
def tyX7 : Nat → FieldType := fun k => match k with
  | 0 => .array .int
  | 1 => .array .int
  | 2 => .array .int
  | 3 => .array .int
  | 4 => .array .int
  | 5 => .array .int
  | 6 => .array .int
  | 7 => .array .int
  | 8 => .array .int
  | 9 => .int
  | 10 => .int
  | 11 => .int
  | _ => .int
abbrev wsX70 : List Cond := u_ws RX7 TX7 13
theorem nmX7 : ∀ a, a < 13 → ∀ b, b < 13 → a ≠ b → (TX7 a).2.1 ≠ (TX7 b).2.1 := by decide +kernel
theorem tyX7_ok : ∀ k, k < 13 → parseFieldDescriptor (TX7 k).2.2.1 = some (tyX7 k) := by decide +kernel
abbrev cX7_init : ByteArray := prog_9_method_1_code
def yX7_init : MethodName := ⟨RX7, "<init>", "()V"⟩
abbrev cX7_fill : ByteArray := prog_9_method_2_code
def yX7_fill : MethodName := ⟨RX7, "fill", "(LMensuralRows$Voice;)V"⟩
abbrev cX7_clear : ByteArray := prog_9_method_3_code
def yX7_clear : MethodName := ⟨RX7, "clear", "()V"⟩
abbrev cX7_sortSymbol : ByteArray := prog_9_method_4_code
def yX7_sortSymbol : MethodName := ⟨RX7, "sortSymbol", "(LMensuralRows$Row;II)V"⟩
abbrev cX7_alteredOf : ByteArray := prog_9_method_5_code
def yX7_alteredOf : MethodName := ⟨RX7, "alteredOf", "(I)I"⟩
abbrev cX7_lateImperfectOf : ByteArray := prog_9_method_6_code
def yX7_lateImperfectOf : MethodName := ⟨RX7, "lateImperfectOf", "(I)I"⟩
abbrev cX7_dottedOf : ByteArray := prog_9_method_7_code
def yX7_dottedOf : MethodName := ⟨RX7, "dottedOf", "(I)I"⟩
abbrev cX7_endsOf : ByteArray := prog_9_method_8_code
def yX7_endsOf : MethodName := ⟨RX7, "endsOf", "(III)I"⟩
abbrev cX7_before : ByteArray := prog_9_method_9_code
def yX7_before : MethodName := ⟨RX7, "before", "([III)I"⟩
abbrev cX7_after : ByteArray := prog_9_method_10_code
def yX7_after : MethodName := ⟨RX7, "after", "([III)I"⟩
abbrev cX7_endsIn : ByteArray := prog_9_method_11_code
def yX7_endsIn : MethodName := ⟨RX7, "endsIn", "([III)I"⟩
abbrev cX7_keep : ByteArray := prog_9_method_12_code
def yX7_keep : MethodName := ⟨RX7, "keep", "([IIIII)V"⟩
abbrev cX7_keepDivided : ByteArray := prog_9_method_13_code
def yX7_keepDivided : MethodName := ⟨RX7, "keepDivided", "(IIII)V"⟩
abbrev cX7_startsIn : ByteArray := prog_9_method_14_code
def yX7_startsIn : MethodName := ⟨RX7, "startsIn", "([III)I"⟩
abbrev cX7_fillThird : ByteArray := prog_9_method_15_code
def yX7_fillThird : MethodName := ⟨RX7, "fillThird", "(II)V"⟩
abbrev cX7_fillPair : ByteArray := prog_9_method_16_code
def yX7_fillPair : MethodName := ⟨RX7, "fillPair", "(II)V"⟩
abbrev cX7_fillGreater : ByteArray := prog_9_method_17_code
def yX7_fillGreater : MethodName := ⟨RX7, "fillGreater", "(II)V"⟩
abbrev cX7_fillImperfect : ByteArray := prog_9_method_18_code
def yX7_fillImperfect : MethodName := ⟨RX7, "fillImperfect", "(II)V"⟩
abbrev cX7_fillPerfect : ByteArray := prog_9_method_19_code
def yX7_fillPerfect : MethodName := ⟨RX7, "fillPerfect", "(II)V"⟩
abbrev cX7_joinItems : ByteArray := prog_9_method_20_code
def yX7_joinItems : MethodName := ⟨RX7, "joinItems", "(I)V"⟩
abbrev cX7_itemEnds : ByteArray := prog_9_method_21_code
def yX7_itemEnds : MethodName := ⟨RX7, "itemEnds", "(II)I"⟩
def RX8 : String := "MensuralRows$Times"
def TX8 : u_T := fun k => match k with
  | 0 => ("MensuralRows$Times", "ups", "[J", true)
  | 1 => ("MensuralRows$Times", "downs", "[J", true)
  | 2 => ("MensuralRows$Times", "now", "LMensuralRows$Ratio;", true)
  | 3 => ("MensuralRows$Times", "lasting", "LMensuralRows$Ratio;", true)
  | _ => ("MensuralRows$Times", "size", "I", false)
def tyX8 : Nat → FieldType := fun k => match k with
  | 0 => .array .long
  | 1 => .array .long
  | 2 => .object "MensuralRows$Ratio"
  | 3 => .object "MensuralRows$Ratio"
  | _ => .int
abbrev wsX80 : List Cond := u_ws RX8 TX8 5
theorem nmX8 : ∀ a, a < 5 → ∀ b, b < 5 → a ≠ b → (TX8 a).2.1 ≠ (TX8 b).2.1 := by decide +kernel
theorem tyX8_ok : ∀ k, k < 5 → parseFieldDescriptor (TX8 k).2.2.1 = some (tyX8 k) := by decide +kernel
abbrev cX8_init : ByteArray := prog_10_method_1_code
def yX8_init : MethodName := ⟨RX8, "<init>", "()V"⟩
abbrev cX8_fill : ByteArray := prog_10_method_2_code
def yX8_fill : MethodName := ⟨RX8, "fill", "(LMensuralRows$Voice;)V"⟩
abbrev cX8_upAt : ByteArray := prog_10_method_3_code
def yX8_upAt : MethodName := ⟨RX8, "upAt", "(I)J"⟩
abbrev cX8_downAt : ByteArray := prog_10_method_4_code
def yX8_downAt : MethodName := ⟨RX8, "downAt", "(I)J"⟩
abbrev cX8_compareAt : ByteArray := prog_10_method_5_code
def yX8_compareAt : MethodName := ⟨RX8, "compareAt", "(IJJ)I"⟩
abbrev cX8_isEndOf : ByteArray := prog_10_method_6_code
def yX8_isEndOf : MethodName := ⟨RX8, "isEndOf", "(LMensuralRows$Times;)Z"⟩
def RX9 : String := "MensuralRows$Voice"
def TX9 : u_T := fun k => match k with
  | 0 => ("MensuralRows$Voice", "fulls", "[I", true)
  | 1 => ("MensuralRows$Voice", "ticks", "[I", true)
  | 2 => ("MensuralRows$Voice", "row", "LMensuralRows$Row;", true)
  | 3 => ("MensuralRows$Voice", "sign", "I", false)
  | 4 => ("MensuralRows$Voice", "ground", "I", false)
  | 5 => ("MensuralRows$Voice", "total", "I", false)
  | 6 => ("MensuralRows$Voice", "furthest", "I", false)
  | 7 => ("MensuralRows$Voice", "picked", "I", false)
  | _ => ("MensuralRows$Voice", "stale", "Z", false)
def tyX9 : Nat → FieldType := fun k => match k with
  | 0 => .array .int
  | 1 => .array .int
  | 2 => .object "MensuralRows$Row"
  | 3 => .int
  | 4 => .int
  | 5 => .int
  | 6 => .int
  | 7 => .int
  | _ => .boolean
abbrev wsX90 : List Cond := u_ws RX9 TX9 9
theorem nmX9 : ∀ a, a < 9 → ∀ b, b < 9 → a ≠ b → (TX9 a).2.1 ≠ (TX9 b).2.1 := by decide +kernel
theorem tyX9_ok : ∀ k, k < 9 → parseFieldDescriptor (TX9 k).2.2.1 = some (tyX9 k) := by decide +kernel
abbrev cX9_init : ByteArray := prog_11_method_1_code
def yX9_init : MethodName := ⟨RX9, "<init>", "()V"⟩
abbrev cX9_setSign : ByteArray := prog_11_method_2_code
def yX9_setSign : MethodName := ⟨RX9, "setSign", "(I)V"⟩
abbrev cX9_isPerfect : ByteArray := prog_11_method_3_code
def yX9_isPerfect : MethodName := ⟨RX9, "isPerfect", "(I)Z"⟩
abbrev cX9_fullOf : ByteArray := prog_11_method_4_code
def yX9_fullOf : MethodName := ⟨RX9, "fullOf", "(I)I"⟩
abbrev cX9_append : ByteArray := prog_11_method_5_code
def yX9_append : MethodName := ⟨RX9, "append", "(IIIZ)I"⟩
abbrev cX9_removeLast : ByteArray := prog_11_method_6_code
def yX9_removeLast : MethodName := ⟨RX9, "removeLast", "()V"⟩
abbrev cX9_change : ByteArray := prog_11_method_7_code
def yX9_change : MethodName := ⟨RX9, "change", "()V"⟩
abbrev cX9_know : ByteArray := prog_11_method_8_code
def yX9_know : MethodName := ⟨RX9, "know", "(II)V"⟩
abbrev cX9_isMany : ByteArray := prog_11_method_9_code
def yX9_isMany : MethodName := ⟨RX9, "isMany", "()Z"⟩
abbrev cX9_holdPicked : ByteArray := prog_11_method_10_code
def yX9_holdPicked : MethodName := ⟨RX9, "holdPicked", "(ILMensuralRows$Draft;)V"⟩
abbrev cX9_ticksAt : ByteArray := prog_11_method_11_code
def yX9_ticksAt : MethodName := ⟨RX9, "ticksAt", "(I)I"⟩
def RX10 : String := "MensuralRows$Writer"
def TX10 : u_T := fun k => match k with
  | 0 => ("MensuralRows$Writer", "draft", "LMensuralRows$Voice;", true)
  | 1 => ("MensuralRows$Writer", "wanted", "[I", true)
  | 2 => ("MensuralRows$Writer", "choices", "[I", true)
  | 3 => ("MensuralRows$Writer", "fitting", "[I", true)
  | 4 => ("MensuralRows$Writer", "fittingCount", "[I", true)
  | 5 => ("MensuralRows$Writer", "kept", "[I", true)
  | 6 => ("MensuralRows$Writer", "notes", "I", false)
  | 7 => ("MensuralRows$Writer", "rows", "I", false)
  | 8 => ("MensuralRows$Writer", "turn", "I", false)
  | _ => ("MensuralRows$Writer", "keptSize", "I", false)
def tyX10 : Nat → FieldType := fun k => match k with
  | 0 => .object "MensuralRows$Voice"
  | 1 => .array .int
  | 2 => .array .int
  | 3 => .array .int
  | 4 => .array .int
  | 5 => .array .int
  | 6 => .int
  | 7 => .int
  | 8 => .int
  | _ => .int
abbrev wsX100 : List Cond := u_ws RX10 TX10 10
theorem nmX10 : ∀ a, a < 10 → ∀ b, b < 10 → a ≠ b → (TX10 a).2.1 ≠ (TX10 b).2.1 := by decide +kernel
theorem tyX10_ok : ∀ k, k < 10 → parseFieldDescriptor (TX10 k).2.2.1 = some (tyX10 k) := by decide +kernel
abbrev cX10_init : ByteArray := prog_12_method_1_code
def yX10_init : MethodName := ⟨RX10, "<init>", "()V"⟩
abbrev cX10_begin : ByteArray := prog_12_method_2_code
def yX10_begin : MethodName := ⟨RX10, "begin", "(IIIII)V"⟩
abbrev cX10_canBe : ByteArray := prog_12_method_3_code
def yX10_canBe : MethodName := ⟨RX10, "canBe", "(IZI)Z"⟩
abbrev cX10_advance : ByteArray := prog_12_method_4_code
def yX10_advance : MethodName := ⟨RX10, "advance", "()Z"⟩
abbrev cX10_chooseRow : ByteArray := prog_12_method_5_code
def yX10_chooseRow : MethodName := ⟨RX10, "chooseRow", "(I)I"⟩
abbrev cX10_putDown : ByteArray := prog_12_method_6_code
def yX10_putDown : MethodName := ⟨RX10, "putDown", "()V"⟩
abbrev cX10_isAsWanted : ByteArray := prog_12_method_7_code
def yX10_isAsWanted : MethodName := ⟨RX10, "isAsWanted", "()Z"⟩
abbrev cX10_keep : ByteArray := prog_12_method_8_code
def yX10_keep : MethodName := ⟨RX10, "keep", "()I"⟩
abbrev cX10_keptAt : ByteArray := prog_12_method_9_code
def yX10_keptAt : MethodName := ⟨RX10, "keptAt", "(I)I"⟩
def RX11 : String := "MensuralRows"
def TX11 : u_T := fun k => match k with
  | 0 => ("MensuralRows", "voices", "[LMensuralRows$Voice;", true)
  | 1 => ("MensuralRows", "followers", "[LMensuralRows$Follower;", true)
  | 2 => ("MensuralRows", "reader", "LMensuralRows$Reader;", true)
  | 3 => ("MensuralRows", "writer", "LMensuralRows$Writer;", true)
  | 4 => ("MensuralRows", "times", "LMensuralRows$Times;", true)
  | 5 => ("MensuralRows", "otherTimes", "LMensuralRows$Times;", true)
  | 6 => ("MensuralRows", "voiceCount", "I", false)
  | _ => ("MensuralRows", "followerCount", "I", false)
def tyX11 : Nat → FieldType := fun k => match k with
  | 0 => .array (.object "MensuralRows$Voice")
  | 1 => .array (.object "MensuralRows$Follower")
  | 2 => .object "MensuralRows$Reader"
  | 3 => .object "MensuralRows$Writer"
  | 4 => .object "MensuralRows$Times"
  | 5 => .object "MensuralRows$Times"
  | 6 => .int
  | _ => .int
abbrev wsX110 : List Cond := u_ws RX11 TX11 8
theorem nmX11 : ∀ a, a < 8 → ∀ b, b < 8 → a ≠ b → (TX11 a).2.1 ≠ (TX11 b).2.1 := by decide +kernel
theorem tyX11_ok : ∀ k, k < 8 → parseFieldDescriptor (TX11 k).2.2.1 = some (tyX11 k) := by decide +kernel
abbrev cX11_init : ByteArray := prog_1_method_1_code
def yX11_init : MethodName := ⟨RX11, "<init>", "()V"⟩
abbrev cX11_voice : ByteArray := prog_1_method_2_code
def yX11_voice : MethodName := ⟨RX11, "voice", "(I)I"⟩
abbrev cX11_note : ByteArray := prog_1_method_3_code
def yX11_note : MethodName := ⟨RX11, "note", "(IIIZ)I"⟩
abbrev cX11_rest : ByteArray := prog_1_method_4_code
def yX11_rest : MethodName := ⟨RX11, "rest", "(II)I"⟩
abbrev cX11_dot : ByteArray := prog_1_method_5_code
def yX11_dot : MethodName := ⟨RX11, "dot", "(I)I"⟩
abbrev cX11_ligature : ByteArray := prog_1_method_6_code
def yX11_ligature : MethodName := ⟨RX11, "ligature", "(IIIJ)I"⟩
abbrev cX11_proportion : ByteArray := prog_1_method_7_code
def yX11_proportion : MethodName := ⟨RX11, "proportion", "(III)I"⟩
abbrev cX11_back : ByteArray := prog_1_method_8_code
def yX11_back : MethodName := ⟨RX11, "back", "(I)I"⟩
abbrev cX11_told : ByteArray := prog_1_method_9_code
def yX11_told : MethodName := ⟨RX11, "told", "(II)I"⟩
abbrev cX11_symbol : ByteArray := prog_1_method_10_code
def yX11_symbol : MethodName := ⟨RX11, "symbol", "(III)I"⟩
abbrev cX11_readings : ByteArray := prog_1_method_11_code
def yX11_readings : MethodName := ⟨RX11, "readings", "(I)I"⟩
abbrev cX11_stuck : ByteArray := prog_1_method_12_code
def yX11_stuck : MethodName := ⟨RX11, "stuck", "(I)I"⟩
abbrev cX11_strained : ByteArray := prog_1_method_13_code
def yX11_strained : MethodName := ⟨RX11, "strained", "(II)I"⟩
abbrev cX11_form : ByteArray := prog_1_method_14_code
def yX11_form : MethodName := ⟨RX11, "form", "(III)I"⟩
abbrev cX11_value : ByteArray := prog_1_method_15_code
def yX11_value : MethodName := ⟨RX11, "value", "(III)I"⟩
abbrev cX11_pick : ByteArray := prog_1_method_16_code
def yX11_pick : MethodName := ⟨RX11, "pick", "(II)I"⟩
abbrev cX11_time : ByteArray := prog_1_method_17_code
def yX11_time : MethodName := ⟨RX11, "time", "(III)J"⟩
abbrev cX11_at : ByteArray := prog_1_method_18_code
def yX11_at : MethodName := ⟨RX11, "at", "(III)I"⟩
abbrev cX11_together : ByteArray := prog_1_method_19_code
def yX11_together : MethodName := ⟨RX11, "together", "()I"⟩
abbrev cX11_meet : ByteArray := prog_1_method_20_code
def yX11_meet : MethodName := ⟨RX11, "meet", "(III)I"⟩
abbrev cX11_canon : ByteArray := prog_1_method_21_code
def yX11_canon : MethodName := ⟨RX11, "canon", "(IIII)I"⟩
abbrev cX11_follower : ByteArray := prog_1_method_22_code
def yX11_follower : MethodName := ⟨RX11, "follower", "(III)J"⟩
abbrev cX11_write : ByteArray := prog_1_method_23_code
def yX11_write : MethodName := ⟨RX11, "write", "(IIIII)I"⟩
abbrev cX11_written : ByteArray := prog_1_method_24_code
def yX11_written : MethodName := ⟨RX11, "written", "(I)I"⟩
abbrev cX11_count : ByteArray := prog_1_method_25_code
def yX11_count : MethodName := ⟨RX11, "count", "(I)I"⟩
abbrev cX11_voiceAt : ByteArray := prog_1_method_26_code
def yX11_voiceAt : MethodName := ⟨RX11, "voiceAt", "(I)LMensuralRows$Voice;"⟩
abbrev cX11_symbolsOfAll : ByteArray := prog_1_method_27_code
def yX11_symbolsOfAll : MethodName := ⟨RX11, "symbolsOfAll", "()I"⟩
abbrev cX11_refusalOf : ByteArray := prog_1_method_28_code
def yX11_refusalOf : MethodName := ⟨RX11, "refusalOf", "(LMensuralRows$Voice;I)I"⟩
abbrev cX11_beginTogether : ByteArray := prog_1_method_29_code
def yX11_beginTogether : MethodName := ⟨RX11, "beginTogether", "(LMensuralRows$Row;ILMensuralRows$Row;I)Z"⟩
abbrev cX11_isSweet : ByteArray := prog_1_method_30_code
def yX11_isSweet : MethodName := ⟨RX11, "isSweet", "(II)Z"⟩
abbrev cX11_isKind : ByteArray := prog_1_method_31_code
def yX11_isKind : MethodName := ⟨RX11, "isKind", "(I)Z"⟩
abbrev cX11_isPitch : ByteArray := prog_1_method_32_code
def yX11_isPitch : MethodName := ⟨RX11, "isPitch", "(I)Z"⟩
abbrev cX11_pitchOf : ByteArray := prog_1_method_33_code
def yX11_pitchOf : MethodName := ⟨RX11, "pitchOf", "(JI)I"⟩
abbrev cX11_hasPitches : ByteArray := prog_1_method_34_code
def yX11_hasPitches : MethodName := ⟨RX11, "hasPitches", "(IJ)Z"⟩
abbrev cX11_falls : ByteArray := prog_1_method_35_code
def yX11_falls : MethodName := ⟨RX11, "falls", "(JI)Z"⟩
abbrev cX11_isShape : ByteArray := prog_1_method_36_code
def yX11_isShape : MethodName := ⟨RX11, "isShape", "(IIJ)Z"⟩
abbrev cX11_kindInLigature : ByteArray := prog_1_method_37_code
def yX11_kindInLigature : MethodName := ⟨RX11, "kindInLigature", "(IIJI)I"⟩
def RX12 : String := "MensuralRowsModel"
def TX12 : u_T := fun k => match k with
  | 0 => ("MensuralRowsModel", "voices", "I", false)
  | 1 => ("MensuralRowsModel", "signOf", "[I", true)
  | 2 => ("MensuralRowsModel", "sizeOf", "[I", true)
  | 3 => ("MensuralRowsModel", "upOf", "[I", true)
  | 4 => ("MensuralRowsModel", "downOf", "[I", true)
  | 5 => ("MensuralRowsModel", "pickedOf", "[I", true)
  | 6 => ("MensuralRowsModel", "sortOf", "[I", true)
  | 7 => ("MensuralRowsModel", "kindOf", "[I", true)
  | 8 => ("MensuralRowsModel", "pitchOf", "[I", true)
  | 9 => ("MensuralRowsModel", "isColoured", "[Z", true)
  | 10 => ("MensuralRowsModel", "upAt", "[I", true)
  | 11 => ("MensuralRowsModel", "downAt", "[I", true)
  | 12 => ("MensuralRowsModel", "sign", "I", false)
  | 13 => ("MensuralRowsModel", "ground", "I", false)
  | 14 => ("MensuralRowsModel", "rowAt", "I", false)
  | 15 => ("MensuralRowsModel", "size", "I", false)
  | 16 => ("MensuralRowsModel", "rowSort", "[I", true)
  | 17 => ("MensuralRowsModel", "rowKind", "[I", true)
  | 18 => ("MensuralRowsModel", "rowColoured", "[Z", true)
  | 19 => ("MensuralRowsModel", "ways", "[I", true)
  | 20 => ("MensuralRowsModel", "itemWays", "[I", true)
  | 21 => ("MensuralRowsModel", "counted", "I", false)
  | 22 => ("MensuralRowsModel", "wanted", "I", false)
  | 23 => ("MensuralRowsModel", "isTaken", "Z", false)
  | 24 => ("MensuralRowsModel", "takenForm", "I", false)
  | 25 => ("MensuralRowsModel", "takenCut", "I", false)
  | 26 => ("MensuralRowsModel", "takenCut2", "I", false)
  | 27 => ("MensuralRowsModel", "takenDot", "Z", false)
  | 28 => ("MensuralRowsModel", "takenRank", "I", false)
  | 29 => ("MensuralRowsModel", "taskWhat", "[I", true)
  | 30 => ("MensuralRowsModel", "taskKind", "[I", true)
  | 31 => ("MensuralRowsModel", "taskFrom", "[I", true)
  | 32 => ("MensuralRowsModel", "taskTo", "[I", true)
  | 33 => ("MensuralRowsModel", "taskRank", "[I", true)
  | 34 => ("MensuralRowsModel", "tasks", "I", false)
  | 35 => ("MensuralRowsModel", "forms", "[I", true)
  | 36 => ("MensuralRowsModel", "formMany", "[I", true)
  | 37 => ("MensuralRowsModel", "strain", "[I", true)
  | 38 => ("MensuralRowsModel", "values", "[I", true)
  | 39 => ("MensuralRowsModel", "sorted", "[I", true)
  | 40 => ("MensuralRowsModel", "readingMany", "I", false)
  | 41 => ("MensuralRowsModel", "reading", "I", false)
  | 42 => ("MensuralRowsModel", "ready", "I", false)
  | 43 => ("MensuralRowsModel", "reached", "[Z", true)
  | 44 => ("MensuralRowsModel", "above", "J", false)
  | 45 => ("MensuralRowsModel", "below", "J", false)
  | 46 => ("MensuralRowsModel", "beginAbove", "[J", true)
  | 47 => ("MensuralRowsModel", "beginBelow", "[J", true)
  | 48 => ("MensuralRowsModel", "followers", "I", false)
  | 49 => ("MensuralRowsModel", "followerSize", "[I", true)
  | 50 => ("MensuralRowsModel", "followerTold", "[J", true)
  | 51 => ("MensuralRowsModel", "writtenKind", "[I", true)
  | 52 => ("MensuralRowsModel", "writtenMany", "I", false)
  | _ => ("MensuralRowsModel", "wantedValue", "[I", true)
def tyX12 : Nat → FieldType := fun k => match k with
  | 0 => .int
  | 1 => .array .int
  | 2 => .array .int
  | 3 => .array .int
  | 4 => .array .int
  | 5 => .array .int
  | 6 => .array .int
  | 7 => .array .int
  | 8 => .array .int
  | 9 => .array .boolean
  | 10 => .array .int
  | 11 => .array .int
  | 12 => .int
  | 13 => .int
  | 14 => .int
  | 15 => .int
  | 16 => .array .int
  | 17 => .array .int
  | 18 => .array .boolean
  | 19 => .array .int
  | 20 => .array .int
  | 21 => .int
  | 22 => .int
  | 23 => .boolean
  | 24 => .int
  | 25 => .int
  | 26 => .int
  | 27 => .boolean
  | 28 => .int
  | 29 => .array .int
  | 30 => .array .int
  | 31 => .array .int
  | 32 => .array .int
  | 33 => .array .int
  | 34 => .int
  | 35 => .array .int
  | 36 => .array .int
  | 37 => .array .int
  | 38 => .array .int
  | 39 => .array .int
  | 40 => .int
  | 41 => .int
  | 42 => .int
  | 43 => .array .boolean
  | 44 => .long
  | 45 => .long
  | 46 => .array .long
  | 47 => .array .long
  | 48 => .int
  | 49 => .array .int
  | 50 => .array .long
  | 51 => .array .int
  | 52 => .int
  | _ => .array .int
abbrev wsX120 : List Cond := u_ws RX12 TX12 54
theorem nmX12 : ∀ a, a < 54 → ∀ b, b < 54 → a ≠ b → (TX12 a).2.1 ≠ (TX12 b).2.1 := by decide +kernel
theorem tyX12_ok : ∀ k, k < 54 → parseFieldDescriptor (TX12 k).2.2.1 = some (tyX12 k) := by decide +kernel
abbrev cX12_init : ByteArray := prog_14_method_1_code
def yX12_init : MethodName := ⟨RX12, "<init>", "()V"⟩
abbrev cX12_isIn : ByteArray := prog_14_method_2_code
def yX12_isIn : MethodName := ⟨RX12, "isIn", "(JJJ)Z"⟩
abbrev cX12_isVoice : ByteArray := prog_14_method_3_code
def yX12_isVoice : MethodName := ⟨RX12, "isVoice", "(I)Z"⟩
abbrev cX12_voice : ByteArray := prog_14_method_4_code
def yX12_voice : MethodName := ⟨RX12, "voice", "(I)I"⟩
abbrev cX12_put : ByteArray := prog_14_method_5_code
def yX12_put : MethodName := ⟨RX12, "put", "(IIIIZ)I"⟩
abbrev cX12_change : ByteArray := prog_14_method_6_code
def yX12_change : MethodName := ⟨RX12, "change", "(I)V"⟩
abbrev cX12_note : ByteArray := prog_14_method_7_code
def yX12_note : MethodName := ⟨RX12, "note", "(IIIZ)I"⟩
abbrev cX12_rest : ByteArray := prog_14_method_8_code
def yX12_rest : MethodName := ⟨RX12, "rest", "(II)I"⟩
abbrev cX12_dot : ByteArray := prog_14_method_9_code
def yX12_dot : MethodName := ⟨RX12, "dot", "(I)I"⟩
abbrev cX12_pitchIn : ByteArray := prog_14_method_10_code
def yX12_pitchIn : MethodName := ⟨RX12, "pitchIn", "(JI)I"⟩
abbrev cX12_ligature : ByteArray := prog_14_method_11_code
def yX12_ligature : MethodName := ⟨RX12, "ligature", "(IIIJ)I"⟩
abbrev cX12_ligatureKind : ByteArray := prog_14_method_12_code
def yX12_ligatureKind : MethodName := ⟨RX12, "ligatureKind", "(IIIZZ)I"⟩
abbrev cX12_divisor : ByteArray := prog_14_method_13_code
def yX12_divisor : MethodName := ⟨RX12, "divisor", "(JJ)J"⟩
abbrev cX12_proportion : ByteArray := prog_14_method_14_code
def yX12_proportion : MethodName := ⟨RX12, "proportion", "(III)I"⟩
abbrev cX12_back : ByteArray := prog_14_method_15_code
def yX12_back : MethodName := ⟨RX12, "back", "(I)I"⟩
abbrev cX12_isPerfect : ByteArray := prog_14_method_16_code
def yX12_isPerfect : MethodName := ⟨RX12, "isPerfect", "(II)Z"⟩
abbrev cX12_groundOf : ByteArray := prog_14_method_17_code
def yX12_groundOf : MethodName := ⟨RX12, "groundOf", "(I)I"⟩
abbrev cX12_fullOf : ByteArray := prog_14_method_18_code
def yX12_fullOf : MethodName := ⟨RX12, "fullOf", "(II)I"⟩
abbrev cX12_told : ByteArray := prog_14_method_19_code
def yX12_told : MethodName := ⟨RX12, "told", "(II)I"⟩
abbrev cX12_symbol : ByteArray := prog_14_method_20_code
def yX12_symbol : MethodName := ⟨RX12, "symbol", "(III)I"⟩
abbrev cX12_isPlain : ByteArray := prog_14_method_21_code
def yX12_isPlain : MethodName := ⟨RX12, "isPlain", "(II)Z"⟩
abbrev cX12_isDyed : ByteArray := prog_14_method_22_code
def yX12_isDyed : MethodName := ⟨RX12, "isDyed", "(II)Z"⟩
abbrev cX12_isRest : ByteArray := prog_14_method_23_code
def yX12_isRest : MethodName := ⟨RX12, "isRest", "(II)Z"⟩
abbrev cX12_isDot : ByteArray := prog_14_method_24_code
def yX12_isDot : MethodName := ⟨RX12, "isDot", "(I)Z"⟩
abbrev cX12_nextKind : ByteArray := prog_14_method_25_code
def yX12_nextKind : MethodName := ⟨RX12, "nextKind", "(I)I"⟩
abbrev cX12_waysOf : ByteArray := prog_14_method_26_code
def yX12_waysOf : MethodName := ⟨RX12, "waysOf", "(IIII)I"⟩
abbrev cX12_cap : ByteArray := prog_14_method_27_code
def yX12_cap : MethodName := ⟨RX12, "cap", "(J)I"⟩
abbrev cX12_offer : ByteArray := prog_14_method_28_code
def yX12_offer : MethodName := ⟨RX12, "offer", "(IIIZJ)V"⟩
abbrev cX12_scanUnit : ByteArray := prog_14_method_29_code
def yX12_scanUnit : MethodName := ⟨RX12, "scanUnit", "(III)V"⟩
abbrev cX12_scanPerfect : ByteArray := prog_14_method_30_code
def yX12_scanPerfect : MethodName := ⟨RX12, "scanPerfect", "(IIIZ)V"⟩
abbrev cX12_thirdWays : ByteArray := prog_14_method_31_code
def yX12_thirdWays : MethodName := ⟨RX12, "thirdWays", "(III)I"⟩
abbrev cX12_scanPair : ByteArray := prog_14_method_32_code
def yX12_scanPair : MethodName := ⟨RX12, "scanPair", "(III)V"⟩
abbrev cX12_scanThirds : ByteArray := prog_14_method_33_code
def yX12_scanThirds : MethodName := ⟨RX12, "scanThirds", "(III)V"⟩
abbrev cX12_countThirds : ByteArray := prog_14_method_34_code
def yX12_countThirds : MethodName := ⟨RX12, "countThirds", "(III)I"⟩
abbrev cX12_countGreater : ByteArray := prog_14_method_35_code
def yX12_countGreater : MethodName := ⟨RX12, "countGreater", "(III)I"⟩
abbrev cX12_countItem : ByteArray := prog_14_method_36_code
def yX12_countItem : MethodName := ⟨RX12, "countItem", "(II)I"⟩
abbrev cX12_beginScan : ByteArray := prog_14_method_37_code
def yX12_beginScan : MethodName := ⟨RX12, "beginScan", "(I)V"⟩
abbrev cX12_countAll : ByteArray := prog_14_method_38_code
def yX12_countAll : MethodName := ⟨RX12, "countAll", "()V"⟩
abbrev cX12_push : ByteArray := prog_14_method_39_code
def yX12_push : MethodName := ⟨RX12, "push", "(IIIII)V"⟩
abbrev cX12_tell : ByteArray := prog_14_method_40_code
def yX12_tell : MethodName := ⟨RX12, "tell", "(I)V"⟩
abbrev cX12_last : ByteArray := prog_14_method_41_code
def yX12_last : MethodName := ⟨RX12, "last", "(II)V"⟩
abbrev cX12_full : ByteArray := prog_14_method_42_code
def yX12_full : MethodName := ⟨RX12, "full", "(I)I"⟩
abbrev cX12_doItems : ByteArray := prog_14_method_43_code
def yX12_doItems : MethodName := ⟨RX12, "doItems", "(II)V"⟩
abbrev cX12_doItem : ByteArray := prog_14_method_44_code
def yX12_doItem : MethodName := ⟨RX12, "doItem", "(III)V"⟩
abbrev cX12_doGreater : ByteArray := prog_14_method_45_code
def yX12_doGreater : MethodName := ⟨RX12, "doGreater", "(IIII)V"⟩
abbrev cX12_doThirds : ByteArray := prog_14_method_46_code
def yX12_doThirds : MethodName := ⟨RX12, "doThirds", "(III)V"⟩
abbrev cX12_doThird : ByteArray := prog_14_method_47_code
def yX12_doThird : MethodName := ⟨RX12, "doThird", "(III)V"⟩
abbrev cX12_pushTwo : ByteArray := prog_14_method_48_code
def yX12_pushTwo : MethodName := ⟨RX12, "pushTwo", "(IIIIII)V"⟩
abbrev cX12_doUnit : ByteArray := prog_14_method_49_code
def yX12_doUnit : MethodName := ⟨RX12, "doUnit", "(IIII)V"⟩
abbrev cX12_doPair : ByteArray := prog_14_method_50_code
def yX12_doPair : MethodName := ⟨RX12, "doPair", "(IIII)V"⟩
abbrev cX12_takeOut : ByteArray := prog_14_method_51_code
def yX12_takeOut : MethodName := ⟨RX12, "takeOut", "(I)V"⟩
abbrev cX12_isBefore : ByteArray := prog_14_method_52_code
def yX12_isBefore : MethodName := ⟨RX12, "isBefore", "(II)Z"⟩
abbrev cX12_readAll : ByteArray := prog_14_method_53_code
def yX12_readAll : MethodName := ⟨RX12, "readAll", "()V"⟩
abbrev cX12_read : ByteArray := prog_14_method_54_code
def yX12_read : MethodName := ⟨RX12, "read", "(I)I"⟩
abbrev cX12_readings : ByteArray := prog_14_method_55_code
def yX12_readings : MethodName := ⟨RX12, "readings", "(I)I"⟩
abbrev cX12_stuck : ByteArray := prog_14_method_56_code
def yX12_stuck : MethodName := ⟨RX12, "stuck", "(I)I"⟩
abbrev cX12_find : ByteArray := prog_14_method_57_code
def yX12_find : MethodName := ⟨RX12, "find", "(II)I"⟩
abbrev cX12_strained : ByteArray := prog_14_method_58_code
def yX12_strained : MethodName := ⟨RX12, "strained", "(II)I"⟩
abbrev cX12_form : ByteArray := prog_14_method_59_code
def yX12_form : MethodName := ⟨RX12, "form", "(III)I"⟩
abbrev cX12_value : ByteArray := prog_14_method_60_code
def yX12_value : MethodName := ⟨RX12, "value", "(III)I"⟩
abbrev cX12_pick : ByteArray := prog_14_method_61_code
def yX12_pick : MethodName := ⟨RX12, "pick", "(II)I"⟩
abbrev cX12_addTime : ByteArray := prog_14_method_62_code
def yX12_addTime : MethodName := ⟨RX12, "addTime", "(JJ)V"⟩
abbrev cX12_findTime : ByteArray := prog_14_method_63_code
def yX12_findTime : MethodName := ⟨RX12, "findTime", "(III)V"⟩
abbrev cX12_time : ByteArray := prog_14_method_64_code
def yX12_time : MethodName := ⟨RX12, "time", "(III)J"⟩
abbrev cX12_compare : ByteArray := prog_14_method_65_code
def yX12_compare : MethodName := ⟨RX12, "compare", "(JJJJ)I"⟩
abbrev cX12_at : ByteArray := prog_14_method_66_code
def yX12_at : MethodName := ⟨RX12, "at", "(III)I"⟩
abbrev cX12_together : ByteArray := prog_14_method_67_code
def yX12_together : MethodName := ⟨RX12, "together", "()I"⟩
abbrev cX12_meet : ByteArray := prog_14_method_68_code
def yX12_meet : MethodName := ⟨RX12, "meet", "(III)I"⟩
abbrev cX12_canon : ByteArray := prog_14_method_69_code
def yX12_canon : MethodName := ⟨RX12, "canon", "(IIII)I"⟩
abbrev cX12_follower : ByteArray := prog_14_method_70_code
def yX12_follower : MethodName := ⟨RX12, "follower", "(III)J"⟩
abbrev cX12_lay : ByteArray := prog_14_method_71_code
def yX12_lay : MethodName := ⟨RX12, "lay", "(II)I"⟩
abbrev cX12_isWanted : ByteArray := prog_14_method_72_code
def yX12_isWanted : MethodName := ⟨RX12, "isWanted", "()Z"⟩
abbrev cX12_write : ByteArray := prog_14_method_73_code
def yX12_write : MethodName := ⟨RX12, "write", "(IIIII)I"⟩
abbrev cX12_written : ByteArray := prog_14_method_74_code
def yX12_written : MethodName := ⟨RX12, "written", "(I)I"⟩
abbrev cX12_count : ByteArray := prog_14_method_75_code
def yX12_count : MethodName := ⟨RX12, "count", "(I)I"⟩
def RJ6 : String := "java/lang/Integer"
def TJ6 : u_T := fun k => match k with
  | _ => ("", "", "", false)
def tyJ6 : Nat → FieldType := fun k => match k with
  | _ => .int
abbrev wsJ60 : List Cond := u_ws RJ6 TJ6 0
theorem nmJ6 : ∀ a, a < 0 → ∀ b, b < 0 → a ≠ b → (TJ6 a).2.1 ≠ (TJ6 b).2.1 := by decide +kernel
theorem tyJ6_ok : ∀ k, k < 0 → parseFieldDescriptor (TJ6 k).2.2.1 = some (tyJ6 k) := by decide +kernel
abbrev cJ6_numberOfLeadingZeros_0f7a4 : ByteArray := prog_15_method_47_code
def yJ6_numberOfLeadingZeros_0f7a4 : MethodName := ⟨RJ6, "numberOfLeadingZeros", "(I)I"⟩
def RJ13 : String := "java/lang/Long"
def TJ13 : u_T := fun k => match k with
  | _ => ("", "", "", false)
def tyJ13 : Nat → FieldType := fun k => match k with
  | _ => .int
abbrev wsJ130 : List Cond := u_ws RJ13 TJ13 0
theorem nmJ13 : ∀ a, a < 0 → ∀ b, b < 0 → a ≠ b → (TJ13 a).2.1 ≠ (TJ13 b).2.1 := by decide +kernel
theorem tyJ13_ok : ∀ k, k < 0 → parseFieldDescriptor (TJ13 k).2.2.1 = some (tyJ13 k) := by decide +kernel
abbrev cJ13_compare_74951 : ByteArray := prog_16_method_42_code
def yJ13_compare_74951 : MethodName := ⟨RJ13, "compare", "(JJ)I"⟩
def RJ9 : String := "java/lang/Math"
def TJ9 : u_T := fun k => match k with
  | _ => ("", "", "", false)
def tyJ9 : Nat → FieldType := fun k => match k with
  | _ => .int
abbrev wsJ90 : List Cond := u_ws RJ9 TJ9 0
theorem nmJ9 : ∀ a, a < 0 → ∀ b, b < 0 → a ≠ b → (TJ9 a).2.1 ≠ (TJ9 b).2.1 := by decide +kernel
theorem tyJ9_ok : ∀ k, k < 0 → parseFieldDescriptor (TJ9 k).2.2.1 = some (tyJ9 k) := by decide +kernel
abbrev cJ9_abs_0f7a4 : ByteArray := prog_17_method_59_code
def yJ9_abs_0f7a4 : MethodName := ⟨RJ9, "abs", "(I)I"⟩
abbrev cJ9_max_7cf53 : ByteArray := prog_17_method_65_code
def yJ9_max_7cf53 : MethodName := ⟨RJ9, "max", "(II)I"⟩
abbrev cJ9_min_7cf53 : ByteArray := prog_17_method_69_code
def yJ9_min_7cf53 : MethodName := ⟨RJ9, "min", "(II)I"⟩
def RJ7 : String := "java/util/Arrays"
def TJ7 : u_T := fun k => match k with
  | _ => ("", "", "", false)
def tyJ7 : Nat → FieldType := fun k => match k with
  | _ => .int
abbrev wsJ70 : List Cond := u_ws RJ7 TJ7 0
theorem nmJ7 : ∀ a, a < 0 → ∀ b, b < 0 → a ≠ b → (TJ7 a).2.1 ≠ (TJ7 b).2.1 := by decide +kernel
theorem tyJ7_ok : ∀ k, k < 0 → parseFieldDescriptor (TJ7 k).2.2.1 = some (tyJ7 k) := by decide +kernel
abbrev cJ7_fill_53178 : ByteArray := prog_18_method_103_code
def yJ7_fill_53178 : MethodName := ⟨RJ7, "fill", "([II)V"⟩
def RL : String := "MensuralRowsLaw"
abbrev cL_law : ByteArray := code
def yL_law : MethodName := ⟨RL, "law", "([I)Z"⟩
def wsL_law_r1 : List Cond := [Cond.classLink RL 7 RX11, Cond.instantiable RX11 8, Cond.initialized RX11, Cond.classLink RL 10 RX12, Cond.instantiable RX12 54, Cond.initialized RX12, Cond.constantLong RL 32 (4294967295), Cond.methodLink RL 9 yX11_init, Cond.instanceMethod yX11_init, Cond.code yX11_init cX11_init 2 none, Cond.methodLink RX11 1 objectInit, Cond.instanceMethod objectInit, Cond.code objectInit ⟨#[0xb1]⟩ 1 none, Cond.classLink RX11 9 RX9, Cond.fieldLink RX11 11 "MensuralRows" "voices" "[LMensuralRows$Voice;", Cond.classLink RX11 15 RX2, Cond.fieldLink RX11 17 "MensuralRows" "followers" "[LMensuralRows$Follower;", Cond.classLink RX11 21 RX5, Cond.instantiable RX5 13, Cond.initialized RX5, Cond.fieldLink RX11 24 "MensuralRows" "reader" "LMensuralRows$Reader;", Cond.classLink RX11 28 RX10, Cond.instantiable RX10 10, Cond.initialized RX10]
def wsL_law_r2 : List Cond := [Cond.fieldLink RX11 31 "MensuralRows" "writer" "LMensuralRows$Writer;", Cond.classLink RX11 35 RX8, Cond.instantiable RX8 5, Cond.initialized RX8, Cond.fieldLink RX11 38 "MensuralRows" "times" "LMensuralRows$Times;", Cond.fieldLink RX11 42 "MensuralRows" "otherTimes" "LMensuralRows$Times;", Cond.instantiable RX9 9, Cond.initialized RX9, Cond.instantiable RX2 8, Cond.initialized RX2, Cond.instanceMethod yX5_init, Cond.code yX5_init cX5_init 1 none, Cond.methodLink RX5 5 objectInit, Cond.classLink RX5 11 RX0, Cond.instantiable RX0 7, Cond.initialized RX0, Cond.fieldLink RX5 14 "MensuralRows$Reader" "chain" "LMensuralRows$Chain;", Cond.classLink RX5 1 RX3, Cond.instantiable RX3 5, Cond.initialized RX3, Cond.fieldLink RX5 21 "MensuralRows$Reader" "found" "LMensuralRows$Found;", Cond.classLink RX5 25 RX1, Cond.instantiable RX1 6, Cond.initialized RX1]
def wsL_law_r3 : List Cond := [Cond.fieldLink RX5 28 "MensuralRows$Reader" "draft" "LMensuralRows$Draft;", Cond.arrayClass .int, Cond.fieldLink RX5 32 "MensuralRows$Reader" "stepTask" "[I", Cond.fieldLink RX5 36 "MensuralRows$Reader" "stepPlace" "[I", Cond.fieldLink RX5 39 "MensuralRows$Reader" "stepChoice" "[I", Cond.fieldLink RX5 42 "MensuralRows$Reader" "stepMade" "[I", Cond.fieldLink RX5 45 "MensuralRows$Reader" "stepLength" "[I", Cond.fieldLink RX5 48 "MensuralRows$Reader" "stepStrain" "[I", Cond.fieldLink RX5 51 "MensuralRows$Reader" "stepCopies" "[I", Cond.instanceMethod yX0_init, Cond.code yX0_init cX0_init 1 none, Cond.methodLink RX0 1 objectInit, Cond.fieldLink RX0 9 "MensuralRows$Chain" "sorts" "[I", Cond.fieldLink RX0 13 "MensuralRows$Chain" "kinds" "[I", Cond.fieldLink RX0 16 "MensuralRows$Chain" "worths" "[I", Cond.fieldLink RX0 19 "MensuralRows$Chain" "rests" "[I", Cond.fieldLink RX0 22 "MensuralRows$Chain" "places" "[I", Cond.classLink RX0 25 RX7, Cond.instantiable RX7 13, Cond.initialized RX7, Cond.fieldLink RX0 28 "MensuralRows$Chain" "spans" "LMensuralRows$Spans;", Cond.instanceMethod yX7_init, Cond.code yX7_init cX7_init 1 none, Cond.methodLink RX7 3 objectInit]
def wsL_law_r4 : List Cond := [Cond.fieldLink RX7 11 "MensuralRows$Spans" "ends" "[I", Cond.fieldLink RX7 15 "MensuralRows$Spans" "units" "[I", Cond.fieldLink RX7 18 "MensuralRows$Spans" "pairs" "[I", Cond.fieldLink RX7 21 "MensuralRows$Spans" "thirds" "[I", Cond.fieldLink RX7 24 "MensuralRows$Spans" "plain" "[I", Cond.fieldLink RX7 27 "MensuralRows$Spans" "rests" "[I", Cond.fieldLink RX7 30 "MensuralRows$Spans" "coloured" "[I", Cond.fieldLink RX7 33 "MensuralRows$Spans" "altered" "[I", Cond.fieldLink RX7 36 "MensuralRows$Spans" "lateImperfect" "[I", Cond.instanceMethod yX3_init, Cond.code yX3_init cX3_init 1 none, Cond.methodLink RX3 5 objectInit, Cond.arrayClass .long, Cond.fieldLink RX3 11 "MensuralRows$Found" "words" "[J", Cond.fieldLink RX3 15 "MensuralRows$Found" "strains" "[I", Cond.fieldLink RX3 19 "MensuralRows$Found" "order" "[I", Cond.fieldLink RX3 22 "MensuralRows$Found" "firstOfStrain" "[I", Cond.instanceMethod yX1_init, Cond.code yX1_init cX1_init 1 none, Cond.methodLink RX1 3 objectInit, Cond.fieldLink RX1 11 "MensuralRows$Draft" "forms" "[I", Cond.fieldLink RX1 15 "MensuralRows$Draft" "ticks" "[I", Cond.instanceMethod yX10_init, Cond.code yX10_init cX10_init 1 none]
def wsL_law_r5 : List Cond := [Cond.methodLink RX10 5 objectInit, Cond.classLink RX10 11 RX9, Cond.fieldLink RX10 14 "MensuralRows$Writer" "draft" "LMensuralRows$Voice;", Cond.fieldLink RX10 18 "MensuralRows$Writer" "wanted" "[I", Cond.fieldLink RX10 22 "MensuralRows$Writer" "choices" "[I", Cond.fieldLink RX10 25 "MensuralRows$Writer" "fitting" "[I", Cond.fieldLink RX10 28 "MensuralRows$Writer" "fittingCount" "[I", Cond.fieldLink RX10 31 "MensuralRows$Writer" "kept" "[I", Cond.instanceMethod yX9_init, Cond.code yX9_init cX9_init 1 none, Cond.methodLink RX9 3 objectInit, Cond.fieldLink RX9 9 "MensuralRows$Voice" "fulls" "[I", Cond.fieldLink RX9 15 "MensuralRows$Voice" "ticks" "[I", Cond.classLink RX9 18 RX6, Cond.instantiable RX6 9, Cond.initialized RX6, Cond.fieldLink RX9 21 "MensuralRows$Voice" "row" "LMensuralRows$Row;", Cond.fieldLink RX9 25 "MensuralRows$Voice" "stale" "Z", Cond.instanceMethod yX6_init, Cond.code yX6_init cX6_init 1 none, Cond.methodLink RX6 3 objectInit, Cond.fieldLink RX6 9 "MensuralRows$Row" "sorts" "[I", Cond.fieldLink RX6 15 "MensuralRows$Row" "kinds" "[I", Cond.fieldLink RX6 18 "MensuralRows$Row" "pitches" "[I"]
def wsL_law_r6 : List Cond := [Cond.arrayClass .boolean, Cond.fieldLink RX6 21 "MensuralRows$Row" "colours" "[Z", Cond.fieldLink RX6 25 "MensuralRows$Row" "ups" "[I", Cond.fieldLink RX6 28 "MensuralRows$Row" "downs" "[I", Cond.fieldLink RX6 31 "MensuralRows$Row" "up" "I", Cond.fieldLink RX6 35 "MensuralRows$Row" "down" "I", Cond.instanceMethod yX8_init, Cond.code yX8_init cX8_init 1 none, Cond.methodLink RX8 3 objectInit, Cond.fieldLink RX8 9 "MensuralRows$Times" "ups" "[J", Cond.fieldLink RX8 15 "MensuralRows$Times" "downs" "[J", Cond.classLink RX8 18 RX4, Cond.instantiable RX4 2, Cond.initialized RX4, Cond.fieldLink RX8 21 "MensuralRows$Times" "now" "LMensuralRows$Ratio;", Cond.fieldLink RX8 25 "MensuralRows$Times" "lasting" "LMensuralRows$Ratio;", Cond.instanceMethod yX4_init, Cond.code yX4_init cX4_init 1 none, Cond.methodLink RX4 1 objectInit, Cond.fieldLink RX4 7 "MensuralRows$Ratio" "down" "J", Cond.instanceMethod yX2_init, Cond.code yX2_init cX2_init 1 none, Cond.methodLink RX2 3 objectInit, Cond.fieldLink RX2 9 "MensuralRows$Follower" "pitches" "[I"]
def wsL_law_r7 : List Cond := [Cond.fieldLink RX2 15 "MensuralRows$Follower" "beginUps" "[J", Cond.fieldLink RX2 19 "MensuralRows$Follower" "beginDowns" "[J", Cond.fieldLink RX2 22 "MensuralRows$Follower" "lengthUps" "[J", Cond.fieldLink RX2 25 "MensuralRows$Follower" "lengthDowns" "[J", Cond.classLink RX2 28 RX4, Cond.fieldLink RX2 31 "MensuralRows$Follower" "now" "LMensuralRows$Ratio;", Cond.fieldLink RX2 35 "MensuralRows$Follower" "lasting" "LMensuralRows$Ratio;", Cond.methodLink RL 12 yX12_init, Cond.instanceMethod yX12_init, Cond.code yX12_init cX12_init 1 none, Cond.methodLink RX12 1 objectInit, Cond.fieldLink RX12 7 "MensuralRowsModel" "signOf" "[I", Cond.fieldLink RX12 13 "MensuralRowsModel" "sizeOf" "[I", Cond.fieldLink RX12 16 "MensuralRowsModel" "upOf" "[I", Cond.fieldLink RX12 19 "MensuralRowsModel" "downOf" "[I", Cond.fieldLink RX12 22 "MensuralRowsModel" "pickedOf" "[I", Cond.fieldLink RX12 25 "MensuralRowsModel" "sortOf" "[I", Cond.fieldLink RX12 28 "MensuralRowsModel" "kindOf" "[I", Cond.fieldLink RX12 31 "MensuralRowsModel" "pitchOf" "[I", Cond.fieldLink RX12 34 "MensuralRowsModel" "isColoured" "[Z", Cond.fieldLink RX12 38 "MensuralRowsModel" "upAt" "[I", Cond.fieldLink RX12 41 "MensuralRowsModel" "downAt" "[I", Cond.fieldLink RX12 44 "MensuralRowsModel" "rowSort" "[I", Cond.fieldLink RX12 47 "MensuralRowsModel" "rowKind" "[I"]
def wsL_law_r8 : List Cond := [Cond.fieldLink RX12 50 "MensuralRowsModel" "rowColoured" "[Z", Cond.fieldLink RX12 53 "MensuralRowsModel" "ways" "[I", Cond.fieldLink RX12 56 "MensuralRowsModel" "itemWays" "[I", Cond.fieldLink RX12 59 "MensuralRowsModel" "taskWhat" "[I", Cond.fieldLink RX12 62 "MensuralRowsModel" "taskKind" "[I", Cond.fieldLink RX12 65 "MensuralRowsModel" "taskFrom" "[I", Cond.fieldLink RX12 68 "MensuralRowsModel" "taskTo" "[I", Cond.fieldLink RX12 71 "MensuralRowsModel" "taskRank" "[I", Cond.constant RX12 74 (120000), Cond.fieldLink RX12 75 "MensuralRowsModel" "forms" "[I", Cond.fieldLink RX12 78 "MensuralRowsModel" "formMany" "[I", Cond.fieldLink RX12 81 "MensuralRowsModel" "strain" "[I", Cond.fieldLink RX12 84 "MensuralRowsModel" "values" "[I", Cond.fieldLink RX12 87 "MensuralRowsModel" "sorted" "[I", Cond.fieldLink RX12 90 "MensuralRowsModel" "reached" "[Z", Cond.fieldLink RX12 93 "MensuralRowsModel" "beginAbove" "[J", Cond.fieldLink RX12 97 "MensuralRowsModel" "beginBelow" "[J", Cond.fieldLink RX12 100 "MensuralRowsModel" "followerSize" "[I", Cond.fieldLink RX12 103 "MensuralRowsModel" "followerTold" "[J", Cond.fieldLink RX12 106 "MensuralRowsModel" "writtenKind" "[I", Cond.fieldLink RX12 109 "MensuralRowsModel" "wantedValue" "[I", Cond.fieldLink RX12 112 "MensuralRowsModel" "ready" "I", Cond.methodLink RL 13 yX11_voice, Cond.instanceMethod yX11_voice]
def wsL_law_r9 : List Cond := [Cond.selects RX11 yX11_voice yX11_voice, Cond.code yX11_voice cX11_voice 3 (some .int), Cond.fieldLink RX11 47 "MensuralRows" "voiceCount" "I", Cond.methodLink RX11 51 yX9_setSign, Cond.instanceMethod yX9_setSign, Cond.selects RX9 yX9_setSign yX9_setSign, Cond.code yX9_setSign cX9_setSign 4 none, Cond.fieldLink RX9 29 "MensuralRows$Voice" "sign" "I", Cond.fieldLink RX9 33 "MensuralRows$Voice" "ground" "I", Cond.methodLink RX9 36 yX9_isPerfect, Cond.instanceMethod yX9_isPerfect, Cond.selects RX9 yX9_isPerfect yX9_isPerfect, Cond.code yX9_isPerfect cX9_isPerfect 2 (some .boolean), Cond.methodLink RL 17 yX12_voice, Cond.instanceMethod yX12_voice, Cond.selects RX12 yX12_voice yX12_voice, Cond.code yX12_voice cX12_voice 2 (some .int), Cond.constantLong RX12 123 (15), Cond.fieldLink RX12 116 "MensuralRowsModel" "voices" "I", Cond.methodLink RX12 119 yX12_isIn, Cond.static yX12_isIn, Cond.code yX12_isIn cX12_isIn 6 (some .boolean), Cond.methodLink RL 18 yX11_note, Cond.instanceMethod yX11_note]
def wsL_law_r10 : List Cond := [Cond.selects RX11 yX11_note yX11_note, Cond.code yX11_note cX11_note 6 (some .int), Cond.methodLink RX11 55 yX11_voiceAt, Cond.instanceMethod yX11_voiceAt, Cond.selects RX11 yX11_voiceAt yX11_voiceAt, Cond.code yX11_voiceAt cX11_voiceAt 2 (some (.object "MensuralRows$Voice")), Cond.methodLink RX11 59 yX11_isKind, Cond.static yX11_isKind, Cond.code yX11_isKind cX11_isKind 1 (some .boolean), Cond.methodLink RX11 63 yX11_isPitch, Cond.static yX11_isPitch, Cond.code yX11_isPitch cX11_isPitch 1 (some .boolean), Cond.methodLink RX11 66 yX9_append, Cond.instanceMethod yX9_append, Cond.selects RX9 yX9_append yX9_append, Cond.code yX9_append cX9_append 5 (some .int), Cond.fieldLink RX9 53 "MensuralRows$Row" "size" "I", Cond.methodLink RX9 43 yX6_hasRoomFor, Cond.instanceMethod yX6_hasRoomFor, Cond.selects RX6 yX6_hasRoomFor yX6_hasRoomFor, Cond.code yX6_hasRoomFor cX6_hasRoomFor 2 (some .boolean), Cond.fieldLink RX6 38 "MensuralRows$Row" "size" "I", Cond.methodLink RX9 46 yX6_add, Cond.instanceMethod yX6_add]
def wsL_law_r11 : List Cond := [Cond.selects RX6 yX6_add yX6_add, Cond.code yX6_add cX6_add 5 none, Cond.methodLink RX9 50 yX9_change, Cond.instanceMethod yX9_change, Cond.selects RX9 yX9_change yX9_change, Cond.code yX9_change cX9_change 1 none, Cond.fieldLink RX9 56 "MensuralRows$Voice" "picked" "I", Cond.methodLink RL 22 yX12_note, Cond.instanceMethod yX12_note, Cond.selects RX12 yX12_note yX12_note, Cond.code yX12_note cX12_note 5 (some .int), Cond.constantLong RX12 133 (6), Cond.constantLong RX12 135 (-40), Cond.constantLong RX12 137 (40), Cond.methodLink RX12 129 yX12_isVoice, Cond.instanceMethod yX12_isVoice, Cond.selects RX12 yX12_isVoice yX12_isVoice, Cond.code yX12_isVoice cX12_isVoice 2 (some .boolean), Cond.methodLink RX12 139 yX12_put, Cond.instanceMethod yX12_put, Cond.selects RX12 yX12_put yX12_put, Cond.code yX12_put cX12_put 7 (some .int), Cond.methodLink RX12 125 yX12_change, Cond.instanceMethod yX12_change]
def wsL_law_r12 : List Cond := [Cond.selects RX12 yX12_change yX12_change, Cond.code yX12_change cX12_change 2 none, Cond.methodLink RL 23 yX11_rest, Cond.instanceMethod yX11_rest, Cond.selects RX11 yX11_rest yX11_rest, Cond.code yX11_rest cX11_rest 4 (some .int), Cond.methodLink RL 27 yX12_rest, Cond.instanceMethod yX12_rest, Cond.selects RX12 yX12_rest yX12_rest, Cond.code yX12_rest cX12_rest 3 (some .int), Cond.methodLink RL 28 yX11_dot, Cond.instanceMethod yX11_dot, Cond.selects RX11 yX11_dot yX11_dot, Cond.code yX11_dot cX11_dot 4 (some .int), Cond.fieldLink RX11 70 "MensuralRows$Voice" "row" "LMensuralRows$Row;", Cond.fieldLink RX11 74 "MensuralRows$Row" "size" "I", Cond.methodLink RX11 79 yX6_sortAt, Cond.instanceMethod yX6_sortAt, Cond.selects RX6 yX6_sortAt yX6_sortAt, Cond.code yX6_sortAt cX6_sortAt 2 (some .int), Cond.methodLink RL 31 yX12_dot, Cond.instanceMethod yX12_dot, Cond.selects RX12 yX12_dot yX12_dot, Cond.code yX12_dot cX12_dot 2 (some .int)]
def wsL_law_r13 : List Cond := [Cond.methodLink RL 34 yX11_ligature, Cond.instanceMethod yX11_ligature, Cond.selects RX11 yX11_ligature yX11_ligature, Cond.code yX11_ligature cX11_ligature 9 (some .int), Cond.methodLink RX11 83 yX11_hasPitches, Cond.static yX11_hasPitches, Cond.code yX11_hasPitches cX11_hasPitches 4 (some .boolean), Cond.methodLink RX11 98 yX11_pitchOf, Cond.static yX11_pitchOf, Cond.code yX11_pitchOf cX11_pitchOf 3 (some .int), Cond.methodLink RX11 87 yX11_isShape, Cond.static yX11_isShape, Cond.code yX11_isShape cX11_isShape 6 (some .boolean), Cond.methodLink RX11 250 yX11_falls, Cond.static yX11_falls, Cond.code yX11_falls cX11_falls 3 (some .boolean), Cond.methodLink RX11 91 yX6_hasRoomFor, Cond.methodLink RX11 94 yX11_kindInLigature, Cond.static yX11_kindInLigature, Cond.code yX11_kindInLigature cX11_kindInLigature 6 (some .int), Cond.methodLink RL 38 yX12_ligature, Cond.instanceMethod yX12_ligature, Cond.selects RX12 yX12_ligature yX12_ligature, Cond.code yX12_ligature cX12_ligature 11 (some .int)]
def wsL_law_r14 : List Cond := [Cond.constantLong RX12 143 (2), Cond.constantLong RX12 145 (8), Cond.methodLink RX12 147 yX12_pitchIn, Cond.static yX12_pitchIn, Cond.code yX12_pitchIn cX12_pitchIn 3 (some .int), Cond.methodLink RX12 151 yX12_ligatureKind, Cond.static yX12_ligatureKind, Cond.code yX12_ligatureKind cX12_ligatureKind 7 (some .int), Cond.methodLink RL 39 yX11_proportion, Cond.instanceMethod yX11_proportion, Cond.selects RX11 yX11_proportion yX11_proportion, Cond.code yX11_proportion cX11_proportion 5 (some .int), Cond.methodLink RX11 102 yX6_multiply, Cond.instanceMethod yX6_multiply, Cond.selects RX6 yX6_multiply yX6_multiply, Cond.code yX6_multiply cX6_multiply 6 (some .boolean), Cond.methodLink RX6 41 yX4_common, Cond.static yX4_common, Cond.code yX4_common cX4_common 11 (some .long), Cond.methodLink RL 43 yX12_proportion, Cond.instanceMethod yX12_proportion, Cond.selects RX12 yX12_proportion yX12_proportion, Cond.code yX12_proportion cX12_proportion 7 (some .int), Cond.constantLong RX12 155 (9)]
def wsL_law_r15 : List Cond := [Cond.methodLink RX12 157 yX12_divisor, Cond.static yX12_divisor, Cond.code yX12_divisor cX12_divisor 10 (some .long), Cond.methodLink RL 44 yX11_back, Cond.instanceMethod yX11_back, Cond.selects RX11 yX11_back yX11_back, Cond.code yX11_back cX11_back 3 (some .int), Cond.methodLink RX11 106 yX9_removeLast, Cond.instanceMethod yX9_removeLast, Cond.selects RX9 yX9_removeLast yX9_removeLast, Cond.code yX9_removeLast cX9_removeLast 1 none, Cond.methodLink RL 47 yX12_back, Cond.instanceMethod yX12_back, Cond.selects RX12 yX12_back yX12_back, Cond.code yX12_back cX12_back 2 (some .int), Cond.methodLink RL 48 yX11_told, Cond.instanceMethod yX11_told, Cond.selects RX11 yX11_told yX11_told, Cond.code yX11_told cX11_told 4 (some .int), Cond.fieldLink RX11 109 "MensuralRows$Voice" "sign" "I", Cond.fieldLink RX11 112 "MensuralRows$Voice" "ground" "I", Cond.fieldLink RX11 115 "MensuralRows$Row" "up" "I", Cond.fieldLink RX11 118 "MensuralRows$Row" "down" "I", Cond.fieldLink RX11 121 "MensuralRows$Voice" "picked" "I"]
def wsL_law_r16 : List Cond := [Cond.methodLink RX11 124 yX9_fullOf, Cond.instanceMethod yX9_fullOf, Cond.selects RX9 yX9_fullOf yX9_fullOf, Cond.code yX9_fullOf cX9_fullOf 2 (some .int), Cond.methodLink RL 51 yX12_told, Cond.instanceMethod yX12_told, Cond.selects RX12 yX12_told yX12_told, Cond.code yX12_told cX12_told 3 (some .int), Cond.methodLink RX12 165 yX12_groundOf, Cond.static yX12_groundOf, Cond.code yX12_groundOf cX12_groundOf 2 (some .int), Cond.methodLink RX12 161 yX12_isPerfect, Cond.static yX12_isPerfect, Cond.code yX12_isPerfect cX12_isPerfect 2 (some .boolean), Cond.methodLink RX12 169 yX12_fullOf, Cond.static yX12_fullOf, Cond.code yX12_fullOf cX12_fullOf 4 (some .int), Cond.methodLink RL 52 yX11_symbol, Cond.instanceMethod yX11_symbol, Cond.selects RX11 yX11_symbol yX11_symbol, Cond.code yX11_symbol cX11_symbol 6 (some .int), Cond.methodLink RX11 127 yX6_kindAt, Cond.instanceMethod yX6_kindAt, Cond.selects RX6 yX6_kindAt yX6_kindAt]
def wsL_law_r17 : List Cond := [Cond.code yX6_kindAt cX6_kindAt 2 (some .int), Cond.methodLink RX11 130 yX6_pitchAt, Cond.instanceMethod yX6_pitchAt, Cond.selects RX6 yX6_pitchAt yX6_pitchAt, Cond.code yX6_pitchAt cX6_pitchAt 2 (some .int), Cond.methodLink RX11 133 yX6_isColouredAt, Cond.instanceMethod yX6_isColouredAt, Cond.selects RX6 yX6_isColouredAt yX6_isColouredAt, Cond.code yX6_isColouredAt cX6_isColouredAt 2 (some .boolean), Cond.methodLink RL 55 yX12_symbol, Cond.instanceMethod yX12_symbol, Cond.selects RX12 yX12_symbol yX12_symbol, Cond.code yX12_symbol cX12_symbol 5 (some .int), Cond.constantLong RX12 173 (3), Cond.methodLink RL 56 yX11_readings, Cond.instanceMethod yX11_readings, Cond.selects RX11 yX11_readings yX11_readings, Cond.code yX11_readings cX11_readings 3 (some .int), Cond.fieldLink RX11 136 "MensuralRows$Voice" "stale" "Z", Cond.fieldLink RX11 148 "MensuralRows$Voice" "total" "I", Cond.methodLink RX11 140 yX5_read, Cond.instanceMethod yX5_read, Cond.selects RX5 yX5_read yX5_read, Cond.code yX5_read cX5_read 5 none]
def wsL_law_r18 : List Cond := [Cond.fieldLink RX5 54 "MensuralRows$Chain" "spans" "LMensuralRows$Spans;", Cond.fieldLink RX5 70 "MensuralRows$Voice" "row" "LMensuralRows$Row;", Cond.fieldLink RX5 76 "MensuralRows$Row" "size" "I", Cond.constant RX5 90 (1000000), Cond.fieldLink RX5 109 "MensuralRows$Reader" "task" "I", Cond.fieldLink RX5 116 "MensuralRows$Draft" "place" "I", Cond.fieldLink RX5 122 "MensuralRows$Reader" "readLast" "LMensuralRows$Voice;", Cond.fieldLink RX5 126 "MensuralRows$Found" "total" "I", Cond.fieldLink RX5 129 "MensuralRows$Spans" "reached" "I", Cond.methodLink RX5 58 yX7_fill, Cond.instanceMethod yX7_fill, Cond.selects RX7 yX7_fill yX7_fill, Cond.code yX7_fill cX7_fill 5 none, Cond.fieldLink RX7 42 "MensuralRows$Voice" "row" "LMensuralRows$Row;", Cond.fieldLink RX7 48 "MensuralRows$Row" "size" "I", Cond.fieldLink RX7 54 "MensuralRows$Spans" "size" "I", Cond.fieldLink RX7 73 "MensuralRows$Voice" "ground" "I", Cond.methodLink RX7 39 yX7_clear, Cond.instanceMethod yX7_clear, Cond.selects RX7 yX7_clear yX7_clear, Cond.code yX7_clear cX7_clear 1 none, Cond.fieldLink RX7 93 "MensuralRows$Spans" "dots" "I", Cond.methodLink RX7 96 yJ7_fill_53178, Cond.static yJ7_fill_53178]
def wsL_law_r19 : List Cond := [Cond.initialized RJ7, Cond.code yJ7_fill_53178 cJ7_fill_53178 4 none, Cond.methodLink RX7 55 yX7_sortSymbol, Cond.instanceMethod yX7_sortSymbol, Cond.selects RX7 yX7_sortSymbol yX7_sortSymbol, Cond.code yX7_sortSymbol cX7_sortSymbol 6 none, Cond.methodLink RX7 63 yX6_kindAt, Cond.methodLink RX7 59 yX6_sortAt, Cond.methodLink RX7 105 yX6_isColouredAt, Cond.methodLink RX7 66 yX7_fillThird, Cond.instanceMethod yX7_fillThird, Cond.selects RX7 yX7_fillThird yX7_fillThird, Cond.code yX7_fillThird cX7_fillThird 4 none, Cond.methodLink RX7 112 yX7_startsIn, Cond.instanceMethod yX7_startsIn, Cond.selects RX7 yX7_startsIn yX7_startsIn, Cond.code yX7_startsIn cX7_startsIn 4 (some .int), Cond.methodLink RX7 108 yX7_keep, Cond.instanceMethod yX7_keep, Cond.selects RX7 yX7_keep yX7_keep, Cond.code yX7_keep cX7_keep 8 none, Cond.methodLink RX7 70 yX7_fillPair, Cond.instanceMethod yX7_fillPair, Cond.selects RX7 yX7_fillPair yX7_fillPair]
def wsL_law_r20 : List Cond := [Cond.code yX7_fillPair cX7_fillPair 3 none, Cond.methodLink RX7 116 yX7_endsIn, Cond.static yX7_endsIn, Cond.code yX7_endsIn cX7_endsIn 4 (some .int), Cond.methodLink RX7 119 yX7_after, Cond.instanceMethod yX7_after, Cond.selects RX7 yX7_after yX7_after, Cond.code yX7_after cX7_after 7 (some .int), Cond.methodLink RX7 76 yX7_fillGreater, Cond.instanceMethod yX7_fillGreater, Cond.selects RX7 yX7_fillGreater yX7_fillGreater, Cond.code yX7_fillGreater cX7_fillGreater 3 none, Cond.methodLink RX7 122 yX7_dottedOf, Cond.instanceMethod yX7_dottedOf, Cond.selects RX7 yX7_dottedOf yX7_dottedOf, Cond.code yX7_dottedOf cX7_dottedOf 2 (some .int), Cond.methodLink RX7 79 yX9_isPerfect, Cond.methodLink RX7 83 yX7_fillPerfect, Cond.instanceMethod yX7_fillPerfect, Cond.selects RX7 yX7_fillPerfect yX7_fillPerfect, Cond.code yX7_fillPerfect cX7_fillPerfect 6 none, Cond.methodLink RX7 125 yX7_keepDivided, Cond.instanceMethod yX7_keepDivided, Cond.selects RX7 yX7_keepDivided yX7_keepDivided]
def wsL_law_r21 : List Cond := [Cond.code yX7_keepDivided cX7_keepDivided 5 none, Cond.methodLink RX7 129 yX7_alteredOf, Cond.instanceMethod yX7_alteredOf, Cond.selects RX7 yX7_alteredOf yX7_alteredOf, Cond.code yX7_alteredOf cX7_alteredOf 2 (some .int), Cond.methodLink RX7 132 yX7_lateImperfectOf, Cond.instanceMethod yX7_lateImperfectOf, Cond.selects RX7 yX7_lateImperfectOf yX7_lateImperfectOf, Cond.code yX7_lateImperfectOf cX7_lateImperfectOf 2 (some .int), Cond.methodLink RX7 86 yX7_fillImperfect, Cond.instanceMethod yX7_fillImperfect, Cond.selects RX7 yX7_fillImperfect yX7_fillImperfect, Cond.code yX7_fillImperfect cX7_fillImperfect 5 none, Cond.methodLink RX7 89 yX7_joinItems, Cond.instanceMethod yX7_joinItems, Cond.selects RX7 yX7_joinItems yX7_joinItems, Cond.code yX7_joinItems cX7_joinItems 3 none, Cond.fieldLink RX7 135 "MensuralRows$Spans" "toEnd" "I", Cond.fieldLink RX7 142 "MensuralRows$Spans" "reached" "I", Cond.methodLink RX7 138 yX7_itemEnds, Cond.instanceMethod yX7_itemEnds, Cond.selects RX7 yX7_itemEnds yX7_itemEnds, Cond.code yX7_itemEnds cX7_itemEnds 5 (some .int), Cond.methodLink RX5 64 yX3_clear]
def wsL_law_r22 : List Cond := [Cond.instanceMethod yX3_clear, Cond.selects RX3 yX3_clear yX3_clear, Cond.code yX3_clear cX3_clear 1 none, Cond.fieldLink RX3 25 "MensuralRows$Found" "total" "I", Cond.methodLink RX5 67 yX5_begin, Cond.instanceMethod yX5_begin, Cond.selects RX5 yX5_begin yX5_begin, Cond.code yX5_begin cX5_begin 1 none, Cond.methodLink RX5 141 yX0_begin, Cond.instanceMethod yX0_begin, Cond.selects RX0 yX0_begin yX0_begin, Cond.code yX0_begin cX0_begin 1 none, Cond.fieldLink RX0 32 "MensuralRows$Chain" "made" "I", Cond.fieldLink RX0 36 "MensuralRows$Spans" "toEnd" "I", Cond.methodLink RX0 39 yX0_push, Cond.instanceMethod yX0_push, Cond.selects RX0 yX0_push yX0_push, Cond.code yX0_push cX0_push 6 (some .int), Cond.methodLink RX5 142 yX1_begin, Cond.instanceMethod yX1_begin, Cond.selects RX1 yX1_begin yX1_begin, Cond.code yX1_begin cX1_begin 1 none, Cond.fieldLink RX1 18 "MensuralRows$Draft" "length" "I", Cond.fieldLink RX1 22 "MensuralRows$Draft" "strain" "I"]
def wsL_law_r23 : List Cond := [Cond.fieldLink RX1 25 "MensuralRows$Draft" "place" "I", Cond.fieldLink RX1 28 "MensuralRows$Draft" "copies" "I", Cond.methodLink RX5 82 yX5_keep, Cond.instanceMethod yX5_keep, Cond.selects RX5 yX5_keep yX5_keep, Cond.code yX5_keep cX5_keep 3 none, Cond.fieldLink RX5 143 "MensuralRows$Voice" "stale" "Z", Cond.fieldLink RX5 147 "MensuralRows$Draft" "strain" "I", Cond.fieldLink RX5 150 "MensuralRows$Reader" "leastStrain" "I", Cond.fieldLink RX5 157 "MensuralRows$Draft" "copies" "I", Cond.methodLink RX5 153 yX9_holdPicked, Cond.instanceMethod yX9_holdPicked, Cond.selects RX9 yX9_holdPicked yX9_holdPicked, Cond.code yX9_holdPicked cX9_holdPicked 4 none, Cond.methodLink RX9 65 yX1_ticksAt, Cond.instanceMethod yX1_ticksAt, Cond.selects RX1 yX1_ticksAt yX1_ticksAt, Cond.code yX1_ticksAt cX1_ticksAt 2 (some .int), Cond.methodLink RX5 160 yX3_add, Cond.instanceMethod yX3_add, Cond.selects RX3 yX3_add yX3_add, Cond.code yX3_add cX3_add 6 none, Cond.methodLink RX3 33 Lib.Math.min.name, Cond.static Lib.Math.min.name]
def wsL_law_r24 : List Cond := [Cond.initialized "java/lang/Math", Cond.code Lib.Math.min.name Lib.Math.min.code 2 (some .int), Cond.methodLink RX3 39 Lib.Math.max.name, Cond.static Lib.Math.max.name, Cond.code Lib.Math.max.name Lib.Math.max.code 2 (some .int), Cond.methodLink RX3 29 yX3_isMany, Cond.instanceMethod yX3_isMany, Cond.selects RX3 yX3_isMany yX3_isMany, Cond.code yX3_isMany cX3_isMany 1 (some .boolean), Cond.methodLink RX3 42 yX3_pack, Cond.instanceMethod yX3_pack, Cond.selects RX3 yX3_pack yX3_pack, Cond.code yX3_pack cX3_pack 7 none, Cond.methodLink RX5 86 yX5_save, Cond.instanceMethod yX5_save, Cond.selects RX5 yX5_save yX5_save, Cond.code yX5_save cX5_save 2 none, Cond.fieldLink RX5 171 "MensuralRows$Chain" "made" "I", Cond.fieldLink RX5 174 "MensuralRows$Draft" "length" "I", Cond.methodLink RX5 91 yX3_isMany, Cond.methodLink RX5 95 yX5_nextChoice, Cond.instanceMethod yX5_nextChoice, Cond.selects RX5 yX5_nextChoice yX5_nextChoice, Cond.code yX5_nextChoice cX5_nextChoice 12 (some .int)]
def wsL_law_r25 : List Cond := [Cond.methodLink RX5 183 Lib.Math.max.name, Cond.methodLink RX5 112 yX0_sortOf, Cond.instanceMethod yX0_sortOf, Cond.selects RX0 yX0_sortOf yX0_sortOf, Cond.code yX0_sortOf cX0_sortOf 2 (some .int), Cond.methodLink RX5 177 yX0_restOf, Cond.instanceMethod yX0_restOf, Cond.selects RX0 yX0_restOf yX0_restOf, Cond.code yX0_restOf cX0_restOf 2 (some .int), Cond.methodLink RX5 180 yX0_placesOf, Cond.instanceMethod yX0_placesOf, Cond.selects RX0 yX0_placesOf yX0_placesOf, Cond.code yX0_placesOf cX0_placesOf 2 (some .int), Cond.methodLink RX5 188 yX5_itemKind, Cond.instanceMethod yX5_itemKind, Cond.selects RX5 yX5_itemKind yX5_itemKind, Cond.code yX5_itemKind cX5_itemKind 5 (some .int), Cond.fieldLink RX5 209 "MensuralRows$Voice" "ground" "I", Cond.methodLink RX5 202 yX6_kindAt, Cond.methodLink RX5 205 yX6_isColouredAt, Cond.methodLink RX5 192 yX0_kindOf, Cond.instanceMethod yX0_kindOf, Cond.selects RX0 yX0_kindOf yX0_kindOf, Cond.code yX0_kindOf cX0_kindOf 2 (some .int)]
def wsL_law_r26 : List Cond := [Cond.methodLink RX5 195 yX5_itemForm, Cond.static yX5_itemForm, Cond.code yX5_itemForm cX5_itemForm 1 (some .int), Cond.methodLink RX5 198 yX7_endsOf, Cond.instanceMethod yX7_endsOf, Cond.selects RX7 yX7_endsOf yX7_endsOf, Cond.code yX7_endsOf cX7_endsOf 5 (some .int), Cond.methodLink RX5 99 yX5_restore, Cond.instanceMethod yX5_restore, Cond.selects RX5 yX5_restore yX5_restore, Cond.code yX5_restore cX5_restore 2 none, Cond.methodLink RX5 102 yX5_choose, Cond.instanceMethod yX5_choose, Cond.selects RX5 yX5_choose yX5_choose, Cond.code yX5_choose cX5_choose 7 none, Cond.methodLink RX5 212 yX1_tell, Cond.instanceMethod yX1_tell, Cond.selects RX1 yX1_tell yX1_tell, Cond.code yX1_tell cX1_tell 2 none, Cond.methodLink RX5 215 yX5_partsOfUnit, Cond.instanceMethod yX5_partsOfUnit, Cond.selects RX5 yX5_partsOfUnit yX5_partsOfUnit, Cond.code yX5_partsOfUnit cX5_partsOfUnit 8 (some .int), Cond.methodLink RX5 221 yX9_fullOf]
def wsL_law_r27 : List Cond := [Cond.methodLink RX5 224 yX9_isPerfect, Cond.methodLink RX5 227 yX0_divide, Cond.instanceMethod yX0_divide, Cond.selects RX0 yX0_divide yX0_divide, Cond.code yX0_divide cX0_divide 2 (some .int), Cond.fieldLink RX0 60 "MensuralRows$Spans" "dots" "I", Cond.methodLink RX0 46 yX0_placesOf, Cond.methodLink RX5 230 yX1_take, Cond.instanceMethod yX1_take, Cond.selects RX1 yX1_take yX1_take, Cond.code yX1_take cX1_take 2 none, Cond.methodLink RX5 233 yX1_takeDotted, Cond.instanceMethod yX1_takeDotted, Cond.selects RX1 yX1_takeDotted yX1_takeDotted, Cond.code yX1_takeDotted cX1_takeDotted 2 none, Cond.methodLink RX1 31 yX1_take, Cond.methodLink RX5 236 yX0_unit, Cond.instanceMethod yX0_unit, Cond.selects RX0 yX0_unit yX0_unit, Cond.code yX0_unit cX0_unit 3 (some .int), Cond.fieldLink RX0 43 "MensuralRows$Spans" "units" "[I", Cond.methodLink RX0 50 yX7_before, Cond.instanceMethod yX7_before, Cond.selects RX7 yX7_before yX7_before]
def wsL_law_r28 : List Cond := [Cond.code yX7_before cX7_before 7 (some .int), Cond.methodLink RX5 239 yX0_pair, Cond.instanceMethod yX0_pair, Cond.selects RX0 yX0_pair yX0_pair, Cond.code yX0_pair cX0_pair 3 (some .int), Cond.fieldLink RX0 54 "MensuralRows$Spans" "pairs" "[I", Cond.methodLink RX5 242 yX7_alteredOf, Cond.methodLink RX5 245 yX0_take, Cond.instanceMethod yX0_take, Cond.selects RX0 yX0_take yX0_take, Cond.code yX0_take cX0_take 4 (some .int), Cond.methodLink RX5 247 yX7_lateImperfectOf, Cond.methodLink RX5 218 yX5_partsOfOthers, Cond.instanceMethod yX5_partsOfOthers, Cond.selects RX5 yX5_partsOfOthers yX5_partsOfOthers, Cond.code yX5_partsOfOthers cX5_partsOfOthers 7 (some .int), Cond.methodLink RX5 250 yX7_dottedOf, Cond.methodLink RX5 253 yX0_takeDotted, Cond.instanceMethod yX0_takeDotted, Cond.selects RX0 yX0_takeDotted yX0_takeDotted, Cond.code yX0_takeDotted cX0_takeDotted 4 (some .int), Cond.methodLink RX5 255 yX0_third, Cond.instanceMethod yX0_third, Cond.selects RX0 yX0_third yX0_third]
def wsL_law_r29 : List Cond := [Cond.code yX0_third cX0_third 3 (some .int), Cond.fieldLink RX0 57 "MensuralRows$Spans" "thirds" "[I", Cond.methodLink RX5 105 yX5_settle, Cond.instanceMethod yX5_settle, Cond.selects RX5 yX5_settle yX5_settle, Cond.code yX5_settle cX5_settle 4 none, Cond.methodLink RX5 258 yX0_worthOf, Cond.instanceMethod yX0_worthOf, Cond.selects RX0 yX0_worthOf yX0_worthOf, Cond.code yX0_worthOf cX0_worthOf 2 (some .int), Cond.methodLink RX5 261 yX5_divide, Cond.instanceMethod yX5_divide, Cond.selects RX5 yX5_divide yX5_divide, Cond.code yX5_divide cX5_divide 6 (some .int), Cond.methodLink RX5 264 yX6_sortAt, Cond.methodLink RX5 119 yX3_arrange, Cond.instanceMethod yX3_arrange, Cond.selects RX3 yX3_arrange yX3_arrange, Cond.code yX3_arrange cX3_arrange 3 none, Cond.methodLink RX3 46 yJ7_fill_53178, Cond.methodLink RX5 132 yJ6_numberOfLeadingZeros_0f7a4, Cond.static yJ6_numberOfLeadingZeros_0f7a4, Cond.initialized RJ6, Cond.code yJ6_numberOfLeadingZeros_0f7a4 cJ6_numberOfLeadingZeros_0f7a4 2 (some .int)]
def wsL_law_r30 : List Cond := [Cond.constant RJ6 264 (65536), Cond.methodLink RX5 137 yX9_know, Cond.instanceMethod yX9_know, Cond.selects RX9 yX9_know yX9_know, Cond.code yX9_know cX9_know 3 none, Cond.fieldLink RX9 59 "MensuralRows$Voice" "total" "I", Cond.fieldLink RX9 62 "MensuralRows$Voice" "furthest" "I", Cond.methodLink RX11 144 yX9_isMany, Cond.instanceMethod yX9_isMany, Cond.selects RX9 yX9_isMany yX9_isMany, Cond.code yX9_isMany cX9_isMany 1 (some .boolean), Cond.methodLink RL 59 yX12_readings, Cond.instanceMethod yX12_readings, Cond.selects RX12 yX12_readings yX12_readings, Cond.code yX12_readings cX12_readings 2 (some .int), Cond.methodLink RX12 329 yX12_read, Cond.instanceMethod yX12_read, Cond.selects RX12 yX12_read yX12_read, Cond.code yX12_read cX12_read 3 (some .int), Cond.fieldLink RX12 222 "MensuralRowsModel" "sign" "I", Cond.fieldLink RX12 250 "MensuralRowsModel" "ground" "I", Cond.fieldLink RX12 175 "MensuralRowsModel" "size" "I", Cond.fieldLink RX12 317 "MensuralRowsModel" "readingMany" "I", Cond.methodLink RX12 326 yX12_readAll]
def wsL_law_r31 : List Cond := [Cond.instanceMethod yX12_readAll, Cond.selects RX12 yX12_readAll yX12_readAll, Cond.code yX12_readAll cX12_readAll 3 none, Cond.fieldLink RX12 271 "MensuralRowsModel" "reading" "I", Cond.methodLink RX12 314 yX12_countAll, Cond.instanceMethod yX12_countAll, Cond.selects RX12 yX12_countAll yX12_countAll, Cond.code yX12_countAll cX12_countAll 5 none, Cond.fieldLink RX12 190 "MensuralRowsModel" "counted" "I", Cond.methodLink RX12 256 yX12_beginScan, Cond.instanceMethod yX12_beginScan, Cond.selects RX12 yX12_beginScan yX12_beginScan, Cond.code yX12_beginScan cX12_beginScan 2 none, Cond.fieldLink RX12 187 "MensuralRowsModel" "wanted" "I", Cond.fieldLink RX12 183 "MensuralRowsModel" "isTaken" "Z", Cond.methodLink RX12 259 yX12_scanUnit, Cond.instanceMethod yX12_scanUnit, Cond.selects RX12 yX12_scanUnit yX12_scanUnit, Cond.code yX12_scanUnit cX12_scanUnit 6 none, Cond.methodLink RX12 212 yX12_isPlain, Cond.instanceMethod yX12_isPlain, Cond.selects RX12 yX12_isPlain yX12_isPlain, Cond.code yX12_isPlain cX12_isPlain 3 (some .boolean), Cond.methodLink RX12 215 yX12_offer]
def wsL_law_r32 : List Cond := [Cond.instanceMethod yX12_offer, Cond.selects RX12 yX12_offer yX12_offer, Cond.code yX12_offer cX12_offer 7 none, Cond.fieldLink RX12 193 "MensuralRowsModel" "takenForm" "I", Cond.fieldLink RX12 196 "MensuralRowsModel" "takenCut" "I", Cond.fieldLink RX12 199 "MensuralRowsModel" "takenCut2" "I", Cond.fieldLink RX12 202 "MensuralRowsModel" "takenDot" "Z", Cond.fieldLink RX12 205 "MensuralRowsModel" "takenRank" "I", Cond.methodLink RX12 208 yX12_cap, Cond.static yX12_cap, Cond.code yX12_cap cX12_cap 2 (some .int), Cond.constantLong RX12 181 (3000), Cond.methodLink RX12 219 yX12_isRest, Cond.instanceMethod yX12_isRest, Cond.selects RX12 yX12_isRest yX12_isRest, Cond.code yX12_isRest cX12_isRest 3 (some .boolean), Cond.methodLink RX12 225 yX12_waysOf, Cond.instanceMethod yX12_waysOf, Cond.selects RX12 yX12_waysOf yX12_waysOf, Cond.code yX12_waysOf cX12_waysOf 5 (some .int), Cond.methodLink RX12 178 yX12_isDot, Cond.instanceMethod yX12_isDot, Cond.selects RX12 yX12_isDot yX12_isDot, Cond.code yX12_isDot cX12_isDot 2 (some .boolean)]
def wsL_law_r33 : List Cond := [Cond.methodLink RX12 229 yX12_scanPerfect, Cond.instanceMethod yX12_scanPerfect, Cond.selects RX12 yX12_scanPerfect yX12_scanPerfect, Cond.code yX12_scanPerfect cX12_scanPerfect 8 none, Cond.methodLink RX12 233 yX12_nextKind, Cond.instanceMethod yX12_nextKind, Cond.selects RX12 yX12_nextKind yX12_nextKind, Cond.code yX12_nextKind cX12_nextKind 3 (some .int), Cond.methodLink RX12 262 yX12_scanPair, Cond.instanceMethod yX12_scanPair, Cond.selects RX12 yX12_scanPair yX12_scanPair, Cond.code yX12_scanPair cX12_scanPair 4 none, Cond.methodLink RX12 239 yX12_scanThirds, Cond.instanceMethod yX12_scanThirds, Cond.selects RX12 yX12_scanThirds yX12_scanThirds, Cond.code yX12_scanThirds cX12_scanThirds 6 none, Cond.methodLink RX12 243 yX12_thirdWays, Cond.instanceMethod yX12_thirdWays, Cond.selects RX12 yX12_thirdWays yX12_thirdWays, Cond.code yX12_thirdWays cX12_thirdWays 4 (some .int), Cond.methodLink RX12 236 yX12_isDyed, Cond.instanceMethod yX12_isDyed, Cond.selects RX12 yX12_isDyed yX12_isDyed, Cond.code yX12_isDyed cX12_isDyed 3 (some .boolean)]
def wsL_law_r34 : List Cond := [Cond.methodLink RX12 265 yX12_countItem, Cond.instanceMethod yX12_countItem, Cond.selects RX12 yX12_countItem yX12_countItem, Cond.code yX12_countItem cX12_countItem 6 (some .int), Cond.methodLink RX12 253 yX12_countGreater, Cond.instanceMethod yX12_countGreater, Cond.selects RX12 yX12_countGreater yX12_countGreater, Cond.code yX12_countGreater cX12_countGreater 5 (some .int), Cond.methodLink RX12 247 yX12_countThirds, Cond.instanceMethod yX12_countThirds, Cond.selects RX12 yX12_countThirds yX12_countThirds, Cond.code yX12_countThirds cX12_countThirds 7 (some .int), Cond.methodLink RX12 320 yX12_takeOut, Cond.instanceMethod yX12_takeOut, Cond.selects RX12 yX12_takeOut yX12_takeOut, Cond.code yX12_takeOut cX12_takeOut 6 none, Cond.fieldLink RX12 268 "MensuralRowsModel" "tasks" "I", Cond.methodLink RX12 291 yX12_last, Cond.instanceMethod yX12_last, Cond.selects RX12 yX12_last yX12_last, Cond.code yX12_last cX12_last 3 none, Cond.methodLink RX12 274 yX12_push, Cond.instanceMethod yX12_push, Cond.selects RX12 yX12_push yX12_push]
def wsL_law_r35 : List Cond := [Cond.code yX12_push cX12_push 6 none, Cond.methodLink RX12 302 yX12_doItems, Cond.instanceMethod yX12_doItems, Cond.selects RX12 yX12_doItems yX12_doItems, Cond.code yX12_doItems cX12_doItems 7 none, Cond.methodLink RX12 278 yX12_doItem, Cond.instanceMethod yX12_doItem, Cond.selects RX12 yX12_doItem yX12_doItem, Cond.code yX12_doItem cX12_doItem 8 none, Cond.methodLink RX12 281 yX12_doGreater, Cond.instanceMethod yX12_doGreater, Cond.selects RX12 yX12_doGreater yX12_doGreater, Cond.code yX12_doGreater cX12_doGreater 5 none, Cond.methodLink RX12 285 yX12_tell, Cond.instanceMethod yX12_tell, Cond.selects RX12 yX12_tell yX12_tell, Cond.code yX12_tell cX12_tell 2 none, Cond.methodLink RX12 288 yX12_full, Cond.instanceMethod yX12_full, Cond.selects RX12 yX12_full yX12_full, Cond.code yX12_full cX12_full 2 (some .int), Cond.methodLink RX12 295 yX12_doThirds, Cond.instanceMethod yX12_doThirds, Cond.selects RX12 yX12_doThirds yX12_doThirds]
def wsL_law_r36 : List Cond := [Cond.code yX12_doThirds cX12_doThirds 4 none, Cond.methodLink RX12 305 yX12_doUnit, Cond.instanceMethod yX12_doUnit, Cond.selects RX12 yX12_doUnit yX12_doUnit, Cond.code yX12_doUnit cX12_doUnit 10 none, Cond.methodLink RX12 298 yX12_pushTwo, Cond.instanceMethod yX12_pushTwo, Cond.selects RX12 yX12_pushTwo yX12_pushTwo, Cond.code yX12_pushTwo cX12_pushTwo 8 none, Cond.methodLink RX12 308 yX12_doPair, Cond.instanceMethod yX12_doPair, Cond.selects RX12 yX12_doPair yX12_doPair, Cond.code yX12_doPair cX12_doPair 5 none, Cond.methodLink RX12 311 yX12_doThird, Cond.instanceMethod yX12_doThird, Cond.selects RX12 yX12_doThird yX12_doThird, Cond.code yX12_doThird cX12_doThird 4 none, Cond.methodLink RX12 323 yX12_isBefore, Cond.instanceMethod yX12_isBefore, Cond.selects RX12 yX12_isBefore yX12_isBefore, Cond.code yX12_isBefore cX12_isBefore 5 (some .boolean), Cond.methodLink RL 60 yX11_stuck, Cond.instanceMethod yX11_stuck, Cond.selects RX11 yX11_stuck yX11_stuck]
def wsL_law_r37 : List Cond := [Cond.code yX11_stuck cX11_stuck 3 (some .int), Cond.fieldLink RX11 151 "MensuralRows$Voice" "furthest" "I", Cond.methodLink RL 63 yX12_stuck, Cond.instanceMethod yX12_stuck, Cond.selects RX12 yX12_stuck yX12_stuck, Cond.code yX12_stuck cX12_stuck 5 (some .int), Cond.methodLink RL 64 yX11_strained, Cond.instanceMethod yX11_strained, Cond.selects RX11 yX11_strained yX11_strained, Cond.code yX11_strained cX11_strained 5 (some .int), Cond.fieldLink RX11 162 "MensuralRows$Reader" "draft" "LMensuralRows$Draft;", Cond.fieldLink RX11 166 "MensuralRows$Draft" "strain" "I", Cond.methodLink RX11 154 yX11_refusalOf, Cond.instanceMethod yX11_refusalOf, Cond.selects RX11 yX11_refusalOf yX11_refusalOf, Cond.code yX11_refusalOf cX11_refusalOf 3 (some .int), Cond.methodLink RX11 158 yX5_makeAgain, Cond.instanceMethod yX5_makeAgain, Cond.selects RX5 yX5_makeAgain yX5_makeAgain, Cond.code yX5_makeAgain cX5_makeAgain 4 none, Cond.methodLink RX5 164 yX5_read, Cond.methodLink RX5 167 yX3_choiceOf, Cond.instanceMethod yX3_choiceOf, Cond.selects RX3 yX3_choiceOf yX3_choiceOf]
def wsL_law_r38 : List Cond := [Cond.code yX3_choiceOf cX3_choiceOf 5 (some .int), Cond.methodLink RL 67 yX12_strained, Cond.instanceMethod yX12_strained, Cond.selects RX12 yX12_strained yX12_strained, Cond.code yX12_strained cX12_strained 4 (some .int), Cond.methodLink RX12 332 yX12_find, Cond.instanceMethod yX12_find, Cond.selects RX12 yX12_find yX12_find, Cond.code yX12_find cX12_find 4 (some .int), Cond.methodLink RL 68 yX11_form, Cond.instanceMethod yX11_form, Cond.selects RX11 yX11_form yX11_form, Cond.code yX11_form cX11_form 6 (some .int), Cond.methodLink RX11 171 yX1_formAt, Cond.instanceMethod yX1_formAt, Cond.selects RX1 yX1_formAt yX1_formAt, Cond.code yX1_formAt cX1_formAt 2 (some .int), Cond.methodLink RL 71 yX12_form, Cond.instanceMethod yX12_form, Cond.selects RX12 yX12_form yX12_form, Cond.code yX12_form cX12_form 5 (some .int), Cond.methodLink RL 72 yX11_value, Cond.instanceMethod yX11_value, Cond.selects RX11 yX11_value yX11_value]
def wsL_law_r39 : List Cond := [Cond.code yX11_value cX11_value 6 (some .int), Cond.methodLink RX11 174 yX1_ticksAt, Cond.methodLink RL 75 yX12_value, Cond.instanceMethod yX12_value, Cond.selects RX12 yX12_value yX12_value, Cond.code yX12_value cX12_value 5 (some .int), Cond.methodLink RL 76 yX11_pick, Cond.instanceMethod yX11_pick, Cond.selects RX11 yX11_pick yX11_pick, Cond.code yX11_pick cX11_pick 6 (some .int), Cond.methodLink RX11 177 yX9_holdPicked, Cond.methodLink RL 79 yX12_pick, Cond.instanceMethod yX12_pick, Cond.selects RX12 yX12_pick yX12_pick, Cond.code yX12_pick cX12_pick 5 (some .int), Cond.methodLink RL 80 yX11_time, Cond.instanceMethod yX11_time, Cond.selects RX11 yX11_time yX11_time, Cond.code yX11_time cX11_time 6 (some .long), Cond.constantLong RX11 181 (-2), Cond.constantLong RX11 183 (-1), Cond.methodLink RX11 185 yX8_fill, Cond.instanceMethod yX8_fill, Cond.selects RX8 yX8_fill yX8_fill]
def wsL_law_r40 : List Cond := [Cond.code yX8_fill cX8_fill 3 none, Cond.fieldLink RX8 28 "MensuralRows$Voice" "row" "LMensuralRows$Row;", Cond.fieldLink RX8 34 "MensuralRows$Row" "size" "I", Cond.methodLink RX8 40 Lib.Math.min.name, Cond.methodLink RX8 46 Lib.Math.max.name, Cond.fieldLink RX8 49 "MensuralRows$Times" "size" "I", Cond.fieldLink RX8 54 "MensuralRows$Ratio" "up" "J", Cond.fieldLink RX8 58 "MensuralRows$Ratio" "down" "J", Cond.methodLink RX8 50 yX4_set, Cond.instanceMethod yX4_set, Cond.selects RX4 yX4_set yX4_set, Cond.code yX4_set cX4_set 7 none, Cond.fieldLink RX4 17 "MensuralRows$Ratio" "up" "J", Cond.methodLink RX4 13 yX4_common, Cond.methodLink RX8 61 yX9_ticksAt, Cond.instanceMethod yX9_ticksAt, Cond.selects RX9 yX9_ticksAt yX9_ticksAt, Cond.code yX9_ticksAt cX9_ticksAt 2 (some .int), Cond.methodLink RX8 65 yX6_downAt, Cond.instanceMethod yX6_downAt, Cond.selects RX6 yX6_downAt yX6_downAt, Cond.code yX6_downAt cX6_downAt 2 (some .int), Cond.methodLink RX8 68 yX6_upAt, Cond.instanceMethod yX6_upAt]
def wsL_law_r41 : List Cond := [Cond.selects RX6 yX6_upAt yX6_upAt, Cond.code yX6_upAt cX6_upAt 2 (some .int), Cond.methodLink RX8 71 yX4_add, Cond.instanceMethod yX4_add, Cond.selects RX4 yX4_add yX4_add, Cond.code yX4_add cX4_add 6 none, Cond.methodLink RX4 20 yX4_set, Cond.methodLink RX11 188 yX8_upAt, Cond.instanceMethod yX8_upAt, Cond.selects RX8 yX8_upAt yX8_upAt, Cond.code yX8_upAt cX8_upAt 2 (some .long), Cond.constantLong RX8 75 (-1), Cond.methodLink RX11 192 yX8_downAt, Cond.instanceMethod yX8_downAt, Cond.selects RX8 yX8_downAt yX8_downAt, Cond.code yX8_downAt cX8_downAt 2 (some .long), Cond.methodLink RL 84 yX12_time, Cond.instanceMethod yX12_time, Cond.selects RX12 yX12_time yX12_time, Cond.code yX12_time cX12_time 5 (some .long), Cond.constantLong RX12 346 (-2), Cond.constantLong RX12 348 (-1), Cond.fieldLink RX12 339 "MensuralRowsModel" "above" "J", Cond.fieldLink RX12 335 "MensuralRowsModel" "below" "J"]
def wsL_law_r42 : List Cond := [Cond.methodLink RX12 350 yX12_findTime, Cond.instanceMethod yX12_findTime, Cond.selects RX12 yX12_findTime yX12_findTime, Cond.code yX12_findTime cX12_findTime 5 none, Cond.methodLink RX12 342 yX12_addTime, Cond.instanceMethod yX12_addTime, Cond.selects RX12 yX12_addTime yX12_addTime, Cond.code yX12_addTime cX12_addTime 13 none, Cond.methodLink RL 85 yX11_at, Cond.instanceMethod yX11_at, Cond.selects RX11 yX11_at yX11_at, Cond.code yX11_at cX11_at 7 (some .int), Cond.methodLink RX11 195 yX8_compareAt, Cond.instanceMethod yX8_compareAt, Cond.selects RX8 yX8_compareAt yX8_compareAt, Cond.code yX8_compareAt cX8_compareAt 6 (some .int), Cond.methodLink RX8 77 yX8_upAt, Cond.methodLink RX8 80 yX8_downAt, Cond.methodLink RX8 82 yX4_compare, Cond.static yX4_compare, Cond.code yX4_compare cX4_compare 23 (some .int), Cond.methodLink RX4 24 yJ13_compare_74951, Cond.static yJ13_compare_74951, Cond.initialized RJ13]
def wsL_law_r43 : List Cond := [Cond.code yJ13_compare_74951 cJ13_compare_74951 4 (some .int), Cond.methodLink RL 88 yX12_at, Cond.instanceMethod yX12_at, Cond.selects RX12 yX12_at yX12_at, Cond.code yX12_at cX12_at 8 (some .int), Cond.methodLink RX12 353 yX12_compare, Cond.static yX12_compare, Cond.code yX12_compare cX12_compare 27 (some .int), Cond.methodLink RL 89 yX11_together, Cond.instanceMethod yX11_together, Cond.selects RX11 yX11_together yX11_together, Cond.code yX11_together cX11_together 7 (some .int), Cond.methodLink RX11 199 yX8_isEndOf, Cond.instanceMethod yX8_isEndOf, Cond.selects RX8 yX8_isEndOf yX8_isEndOf, Cond.code yX8_isEndOf cX8_isEndOf 2 (some .boolean), Cond.methodLink RL 93 yX12_together, Cond.instanceMethod yX12_together, Cond.selects RX12 yX12_together yX12_together, Cond.code yX12_together cX12_together 9 (some .int), Cond.methodLink RL 94 yX11_meet, Cond.instanceMethod yX11_meet, Cond.selects RX11 yX11_meet yX11_meet, Cond.code yX11_meet cX11_meet 11 (some .int)]
def wsL_law_r44 : List Cond := [Cond.methodLink RX11 203 yX11_beginTogether, Cond.instanceMethod yX11_beginTogether, Cond.selects RX11 yX11_beginTogether yX11_beginTogether, Cond.code yX11_beginTogether cX11_beginTogether 5 (some .boolean), Cond.methodLink RX11 207 yX11_isSweet, Cond.static yX11_isSweet, Cond.code yX11_isSweet cX11_isSweet 3 (some .boolean), Cond.methodLink RX11 245 Lib.Math.abs.name, Cond.static Lib.Math.abs.name, Cond.code Lib.Math.abs.name Lib.Math.abs.code 1 (some .int), Cond.methodLink RL 97 yX12_meet, Cond.instanceMethod yX12_meet, Cond.selects RX12 yX12_meet yX12_meet, Cond.code yX12_meet cX12_meet 12 (some .int), Cond.methodLink RL 98 yX11_canon, Cond.instanceMethod yX11_canon, Cond.selects RX11 yX11_canon yX11_canon, Cond.code yX11_canon cX11_canon 8 (some .int), Cond.constant RX11 210 (100000), Cond.fieldLink RX11 211 "MensuralRows" "followerCount" "I", Cond.methodLink RX11 214 yX2_follow, Cond.instanceMethod yX2_follow, Cond.selects RX2 yX2_follow yX2_follow, Cond.code yX2_follow cX2_follow 13 none]
def wsL_law_r45 : List Cond := [Cond.fieldLink RX2 42 "MensuralRows$Voice" "row" "LMensuralRows$Row;", Cond.fieldLink RX2 48 "MensuralRows$Row" "size" "I", Cond.methodLink RX2 38 yX4_set, Cond.methodLink RX2 54 yX6_sortAt, Cond.methodLink RX2 58 yX6_pitchAt, Cond.methodLink RX2 61 yX9_ticksAt, Cond.methodLink RX2 64 yX6_downAt, Cond.methodLink RX2 67 yX6_upAt, Cond.methodLink RX2 70 yX2_append, Cond.instanceMethod yX2_append, Cond.selects RX2 yX2_append yX2_append, Cond.code yX2_append cX2_append 2 none, Cond.fieldLink RX2 78 "MensuralRows$Follower" "size" "I", Cond.fieldLink RX2 79 "MensuralRows$Ratio" "up" "J", Cond.fieldLink RX2 83 "MensuralRows$Ratio" "down" "J", Cond.methodLink RX2 74 yX4_add, Cond.methodLink RL 102 yX12_canon, Cond.instanceMethod yX12_canon, Cond.selects RX12 yX12_canon yX12_canon, Cond.code yX12_canon cX12_canon 20 (some .int), Cond.constantLong RX12 357 (7), Cond.constantLong RX12 359 (100000), Cond.fieldLink RX12 361 "MensuralRowsModel" "followers" "I", Cond.constantLong RX12 364 (1000)]
def wsL_law_r46 : List Cond := [Cond.methodLink RL 103 yX11_follower, Cond.instanceMethod yX11_follower, Cond.selects RX11 yX11_follower yX11_follower, Cond.code yX11_follower cX11_follower 5 (some .long), Cond.methodLink RX11 218 yX2_tell, Cond.instanceMethod yX2_tell, Cond.selects RX2 yX2_tell yX2_tell, Cond.code yX2_tell cX2_tell 3 (some .long), Cond.constantLong RX2 86 (-1), Cond.constantLong RX2 88 (-2), Cond.methodLink RL 106 yX12_follower, Cond.instanceMethod yX12_follower, Cond.selects RX12 yX12_follower yX12_follower, Cond.code yX12_follower cX12_follower 4 (some .long), Cond.constantLong RX12 366 (4), Cond.methodLink RL 107 yX11_write, Cond.instanceMethod yX11_write, Cond.selects RX11 yX11_write yX11_write, Cond.code yX11_write cX11_write 7 (some .int), Cond.fieldLink RX11 229 "MensuralRows$Writer" "draft" "LMensuralRows$Voice;", Cond.methodLink RX11 222 yX10_begin, Cond.instanceMethod yX10_begin, Cond.selects RX10 yX10_begin yX10_begin, Cond.code yX10_begin cX10_begin 8 none]
def wsL_law_r47 : List Cond := [Cond.methodLink RX10 38 Lib.Math.min.name, Cond.methodLink RX10 44 Lib.Math.max.name, Cond.fieldLink RX10 47 "MensuralRows$Writer" "notes" "I", Cond.fieldLink RX10 51 "MensuralRows$Writer" "rows" "I", Cond.fieldLink RX10 54 "MensuralRows$Writer" "turn" "I", Cond.methodLink RX10 34 yX9_setSign, Cond.methodLink RX10 57 yX10_canBe, Cond.instanceMethod yX10_canBe, Cond.selects RX10 yX10_canBe yX10_canBe, Cond.code yX10_canBe cX10_canBe 7 (some .boolean), Cond.methodLink RX10 61 yX9_fullOf, Cond.methodLink RX10 65 yX9_isPerfect, Cond.methodLink RX11 226 yX10_advance, Cond.instanceMethod yX10_advance, Cond.selects RX10 yX10_advance yX10_advance, Cond.code yX10_advance cX10_advance 4 (some .boolean), Cond.methodLink RX10 69 yX10_chooseRow, Cond.instanceMethod yX10_chooseRow, Cond.selects RX10 yX10_chooseRow yX10_chooseRow, Cond.code yX10_chooseRow cX10_chooseRow 5 (some .int), Cond.methodLink RX10 72 yX10_putDown, Cond.instanceMethod yX10_putDown, Cond.selects RX10 yX10_putDown yX10_putDown, Cond.code yX10_putDown cX10_putDown 2 none]
def wsL_law_r48 : List Cond := [Cond.fieldLink RX10 75 "MensuralRows$Voice" "row" "LMensuralRows$Row;", Cond.fieldLink RX10 79 "MensuralRows$Row" "size" "I", Cond.fieldLink RX10 84 "MensuralRows$Voice" "stale" "Z", Cond.methodLink RX10 88 yX6_add, Cond.methodLink RX11 232 yX10_isAsWanted, Cond.instanceMethod yX10_isAsWanted, Cond.selects RX10 yX10_isAsWanted yX10_isAsWanted, Cond.code yX10_isAsWanted cX10_isAsWanted 3 (some .boolean), Cond.fieldLink RX10 96 "MensuralRows$Voice" "total" "I", Cond.methodLink RX10 92 yX9_isMany, Cond.methodLink RX10 99 yX6_sortAt, Cond.methodLink RX10 102 yX9_ticksAt, Cond.methodLink RX11 235 yX10_keep, Cond.instanceMethod yX10_keep, Cond.selects RX10 yX10_keep yX10_keep, Cond.code yX10_keep cX10_keep 2 (some .int), Cond.fieldLink RX10 105 "MensuralRows$Writer" "keptSize" "I", Cond.methodLink RX10 108 yX6_kindAt, Cond.methodLink RL 111 yX12_write, Cond.instanceMethod yX12_write, Cond.selects RX12 yX12_write yX12_write, Cond.code yX12_write cX12_write 10 (some .int), Cond.fieldLink RX12 375 "MensuralRowsModel" "writtenMany" "I", Cond.methodLink RX12 368 yX12_lay]
def wsL_law_r49 : List Cond := [Cond.instanceMethod yX12_lay, Cond.selects RX12 yX12_lay yX12_lay, Cond.code yX12_lay cX12_lay 8 (some .int), Cond.methodLink RX12 371 yX12_isWanted, Cond.instanceMethod yX12_isWanted, Cond.selects RX12 yX12_isWanted yX12_isWanted, Cond.code yX12_isWanted cX12_isWanted 5 (some .boolean), Cond.methodLink RL 112 yX11_written, Cond.instanceMethod yX11_written, Cond.selects RX11 yX11_written yX11_written, Cond.code yX11_written cX11_written 2 (some .int), Cond.methodLink RX11 239 yX10_keptAt, Cond.instanceMethod yX10_keptAt, Cond.selects RX10 yX10_keptAt yX10_keptAt, Cond.code yX10_keptAt cX10_keptAt 2 (some .int), Cond.methodLink RL 115 yX12_written, Cond.instanceMethod yX12_written, Cond.selects RX12 yX12_written yX12_written, Cond.code yX12_written cX12_written 2 (some .int), Cond.methodLink RL 116 yX11_count, Cond.instanceMethod yX11_count, Cond.selects RX11 yX11_count yX11_count, Cond.code yX11_count cX11_count 2 (some .int), Cond.methodLink RX11 242 yX11_symbolsOfAll]
def wsL_law_r50 : List Cond := [Cond.instanceMethod yX11_symbolsOfAll, Cond.selects RX11 yX11_symbolsOfAll yX11_symbolsOfAll, Cond.code yX11_symbolsOfAll cX11_symbolsOfAll 4 (some .int), Cond.methodLink RL 119 yX12_count, Cond.instanceMethod yX12_count, Cond.selects RX12 yX12_count yX12_count, Cond.code yX12_count cX12_count 4 (some .int)]
def wsL_law : List Cond := (wsL_law_r1 ++ (wsL_law_r2 ++ (wsL_law_r3 ++ (wsL_law_r4 ++ (wsL_law_r5 ++ (wsL_law_r6 ++ (wsL_law_r7 ++ (wsL_law_r8 ++ (wsL_law_r9 ++ (wsL_law_r10 ++ (wsL_law_r11 ++ (wsL_law_r12 ++ (wsL_law_r13 ++ (wsL_law_r14 ++ (wsL_law_r15 ++ (wsL_law_r16 ++ (wsL_law_r17 ++ (wsL_law_r18 ++ (wsL_law_r19 ++ (wsL_law_r20 ++ (wsL_law_r21 ++ (wsL_law_r22 ++ (wsL_law_r23 ++ (wsL_law_r24 ++ (wsL_law_r25 ++ (wsL_law_r26 ++ (wsL_law_r27 ++ (wsL_law_r28 ++ (wsL_law_r29 ++ (wsL_law_r30 ++ (wsL_law_r31 ++ (wsL_law_r32 ++ (wsL_law_r33 ++ (wsL_law_r34 ++ (wsL_law_r35 ++ (wsL_law_r36 ++ (wsL_law_r37 ++ (wsL_law_r38 ++ (wsL_law_r39 ++ (wsL_law_r40 ++ (wsL_law_r41 ++ (wsL_law_r42 ++ (wsL_law_r43 ++ (wsL_law_r44 ++ (wsL_law_r45 ++ (wsL_law_r46 ++ (wsL_law_r47 ++ (wsL_law_r48 ++ (wsL_law_r49 ++ wsL_law_r50))))))))))))))))))))))))))))))))))))))))))))))))) ++ wsX110 ++ wsX120 ++ wsX50 ++ wsX100 ++ wsX80 ++ wsX90 ++ wsX20 ++ wsX00 ++ wsX30 ++ wsX10 ++ wsX70 ++ wsX60 ++ wsX40 ++ ([] : List Cond)
theorem inlX0 : ∀ w ∈ wsX00, w ∈ wsL_law := fun _ h => List.mem_append_left _ (List.mem_append_left _ (List.mem_append_left _ (List.mem_append_left _ (List.mem_append_left _ (List.mem_append_left _ (List.mem_append_right _ h))))))
theorem inlX1 : ∀ w ∈ wsX10, w ∈ wsL_law := fun _ h => List.mem_append_left _ (List.mem_append_left _ (List.mem_append_left _ (List.mem_append_left _ (List.mem_append_right _ h))))
theorem inlX2 : ∀ w ∈ wsX20, w ∈ wsL_law := fun _ h => List.mem_append_left _ (List.mem_append_left _ (List.mem_append_left _ (List.mem_append_left _ (List.mem_append_left _ (List.mem_append_left _ (List.mem_append_left _ (List.mem_append_right _ h)))))))
theorem inlX3 : ∀ w ∈ wsX30, w ∈ wsL_law := fun _ h => List.mem_append_left _ (List.mem_append_left _ (List.mem_append_left _ (List.mem_append_left _ (List.mem_append_left _ (List.mem_append_right _ h)))))
theorem inlX4 : ∀ w ∈ wsX40, w ∈ wsL_law := fun _ h => List.mem_append_left _ (List.mem_append_right _ h)
theorem inlX5 : ∀ w ∈ wsX50, w ∈ wsL_law := fun _ h => List.mem_append_left _ (List.mem_append_left _ (List.mem_append_left _ (List.mem_append_left _ (List.mem_append_left _ (List.mem_append_left _ (List.mem_append_left _ (List.mem_append_left _ (List.mem_append_left _ (List.mem_append_left _ (List.mem_append_left _ (List.mem_append_right _ h)))))))))))
theorem inlX6 : ∀ w ∈ wsX60, w ∈ wsL_law := fun _ h => List.mem_append_left _ (List.mem_append_left _ (List.mem_append_right _ h))
theorem inlX7 : ∀ w ∈ wsX70, w ∈ wsL_law := fun _ h => List.mem_append_left _ (List.mem_append_left _ (List.mem_append_left _ (List.mem_append_right _ h)))
theorem inlX8 : ∀ w ∈ wsX80, w ∈ wsL_law := fun _ h => List.mem_append_left _ (List.mem_append_left _ (List.mem_append_left _ (List.mem_append_left _ (List.mem_append_left _ (List.mem_append_left _ (List.mem_append_left _ (List.mem_append_left _ (List.mem_append_left _ (List.mem_append_right _ h)))))))))
theorem inlX9 : ∀ w ∈ wsX90, w ∈ wsL_law := fun _ h => List.mem_append_left _ (List.mem_append_left _ (List.mem_append_left _ (List.mem_append_left _ (List.mem_append_left _ (List.mem_append_left _ (List.mem_append_left _ (List.mem_append_left _ (List.mem_append_right _ h))))))))
theorem inlX10 : ∀ w ∈ wsX100, w ∈ wsL_law := fun _ h => List.mem_append_left _ (List.mem_append_left _ (List.mem_append_left _ (List.mem_append_left _ (List.mem_append_left _ (List.mem_append_left _ (List.mem_append_left _ (List.mem_append_left _ (List.mem_append_left _ (List.mem_append_left _ (List.mem_append_right _ h))))))))))
theorem inlX11 : ∀ w ∈ wsX110, w ∈ wsL_law := fun _ h => List.mem_append_left _ (List.mem_append_left _ (List.mem_append_left _ (List.mem_append_left _ (List.mem_append_left _ (List.mem_append_left _ (List.mem_append_left _ (List.mem_append_left _ (List.mem_append_left _ (List.mem_append_left _ (List.mem_append_left _ (List.mem_append_left _ (List.mem_append_left _ (List.mem_append_right _ h)))))))))))))
theorem inlX12 : ∀ w ∈ wsX120, w ∈ wsL_law := fun _ h => List.mem_append_left _ (List.mem_append_left _ (List.mem_append_left _ (List.mem_append_left _ (List.mem_append_left _ (List.mem_append_left _ (List.mem_append_left _ (List.mem_append_left _ (List.mem_append_left _ (List.mem_append_left _ (List.mem_append_left _ (List.mem_append_left _ (List.mem_append_right _ h))))))))))))
abbrev vwCl : List vw_C := [(RX0, TX0, 7), (RX1, TX1, 6), (RX2, TX2, 8), (RX3, TX3, 5), (RX4, TX4, 2), (RX5, TX5, 13), (RX6, TX6, 9), (RX7, TX7, 13), (RX8, TX8, 5), (RX9, TX9, 9), (RX10, TX10, 10), (RX11, TX11, 8), (RX12, TX12, 54)]
theorem in_wsL_law_r1 : ∀ w ∈ wsL_law_r1, w ∈ wsL_law := fun _ h => List.mem_append_left _ (List.mem_append_left _ (List.mem_append_left _ (List.mem_append_left _ (List.mem_append_left _ (List.mem_append_left _ (List.mem_append_left _ (List.mem_append_left _ (List.mem_append_left _ (List.mem_append_left _ (List.mem_append_left _ (List.mem_append_left _ (List.mem_append_left _ (List.mem_append_left _ (List.mem_append_left _ h))))))))))))))
theorem in_wsL_law_r2 : ∀ w ∈ wsL_law_r2, w ∈ wsL_law := fun _ h => List.mem_append_left _ (List.mem_append_left _ (List.mem_append_left _ (List.mem_append_left _ (List.mem_append_left _ (List.mem_append_left _ (List.mem_append_left _ (List.mem_append_left _ (List.mem_append_left _ (List.mem_append_left _ (List.mem_append_left _ (List.mem_append_left _ (List.mem_append_left _ (List.mem_append_left _ (List.mem_append_right _ (List.mem_append_left _ h)))))))))))))))
theorem in_wsL_law_r3 : ∀ w ∈ wsL_law_r3, w ∈ wsL_law := fun _ h => List.mem_append_left _ (List.mem_append_left _ (List.mem_append_left _ (List.mem_append_left _ (List.mem_append_left _ (List.mem_append_left _ (List.mem_append_left _ (List.mem_append_left _ (List.mem_append_left _ (List.mem_append_left _ (List.mem_append_left _ (List.mem_append_left _ (List.mem_append_left _ (List.mem_append_left _ (List.mem_append_right _ (List.mem_append_right _ (List.mem_append_left _ h))))))))))))))))
theorem in_wsL_law_r4 : ∀ w ∈ wsL_law_r4, w ∈ wsL_law := fun _ h => List.mem_append_left _ (List.mem_append_left _ (List.mem_append_left _ (List.mem_append_left _ (List.mem_append_left _ (List.mem_append_left _ (List.mem_append_left _ (List.mem_append_left _ (List.mem_append_left _ (List.mem_append_left _ (List.mem_append_left _ (List.mem_append_left _ (List.mem_append_left _ (List.mem_append_left _ (List.mem_append_right _ (List.mem_append_right _ (List.mem_append_right _ (List.mem_append_left _ h)))))))))))))))))
theorem in_wsL_law_r5 : ∀ w ∈ wsL_law_r5, w ∈ wsL_law := fun _ h => List.mem_append_left _ (List.mem_append_left _ (List.mem_append_left _ (List.mem_append_left _ (List.mem_append_left _ (List.mem_append_left _ (List.mem_append_left _ (List.mem_append_left _ (List.mem_append_left _ (List.mem_append_left _ (List.mem_append_left _ (List.mem_append_left _ (List.mem_append_left _ (List.mem_append_left _ (List.mem_append_right _ (List.mem_append_right _ (List.mem_append_right _ (List.mem_append_right _ (List.mem_append_left _ h))))))))))))))))))
theorem in_wsL_law_r6 : ∀ w ∈ wsL_law_r6, w ∈ wsL_law := fun _ h => List.mem_append_left _ (List.mem_append_left _ (List.mem_append_left _ (List.mem_append_left _ (List.mem_append_left _ (List.mem_append_left _ (List.mem_append_left _ (List.mem_append_left _ (List.mem_append_left _ (List.mem_append_left _ (List.mem_append_left _ (List.mem_append_left _ (List.mem_append_left _ (List.mem_append_left _ (List.mem_append_right _ (List.mem_append_right _ (List.mem_append_right _ (List.mem_append_right _ (List.mem_append_right _ (List.mem_append_left _ h)))))))))))))))))))
theorem in_wsL_law_r7 : ∀ w ∈ wsL_law_r7, w ∈ wsL_law := fun _ h => List.mem_append_left _ (List.mem_append_left _ (List.mem_append_left _ (List.mem_append_left _ (List.mem_append_left _ (List.mem_append_left _ (List.mem_append_left _ (List.mem_append_left _ (List.mem_append_left _ (List.mem_append_left _ (List.mem_append_left _ (List.mem_append_left _ (List.mem_append_left _ (List.mem_append_left _ (List.mem_append_right _ (List.mem_append_right _ (List.mem_append_right _ (List.mem_append_right _ (List.mem_append_right _ (List.mem_append_right _ (List.mem_append_left _ h))))))))))))))))))))
theorem in_wsL_law_r8 : ∀ w ∈ wsL_law_r8, w ∈ wsL_law := fun _ h => List.mem_append_left _ (List.mem_append_left _ (List.mem_append_left _ (List.mem_append_left _ (List.mem_append_left _ (List.mem_append_left _ (List.mem_append_left _ (List.mem_append_left _ (List.mem_append_left _ (List.mem_append_left _ (List.mem_append_left _ (List.mem_append_left _ (List.mem_append_left _ (List.mem_append_left _ (List.mem_append_right _ (List.mem_append_right _ (List.mem_append_right _ (List.mem_append_right _ (List.mem_append_right _ (List.mem_append_right _ (List.mem_append_right _ (List.mem_append_left _ h)))))))))))))))))))))
theorem in_wsL_law_r9 : ∀ w ∈ wsL_law_r9, w ∈ wsL_law := fun _ h => List.mem_append_left _ (List.mem_append_left _ (List.mem_append_left _ (List.mem_append_left _ (List.mem_append_left _ (List.mem_append_left _ (List.mem_append_left _ (List.mem_append_left _ (List.mem_append_left _ (List.mem_append_left _ (List.mem_append_left _ (List.mem_append_left _ (List.mem_append_left _ (List.mem_append_left _ (List.mem_append_right _ (List.mem_append_right _ (List.mem_append_right _ (List.mem_append_right _ (List.mem_append_right _ (List.mem_append_right _ (List.mem_append_right _ (List.mem_append_right _ (List.mem_append_left _ h))))))))))))))))))))))
theorem in_wsL_law_r10 : ∀ w ∈ wsL_law_r10, w ∈ wsL_law := fun _ h => List.mem_append_left _ (List.mem_append_left _ (List.mem_append_left _ (List.mem_append_left _ (List.mem_append_left _ (List.mem_append_left _ (List.mem_append_left _ (List.mem_append_left _ (List.mem_append_left _ (List.mem_append_left _ (List.mem_append_left _ (List.mem_append_left _ (List.mem_append_left _ (List.mem_append_left _ (List.mem_append_right _ (List.mem_append_right _ (List.mem_append_right _ (List.mem_append_right _ (List.mem_append_right _ (List.mem_append_right _ (List.mem_append_right _ (List.mem_append_right _ (List.mem_append_right _ (List.mem_append_left _ h)))))))))))))))))))))))
theorem in_wsL_law_r11 : ∀ w ∈ wsL_law_r11, w ∈ wsL_law := fun _ h => List.mem_append_left _ (List.mem_append_left _ (List.mem_append_left _ (List.mem_append_left _ (List.mem_append_left _ (List.mem_append_left _ (List.mem_append_left _ (List.mem_append_left _ (List.mem_append_left _ (List.mem_append_left _ (List.mem_append_left _ (List.mem_append_left _ (List.mem_append_left _ (List.mem_append_left _ (List.mem_append_right _ (List.mem_append_right _ (List.mem_append_right _ (List.mem_append_right _ (List.mem_append_right _ (List.mem_append_right _ (List.mem_append_right _ (List.mem_append_right _ (List.mem_append_right _ (List.mem_append_right _ (List.mem_append_left _ h))))))))))))))))))))))))
theorem in_wsL_law_r12 : ∀ w ∈ wsL_law_r12, w ∈ wsL_law := fun _ h => List.mem_append_left _ (List.mem_append_left _ (List.mem_append_left _ (List.mem_append_left _ (List.mem_append_left _ (List.mem_append_left _ (List.mem_append_left _ (List.mem_append_left _ (List.mem_append_left _ (List.mem_append_left _ (List.mem_append_left _ (List.mem_append_left _ (List.mem_append_left _ (List.mem_append_left _ (List.mem_append_right _ (List.mem_append_right _ (List.mem_append_right _ (List.mem_append_right _ (List.mem_append_right _ (List.mem_append_right _ (List.mem_append_right _ (List.mem_append_right _ (List.mem_append_right _ (List.mem_append_right _ (List.mem_append_right _ (List.mem_append_left _ h)))))))))))))))))))))))))
theorem in_wsL_law_r13 : ∀ w ∈ wsL_law_r13, w ∈ wsL_law := fun _ h => List.mem_append_left _ (List.mem_append_left _ (List.mem_append_left _ (List.mem_append_left _ (List.mem_append_left _ (List.mem_append_left _ (List.mem_append_left _ (List.mem_append_left _ (List.mem_append_left _ (List.mem_append_left _ (List.mem_append_left _ (List.mem_append_left _ (List.mem_append_left _ (List.mem_append_left _ (List.mem_append_right _ (List.mem_append_right _ (List.mem_append_right _ (List.mem_append_right _ (List.mem_append_right _ (List.mem_append_right _ (List.mem_append_right _ (List.mem_append_right _ (List.mem_append_right _ (List.mem_append_right _ (List.mem_append_right _ (List.mem_append_right _ (List.mem_append_left _ h))))))))))))))))))))))))))
theorem in_wsL_law_r14 : ∀ w ∈ wsL_law_r14, w ∈ wsL_law := fun _ h => List.mem_append_left _ (List.mem_append_left _ (List.mem_append_left _ (List.mem_append_left _ (List.mem_append_left _ (List.mem_append_left _ (List.mem_append_left _ (List.mem_append_left _ (List.mem_append_left _ (List.mem_append_left _ (List.mem_append_left _ (List.mem_append_left _ (List.mem_append_left _ (List.mem_append_left _ (List.mem_append_right _ (List.mem_append_right _ (List.mem_append_right _ (List.mem_append_right _ (List.mem_append_right _ (List.mem_append_right _ (List.mem_append_right _ (List.mem_append_right _ (List.mem_append_right _ (List.mem_append_right _ (List.mem_append_right _ (List.mem_append_right _ (List.mem_append_right _ (List.mem_append_left _ h)))))))))))))))))))))))))))
theorem in_wsL_law_r15 : ∀ w ∈ wsL_law_r15, w ∈ wsL_law := fun _ h => List.mem_append_left _ (List.mem_append_left _ (List.mem_append_left _ (List.mem_append_left _ (List.mem_append_left _ (List.mem_append_left _ (List.mem_append_left _ (List.mem_append_left _ (List.mem_append_left _ (List.mem_append_left _ (List.mem_append_left _ (List.mem_append_left _ (List.mem_append_left _ (List.mem_append_left _ (List.mem_append_right _ (List.mem_append_right _ (List.mem_append_right _ (List.mem_append_right _ (List.mem_append_right _ (List.mem_append_right _ (List.mem_append_right _ (List.mem_append_right _ (List.mem_append_right _ (List.mem_append_right _ (List.mem_append_right _ (List.mem_append_right _ (List.mem_append_right _ (List.mem_append_right _ (List.mem_append_left _ h))))))))))))))))))))))))))))
theorem in_wsL_law_r16 : ∀ w ∈ wsL_law_r16, w ∈ wsL_law := fun _ h => List.mem_append_left _ (List.mem_append_left _ (List.mem_append_left _ (List.mem_append_left _ (List.mem_append_left _ (List.mem_append_left _ (List.mem_append_left _ (List.mem_append_left _ (List.mem_append_left _ (List.mem_append_left _ (List.mem_append_left _ (List.mem_append_left _ (List.mem_append_left _ (List.mem_append_left _ (List.mem_append_right _ (List.mem_append_right _ (List.mem_append_right _ (List.mem_append_right _ (List.mem_append_right _ (List.mem_append_right _ (List.mem_append_right _ (List.mem_append_right _ (List.mem_append_right _ (List.mem_append_right _ (List.mem_append_right _ (List.mem_append_right _ (List.mem_append_right _ (List.mem_append_right _ (List.mem_append_right _ (List.mem_append_left _ h)))))))))))))))))))))))))))))
theorem in_wsL_law_r17 : ∀ w ∈ wsL_law_r17, w ∈ wsL_law := fun _ h => List.mem_append_left _ (List.mem_append_left _ (List.mem_append_left _ (List.mem_append_left _ (List.mem_append_left _ (List.mem_append_left _ (List.mem_append_left _ (List.mem_append_left _ (List.mem_append_left _ (List.mem_append_left _ (List.mem_append_left _ (List.mem_append_left _ (List.mem_append_left _ (List.mem_append_left _ (List.mem_append_right _ (List.mem_append_right _ (List.mem_append_right _ (List.mem_append_right _ (List.mem_append_right _ (List.mem_append_right _ (List.mem_append_right _ (List.mem_append_right _ (List.mem_append_right _ (List.mem_append_right _ (List.mem_append_right _ (List.mem_append_right _ (List.mem_append_right _ (List.mem_append_right _ (List.mem_append_right _ (List.mem_append_right _ (List.mem_append_left _ h))))))))))))))))))))))))))))))
theorem in_wsL_law_r18 : ∀ w ∈ wsL_law_r18, w ∈ wsL_law := fun _ h => List.mem_append_left _ (List.mem_append_left _ (List.mem_append_left _ (List.mem_append_left _ (List.mem_append_left _ (List.mem_append_left _ (List.mem_append_left _ (List.mem_append_left _ (List.mem_append_left _ (List.mem_append_left _ (List.mem_append_left _ (List.mem_append_left _ (List.mem_append_left _ (List.mem_append_left _ (List.mem_append_right _ (List.mem_append_right _ (List.mem_append_right _ (List.mem_append_right _ (List.mem_append_right _ (List.mem_append_right _ (List.mem_append_right _ (List.mem_append_right _ (List.mem_append_right _ (List.mem_append_right _ (List.mem_append_right _ (List.mem_append_right _ (List.mem_append_right _ (List.mem_append_right _ (List.mem_append_right _ (List.mem_append_right _ (List.mem_append_right _ (List.mem_append_left _ h)))))))))))))))))))))))))))))))
theorem in_wsL_law_r19 : ∀ w ∈ wsL_law_r19, w ∈ wsL_law := fun _ h => List.mem_append_left _ (List.mem_append_left _ (List.mem_append_left _ (List.mem_append_left _ (List.mem_append_left _ (List.mem_append_left _ (List.mem_append_left _ (List.mem_append_left _ (List.mem_append_left _ (List.mem_append_left _ (List.mem_append_left _ (List.mem_append_left _ (List.mem_append_left _ (List.mem_append_left _ (List.mem_append_right _ (List.mem_append_right _ (List.mem_append_right _ (List.mem_append_right _ (List.mem_append_right _ (List.mem_append_right _ (List.mem_append_right _ (List.mem_append_right _ (List.mem_append_right _ (List.mem_append_right _ (List.mem_append_right _ (List.mem_append_right _ (List.mem_append_right _ (List.mem_append_right _ (List.mem_append_right _ (List.mem_append_right _ (List.mem_append_right _ (List.mem_append_right _ (List.mem_append_left _ h))))))))))))))))))))))))))))))))
theorem in_wsL_law_r20 : ∀ w ∈ wsL_law_r20, w ∈ wsL_law := fun _ h => List.mem_append_left _ (List.mem_append_left _ (List.mem_append_left _ (List.mem_append_left _ (List.mem_append_left _ (List.mem_append_left _ (List.mem_append_left _ (List.mem_append_left _ (List.mem_append_left _ (List.mem_append_left _ (List.mem_append_left _ (List.mem_append_left _ (List.mem_append_left _ (List.mem_append_left _ (List.mem_append_right _ (List.mem_append_right _ (List.mem_append_right _ (List.mem_append_right _ (List.mem_append_right _ (List.mem_append_right _ (List.mem_append_right _ (List.mem_append_right _ (List.mem_append_right _ (List.mem_append_right _ (List.mem_append_right _ (List.mem_append_right _ (List.mem_append_right _ (List.mem_append_right _ (List.mem_append_right _ (List.mem_append_right _ (List.mem_append_right _ (List.mem_append_right _ (List.mem_append_right _ (List.mem_append_left _ h)))))))))))))))))))))))))))))))))
theorem in_wsL_law_r21 : ∀ w ∈ wsL_law_r21, w ∈ wsL_law := fun _ h => List.mem_append_left _ (List.mem_append_left _ (List.mem_append_left _ (List.mem_append_left _ (List.mem_append_left _ (List.mem_append_left _ (List.mem_append_left _ (List.mem_append_left _ (List.mem_append_left _ (List.mem_append_left _ (List.mem_append_left _ (List.mem_append_left _ (List.mem_append_left _ (List.mem_append_left _ (List.mem_append_right _ (List.mem_append_right _ (List.mem_append_right _ (List.mem_append_right _ (List.mem_append_right _ (List.mem_append_right _ (List.mem_append_right _ (List.mem_append_right _ (List.mem_append_right _ (List.mem_append_right _ (List.mem_append_right _ (List.mem_append_right _ (List.mem_append_right _ (List.mem_append_right _ (List.mem_append_right _ (List.mem_append_right _ (List.mem_append_right _ (List.mem_append_right _ (List.mem_append_right _ (List.mem_append_right _ (List.mem_append_left _ h))))))))))))))))))))))))))))))))))
theorem in_wsL_law_r22 : ∀ w ∈ wsL_law_r22, w ∈ wsL_law := fun _ h => List.mem_append_left _ (List.mem_append_left _ (List.mem_append_left _ (List.mem_append_left _ (List.mem_append_left _ (List.mem_append_left _ (List.mem_append_left _ (List.mem_append_left _ (List.mem_append_left _ (List.mem_append_left _ (List.mem_append_left _ (List.mem_append_left _ (List.mem_append_left _ (List.mem_append_left _ (List.mem_append_right _ (List.mem_append_right _ (List.mem_append_right _ (List.mem_append_right _ (List.mem_append_right _ (List.mem_append_right _ (List.mem_append_right _ (List.mem_append_right _ (List.mem_append_right _ (List.mem_append_right _ (List.mem_append_right _ (List.mem_append_right _ (List.mem_append_right _ (List.mem_append_right _ (List.mem_append_right _ (List.mem_append_right _ (List.mem_append_right _ (List.mem_append_right _ (List.mem_append_right _ (List.mem_append_right _ (List.mem_append_right _ (List.mem_append_left _ h)))))))))))))))))))))))))))))))))))
theorem in_wsL_law_r23 : ∀ w ∈ wsL_law_r23, w ∈ wsL_law := fun _ h => List.mem_append_left _ (List.mem_append_left _ (List.mem_append_left _ (List.mem_append_left _ (List.mem_append_left _ (List.mem_append_left _ (List.mem_append_left _ (List.mem_append_left _ (List.mem_append_left _ (List.mem_append_left _ (List.mem_append_left _ (List.mem_append_left _ (List.mem_append_left _ (List.mem_append_left _ (List.mem_append_right _ (List.mem_append_right _ (List.mem_append_right _ (List.mem_append_right _ (List.mem_append_right _ (List.mem_append_right _ (List.mem_append_right _ (List.mem_append_right _ (List.mem_append_right _ (List.mem_append_right _ (List.mem_append_right _ (List.mem_append_right _ (List.mem_append_right _ (List.mem_append_right _ (List.mem_append_right _ (List.mem_append_right _ (List.mem_append_right _ (List.mem_append_right _ (List.mem_append_right _ (List.mem_append_right _ (List.mem_append_right _ (List.mem_append_right _ (List.mem_append_left _ h))))))))))))))))))))))))))))))))))))
theorem in_wsL_law_r24 : ∀ w ∈ wsL_law_r24, w ∈ wsL_law := fun _ h => List.mem_append_left _ (List.mem_append_left _ (List.mem_append_left _ (List.mem_append_left _ (List.mem_append_left _ (List.mem_append_left _ (List.mem_append_left _ (List.mem_append_left _ (List.mem_append_left _ (List.mem_append_left _ (List.mem_append_left _ (List.mem_append_left _ (List.mem_append_left _ (List.mem_append_left _ (List.mem_append_right _ (List.mem_append_right _ (List.mem_append_right _ (List.mem_append_right _ (List.mem_append_right _ (List.mem_append_right _ (List.mem_append_right _ (List.mem_append_right _ (List.mem_append_right _ (List.mem_append_right _ (List.mem_append_right _ (List.mem_append_right _ (List.mem_append_right _ (List.mem_append_right _ (List.mem_append_right _ (List.mem_append_right _ (List.mem_append_right _ (List.mem_append_right _ (List.mem_append_right _ (List.mem_append_right _ (List.mem_append_right _ (List.mem_append_right _ (List.mem_append_right _ (List.mem_append_left _ h)))))))))))))))))))))))))))))))))))))
theorem in_wsL_law_r25 : ∀ w ∈ wsL_law_r25, w ∈ wsL_law := fun _ h => List.mem_append_left _ (List.mem_append_left _ (List.mem_append_left _ (List.mem_append_left _ (List.mem_append_left _ (List.mem_append_left _ (List.mem_append_left _ (List.mem_append_left _ (List.mem_append_left _ (List.mem_append_left _ (List.mem_append_left _ (List.mem_append_left _ (List.mem_append_left _ (List.mem_append_left _ (List.mem_append_right _ (List.mem_append_right _ (List.mem_append_right _ (List.mem_append_right _ (List.mem_append_right _ (List.mem_append_right _ (List.mem_append_right _ (List.mem_append_right _ (List.mem_append_right _ (List.mem_append_right _ (List.mem_append_right _ (List.mem_append_right _ (List.mem_append_right _ (List.mem_append_right _ (List.mem_append_right _ (List.mem_append_right _ (List.mem_append_right _ (List.mem_append_right _ (List.mem_append_right _ (List.mem_append_right _ (List.mem_append_right _ (List.mem_append_right _ (List.mem_append_right _ (List.mem_append_right _ (List.mem_append_left _ h))))))))))))))))))))))))))))))))))))))
theorem in_wsL_law_r26 : ∀ w ∈ wsL_law_r26, w ∈ wsL_law := fun _ h => List.mem_append_left _ (List.mem_append_left _ (List.mem_append_left _ (List.mem_append_left _ (List.mem_append_left _ (List.mem_append_left _ (List.mem_append_left _ (List.mem_append_left _ (List.mem_append_left _ (List.mem_append_left _ (List.mem_append_left _ (List.mem_append_left _ (List.mem_append_left _ (List.mem_append_left _ (List.mem_append_right _ (List.mem_append_right _ (List.mem_append_right _ (List.mem_append_right _ (List.mem_append_right _ (List.mem_append_right _ (List.mem_append_right _ (List.mem_append_right _ (List.mem_append_right _ (List.mem_append_right _ (List.mem_append_right _ (List.mem_append_right _ (List.mem_append_right _ (List.mem_append_right _ (List.mem_append_right _ (List.mem_append_right _ (List.mem_append_right _ (List.mem_append_right _ (List.mem_append_right _ (List.mem_append_right _ (List.mem_append_right _ (List.mem_append_right _ (List.mem_append_right _ (List.mem_append_right _ (List.mem_append_right _ (List.mem_append_left _ h)))))))))))))))))))))))))))))))))))))))
theorem in_wsL_law_r27 : ∀ w ∈ wsL_law_r27, w ∈ wsL_law := fun _ h => List.mem_append_left _ (List.mem_append_left _ (List.mem_append_left _ (List.mem_append_left _ (List.mem_append_left _ (List.mem_append_left _ (List.mem_append_left _ (List.mem_append_left _ (List.mem_append_left _ (List.mem_append_left _ (List.mem_append_left _ (List.mem_append_left _ (List.mem_append_left _ (List.mem_append_left _ (List.mem_append_right _ (List.mem_append_right _ (List.mem_append_right _ (List.mem_append_right _ (List.mem_append_right _ (List.mem_append_right _ (List.mem_append_right _ (List.mem_append_right _ (List.mem_append_right _ (List.mem_append_right _ (List.mem_append_right _ (List.mem_append_right _ (List.mem_append_right _ (List.mem_append_right _ (List.mem_append_right _ (List.mem_append_right _ (List.mem_append_right _ (List.mem_append_right _ (List.mem_append_right _ (List.mem_append_right _ (List.mem_append_right _ (List.mem_append_right _ (List.mem_append_right _ (List.mem_append_right _ (List.mem_append_right _ (List.mem_append_right _ (List.mem_append_left _ h))))))))))))))))))))))))))))))))))))))))
theorem in_wsL_law_r28 : ∀ w ∈ wsL_law_r28, w ∈ wsL_law := fun _ h => List.mem_append_left _ (List.mem_append_left _ (List.mem_append_left _ (List.mem_append_left _ (List.mem_append_left _ (List.mem_append_left _ (List.mem_append_left _ (List.mem_append_left _ (List.mem_append_left _ (List.mem_append_left _ (List.mem_append_left _ (List.mem_append_left _ (List.mem_append_left _ (List.mem_append_left _ (List.mem_append_right _ (List.mem_append_right _ (List.mem_append_right _ (List.mem_append_right _ (List.mem_append_right _ (List.mem_append_right _ (List.mem_append_right _ (List.mem_append_right _ (List.mem_append_right _ (List.mem_append_right _ (List.mem_append_right _ (List.mem_append_right _ (List.mem_append_right _ (List.mem_append_right _ (List.mem_append_right _ (List.mem_append_right _ (List.mem_append_right _ (List.mem_append_right _ (List.mem_append_right _ (List.mem_append_right _ (List.mem_append_right _ (List.mem_append_right _ (List.mem_append_right _ (List.mem_append_right _ (List.mem_append_right _ (List.mem_append_right _ (List.mem_append_right _ (List.mem_append_left _ h)))))))))))))))))))))))))))))))))))))))))
theorem in_wsL_law_r29 : ∀ w ∈ wsL_law_r29, w ∈ wsL_law := fun _ h => List.mem_append_left _ (List.mem_append_left _ (List.mem_append_left _ (List.mem_append_left _ (List.mem_append_left _ (List.mem_append_left _ (List.mem_append_left _ (List.mem_append_left _ (List.mem_append_left _ (List.mem_append_left _ (List.mem_append_left _ (List.mem_append_left _ (List.mem_append_left _ (List.mem_append_left _ (List.mem_append_right _ (List.mem_append_right _ (List.mem_append_right _ (List.mem_append_right _ (List.mem_append_right _ (List.mem_append_right _ (List.mem_append_right _ (List.mem_append_right _ (List.mem_append_right _ (List.mem_append_right _ (List.mem_append_right _ (List.mem_append_right _ (List.mem_append_right _ (List.mem_append_right _ (List.mem_append_right _ (List.mem_append_right _ (List.mem_append_right _ (List.mem_append_right _ (List.mem_append_right _ (List.mem_append_right _ (List.mem_append_right _ (List.mem_append_right _ (List.mem_append_right _ (List.mem_append_right _ (List.mem_append_right _ (List.mem_append_right _ (List.mem_append_right _ (List.mem_append_right _ (List.mem_append_left _ h))))))))))))))))))))))))))))))))))))))))))
theorem in_wsL_law_r30 : ∀ w ∈ wsL_law_r30, w ∈ wsL_law := fun _ h => List.mem_append_left _ (List.mem_append_left _ (List.mem_append_left _ (List.mem_append_left _ (List.mem_append_left _ (List.mem_append_left _ (List.mem_append_left _ (List.mem_append_left _ (List.mem_append_left _ (List.mem_append_left _ (List.mem_append_left _ (List.mem_append_left _ (List.mem_append_left _ (List.mem_append_left _ (List.mem_append_right _ (List.mem_append_right _ (List.mem_append_right _ (List.mem_append_right _ (List.mem_append_right _ (List.mem_append_right _ (List.mem_append_right _ (List.mem_append_right _ (List.mem_append_right _ (List.mem_append_right _ (List.mem_append_right _ (List.mem_append_right _ (List.mem_append_right _ (List.mem_append_right _ (List.mem_append_right _ (List.mem_append_right _ (List.mem_append_right _ (List.mem_append_right _ (List.mem_append_right _ (List.mem_append_right _ (List.mem_append_right _ (List.mem_append_right _ (List.mem_append_right _ (List.mem_append_right _ (List.mem_append_right _ (List.mem_append_right _ (List.mem_append_right _ (List.mem_append_right _ (List.mem_append_right _ (List.mem_append_left _ h)))))))))))))))))))))))))))))))))))))))))))
theorem in_wsL_law_r31 : ∀ w ∈ wsL_law_r31, w ∈ wsL_law := fun _ h => List.mem_append_left _ (List.mem_append_left _ (List.mem_append_left _ (List.mem_append_left _ (List.mem_append_left _ (List.mem_append_left _ (List.mem_append_left _ (List.mem_append_left _ (List.mem_append_left _ (List.mem_append_left _ (List.mem_append_left _ (List.mem_append_left _ (List.mem_append_left _ (List.mem_append_left _ (List.mem_append_right _ (List.mem_append_right _ (List.mem_append_right _ (List.mem_append_right _ (List.mem_append_right _ (List.mem_append_right _ (List.mem_append_right _ (List.mem_append_right _ (List.mem_append_right _ (List.mem_append_right _ (List.mem_append_right _ (List.mem_append_right _ (List.mem_append_right _ (List.mem_append_right _ (List.mem_append_right _ (List.mem_append_right _ (List.mem_append_right _ (List.mem_append_right _ (List.mem_append_right _ (List.mem_append_right _ (List.mem_append_right _ (List.mem_append_right _ (List.mem_append_right _ (List.mem_append_right _ (List.mem_append_right _ (List.mem_append_right _ (List.mem_append_right _ (List.mem_append_right _ (List.mem_append_right _ (List.mem_append_right _ (List.mem_append_left _ h))))))))))))))))))))))))))))))))))))))))))))
theorem in_wsL_law_r32 : ∀ w ∈ wsL_law_r32, w ∈ wsL_law := fun _ h => List.mem_append_left _ (List.mem_append_left _ (List.mem_append_left _ (List.mem_append_left _ (List.mem_append_left _ (List.mem_append_left _ (List.mem_append_left _ (List.mem_append_left _ (List.mem_append_left _ (List.mem_append_left _ (List.mem_append_left _ (List.mem_append_left _ (List.mem_append_left _ (List.mem_append_left _ (List.mem_append_right _ (List.mem_append_right _ (List.mem_append_right _ (List.mem_append_right _ (List.mem_append_right _ (List.mem_append_right _ (List.mem_append_right _ (List.mem_append_right _ (List.mem_append_right _ (List.mem_append_right _ (List.mem_append_right _ (List.mem_append_right _ (List.mem_append_right _ (List.mem_append_right _ (List.mem_append_right _ (List.mem_append_right _ (List.mem_append_right _ (List.mem_append_right _ (List.mem_append_right _ (List.mem_append_right _ (List.mem_append_right _ (List.mem_append_right _ (List.mem_append_right _ (List.mem_append_right _ (List.mem_append_right _ (List.mem_append_right _ (List.mem_append_right _ (List.mem_append_right _ (List.mem_append_right _ (List.mem_append_right _ (List.mem_append_right _ (List.mem_append_left _ h)))))))))))))))))))))))))))))))))))))))))))))
theorem in_wsL_law_r33 : ∀ w ∈ wsL_law_r33, w ∈ wsL_law := fun _ h => List.mem_append_left _ (List.mem_append_left _ (List.mem_append_left _ (List.mem_append_left _ (List.mem_append_left _ (List.mem_append_left _ (List.mem_append_left _ (List.mem_append_left _ (List.mem_append_left _ (List.mem_append_left _ (List.mem_append_left _ (List.mem_append_left _ (List.mem_append_left _ (List.mem_append_left _ (List.mem_append_right _ (List.mem_append_right _ (List.mem_append_right _ (List.mem_append_right _ (List.mem_append_right _ (List.mem_append_right _ (List.mem_append_right _ (List.mem_append_right _ (List.mem_append_right _ (List.mem_append_right _ (List.mem_append_right _ (List.mem_append_right _ (List.mem_append_right _ (List.mem_append_right _ (List.mem_append_right _ (List.mem_append_right _ (List.mem_append_right _ (List.mem_append_right _ (List.mem_append_right _ (List.mem_append_right _ (List.mem_append_right _ (List.mem_append_right _ (List.mem_append_right _ (List.mem_append_right _ (List.mem_append_right _ (List.mem_append_right _ (List.mem_append_right _ (List.mem_append_right _ (List.mem_append_right _ (List.mem_append_right _ (List.mem_append_right _ (List.mem_append_right _ (List.mem_append_left _ h))))))))))))))))))))))))))))))))))))))))))))))
theorem in_wsL_law_r34 : ∀ w ∈ wsL_law_r34, w ∈ wsL_law := fun _ h => List.mem_append_left _ (List.mem_append_left _ (List.mem_append_left _ (List.mem_append_left _ (List.mem_append_left _ (List.mem_append_left _ (List.mem_append_left _ (List.mem_append_left _ (List.mem_append_left _ (List.mem_append_left _ (List.mem_append_left _ (List.mem_append_left _ (List.mem_append_left _ (List.mem_append_left _ (List.mem_append_right _ (List.mem_append_right _ (List.mem_append_right _ (List.mem_append_right _ (List.mem_append_right _ (List.mem_append_right _ (List.mem_append_right _ (List.mem_append_right _ (List.mem_append_right _ (List.mem_append_right _ (List.mem_append_right _ (List.mem_append_right _ (List.mem_append_right _ (List.mem_append_right _ (List.mem_append_right _ (List.mem_append_right _ (List.mem_append_right _ (List.mem_append_right _ (List.mem_append_right _ (List.mem_append_right _ (List.mem_append_right _ (List.mem_append_right _ (List.mem_append_right _ (List.mem_append_right _ (List.mem_append_right _ (List.mem_append_right _ (List.mem_append_right _ (List.mem_append_right _ (List.mem_append_right _ (List.mem_append_right _ (List.mem_append_right _ (List.mem_append_right _ (List.mem_append_right _ (List.mem_append_left _ h)))))))))))))))))))))))))))))))))))))))))))))))
theorem in_wsL_law_r35 : ∀ w ∈ wsL_law_r35, w ∈ wsL_law := fun _ h => List.mem_append_left _ (List.mem_append_left _ (List.mem_append_left _ (List.mem_append_left _ (List.mem_append_left _ (List.mem_append_left _ (List.mem_append_left _ (List.mem_append_left _ (List.mem_append_left _ (List.mem_append_left _ (List.mem_append_left _ (List.mem_append_left _ (List.mem_append_left _ (List.mem_append_left _ (List.mem_append_right _ (List.mem_append_right _ (List.mem_append_right _ (List.mem_append_right _ (List.mem_append_right _ (List.mem_append_right _ (List.mem_append_right _ (List.mem_append_right _ (List.mem_append_right _ (List.mem_append_right _ (List.mem_append_right _ (List.mem_append_right _ (List.mem_append_right _ (List.mem_append_right _ (List.mem_append_right _ (List.mem_append_right _ (List.mem_append_right _ (List.mem_append_right _ (List.mem_append_right _ (List.mem_append_right _ (List.mem_append_right _ (List.mem_append_right _ (List.mem_append_right _ (List.mem_append_right _ (List.mem_append_right _ (List.mem_append_right _ (List.mem_append_right _ (List.mem_append_right _ (List.mem_append_right _ (List.mem_append_right _ (List.mem_append_right _ (List.mem_append_right _ (List.mem_append_right _ (List.mem_append_right _ (List.mem_append_left _ h))))))))))))))))))))))))))))))))))))))))))))))))
theorem in_wsL_law_r36 : ∀ w ∈ wsL_law_r36, w ∈ wsL_law := fun _ h => List.mem_append_left _ (List.mem_append_left _ (List.mem_append_left _ (List.mem_append_left _ (List.mem_append_left _ (List.mem_append_left _ (List.mem_append_left _ (List.mem_append_left _ (List.mem_append_left _ (List.mem_append_left _ (List.mem_append_left _ (List.mem_append_left _ (List.mem_append_left _ (List.mem_append_left _ (List.mem_append_right _ (List.mem_append_right _ (List.mem_append_right _ (List.mem_append_right _ (List.mem_append_right _ (List.mem_append_right _ (List.mem_append_right _ (List.mem_append_right _ (List.mem_append_right _ (List.mem_append_right _ (List.mem_append_right _ (List.mem_append_right _ (List.mem_append_right _ (List.mem_append_right _ (List.mem_append_right _ (List.mem_append_right _ (List.mem_append_right _ (List.mem_append_right _ (List.mem_append_right _ (List.mem_append_right _ (List.mem_append_right _ (List.mem_append_right _ (List.mem_append_right _ (List.mem_append_right _ (List.mem_append_right _ (List.mem_append_right _ (List.mem_append_right _ (List.mem_append_right _ (List.mem_append_right _ (List.mem_append_right _ (List.mem_append_right _ (List.mem_append_right _ (List.mem_append_right _ (List.mem_append_right _ (List.mem_append_right _ (List.mem_append_left _ h)))))))))))))))))))))))))))))))))))))))))))))))))
theorem in_wsL_law_r37 : ∀ w ∈ wsL_law_r37, w ∈ wsL_law := fun _ h => List.mem_append_left _ (List.mem_append_left _ (List.mem_append_left _ (List.mem_append_left _ (List.mem_append_left _ (List.mem_append_left _ (List.mem_append_left _ (List.mem_append_left _ (List.mem_append_left _ (List.mem_append_left _ (List.mem_append_left _ (List.mem_append_left _ (List.mem_append_left _ (List.mem_append_left _ (List.mem_append_right _ (List.mem_append_right _ (List.mem_append_right _ (List.mem_append_right _ (List.mem_append_right _ (List.mem_append_right _ (List.mem_append_right _ (List.mem_append_right _ (List.mem_append_right _ (List.mem_append_right _ (List.mem_append_right _ (List.mem_append_right _ (List.mem_append_right _ (List.mem_append_right _ (List.mem_append_right _ (List.mem_append_right _ (List.mem_append_right _ (List.mem_append_right _ (List.mem_append_right _ (List.mem_append_right _ (List.mem_append_right _ (List.mem_append_right _ (List.mem_append_right _ (List.mem_append_right _ (List.mem_append_right _ (List.mem_append_right _ (List.mem_append_right _ (List.mem_append_right _ (List.mem_append_right _ (List.mem_append_right _ (List.mem_append_right _ (List.mem_append_right _ (List.mem_append_right _ (List.mem_append_right _ (List.mem_append_right _ (List.mem_append_right _ (List.mem_append_left _ h))))))))))))))))))))))))))))))))))))))))))))))))))
theorem in_wsL_law_r38 : ∀ w ∈ wsL_law_r38, w ∈ wsL_law := fun _ h => List.mem_append_left _ (List.mem_append_left _ (List.mem_append_left _ (List.mem_append_left _ (List.mem_append_left _ (List.mem_append_left _ (List.mem_append_left _ (List.mem_append_left _ (List.mem_append_left _ (List.mem_append_left _ (List.mem_append_left _ (List.mem_append_left _ (List.mem_append_left _ (List.mem_append_left _ (List.mem_append_right _ (List.mem_append_right _ (List.mem_append_right _ (List.mem_append_right _ (List.mem_append_right _ (List.mem_append_right _ (List.mem_append_right _ (List.mem_append_right _ (List.mem_append_right _ (List.mem_append_right _ (List.mem_append_right _ (List.mem_append_right _ (List.mem_append_right _ (List.mem_append_right _ (List.mem_append_right _ (List.mem_append_right _ (List.mem_append_right _ (List.mem_append_right _ (List.mem_append_right _ (List.mem_append_right _ (List.mem_append_right _ (List.mem_append_right _ (List.mem_append_right _ (List.mem_append_right _ (List.mem_append_right _ (List.mem_append_right _ (List.mem_append_right _ (List.mem_append_right _ (List.mem_append_right _ (List.mem_append_right _ (List.mem_append_right _ (List.mem_append_right _ (List.mem_append_right _ (List.mem_append_right _ (List.mem_append_right _ (List.mem_append_right _ (List.mem_append_right _ (List.mem_append_left _ h)))))))))))))))))))))))))))))))))))))))))))))))))))
theorem in_wsL_law_r39 : ∀ w ∈ wsL_law_r39, w ∈ wsL_law := fun _ h => List.mem_append_left _ (List.mem_append_left _ (List.mem_append_left _ (List.mem_append_left _ (List.mem_append_left _ (List.mem_append_left _ (List.mem_append_left _ (List.mem_append_left _ (List.mem_append_left _ (List.mem_append_left _ (List.mem_append_left _ (List.mem_append_left _ (List.mem_append_left _ (List.mem_append_left _ (List.mem_append_right _ (List.mem_append_right _ (List.mem_append_right _ (List.mem_append_right _ (List.mem_append_right _ (List.mem_append_right _ (List.mem_append_right _ (List.mem_append_right _ (List.mem_append_right _ (List.mem_append_right _ (List.mem_append_right _ (List.mem_append_right _ (List.mem_append_right _ (List.mem_append_right _ (List.mem_append_right _ (List.mem_append_right _ (List.mem_append_right _ (List.mem_append_right _ (List.mem_append_right _ (List.mem_append_right _ (List.mem_append_right _ (List.mem_append_right _ (List.mem_append_right _ (List.mem_append_right _ (List.mem_append_right _ (List.mem_append_right _ (List.mem_append_right _ (List.mem_append_right _ (List.mem_append_right _ (List.mem_append_right _ (List.mem_append_right _ (List.mem_append_right _ (List.mem_append_right _ (List.mem_append_right _ (List.mem_append_right _ (List.mem_append_right _ (List.mem_append_right _ (List.mem_append_right _ (List.mem_append_left _ h))))))))))))))))))))))))))))))))))))))))))))))))))))
theorem in_wsL_law_r40 : ∀ w ∈ wsL_law_r40, w ∈ wsL_law := fun _ h => List.mem_append_left _ (List.mem_append_left _ (List.mem_append_left _ (List.mem_append_left _ (List.mem_append_left _ (List.mem_append_left _ (List.mem_append_left _ (List.mem_append_left _ (List.mem_append_left _ (List.mem_append_left _ (List.mem_append_left _ (List.mem_append_left _ (List.mem_append_left _ (List.mem_append_left _ (List.mem_append_right _ (List.mem_append_right _ (List.mem_append_right _ (List.mem_append_right _ (List.mem_append_right _ (List.mem_append_right _ (List.mem_append_right _ (List.mem_append_right _ (List.mem_append_right _ (List.mem_append_right _ (List.mem_append_right _ (List.mem_append_right _ (List.mem_append_right _ (List.mem_append_right _ (List.mem_append_right _ (List.mem_append_right _ (List.mem_append_right _ (List.mem_append_right _ (List.mem_append_right _ (List.mem_append_right _ (List.mem_append_right _ (List.mem_append_right _ (List.mem_append_right _ (List.mem_append_right _ (List.mem_append_right _ (List.mem_append_right _ (List.mem_append_right _ (List.mem_append_right _ (List.mem_append_right _ (List.mem_append_right _ (List.mem_append_right _ (List.mem_append_right _ (List.mem_append_right _ (List.mem_append_right _ (List.mem_append_right _ (List.mem_append_right _ (List.mem_append_right _ (List.mem_append_right _ (List.mem_append_right _ (List.mem_append_left _ h)))))))))))))))))))))))))))))))))))))))))))))))))))))
theorem in_wsL_law_r41 : ∀ w ∈ wsL_law_r41, w ∈ wsL_law := fun _ h => List.mem_append_left _ (List.mem_append_left _ (List.mem_append_left _ (List.mem_append_left _ (List.mem_append_left _ (List.mem_append_left _ (List.mem_append_left _ (List.mem_append_left _ (List.mem_append_left _ (List.mem_append_left _ (List.mem_append_left _ (List.mem_append_left _ (List.mem_append_left _ (List.mem_append_left _ (List.mem_append_right _ (List.mem_append_right _ (List.mem_append_right _ (List.mem_append_right _ (List.mem_append_right _ (List.mem_append_right _ (List.mem_append_right _ (List.mem_append_right _ (List.mem_append_right _ (List.mem_append_right _ (List.mem_append_right _ (List.mem_append_right _ (List.mem_append_right _ (List.mem_append_right _ (List.mem_append_right _ (List.mem_append_right _ (List.mem_append_right _ (List.mem_append_right _ (List.mem_append_right _ (List.mem_append_right _ (List.mem_append_right _ (List.mem_append_right _ (List.mem_append_right _ (List.mem_append_right _ (List.mem_append_right _ (List.mem_append_right _ (List.mem_append_right _ (List.mem_append_right _ (List.mem_append_right _ (List.mem_append_right _ (List.mem_append_right _ (List.mem_append_right _ (List.mem_append_right _ (List.mem_append_right _ (List.mem_append_right _ (List.mem_append_right _ (List.mem_append_right _ (List.mem_append_right _ (List.mem_append_right _ (List.mem_append_right _ (List.mem_append_left _ h))))))))))))))))))))))))))))))))))))))))))))))))))))))
theorem in_wsL_law_r42 : ∀ w ∈ wsL_law_r42, w ∈ wsL_law := fun _ h => List.mem_append_left _ (List.mem_append_left _ (List.mem_append_left _ (List.mem_append_left _ (List.mem_append_left _ (List.mem_append_left _ (List.mem_append_left _ (List.mem_append_left _ (List.mem_append_left _ (List.mem_append_left _ (List.mem_append_left _ (List.mem_append_left _ (List.mem_append_left _ (List.mem_append_left _ (List.mem_append_right _ (List.mem_append_right _ (List.mem_append_right _ (List.mem_append_right _ (List.mem_append_right _ (List.mem_append_right _ (List.mem_append_right _ (List.mem_append_right _ (List.mem_append_right _ (List.mem_append_right _ (List.mem_append_right _ (List.mem_append_right _ (List.mem_append_right _ (List.mem_append_right _ (List.mem_append_right _ (List.mem_append_right _ (List.mem_append_right _ (List.mem_append_right _ (List.mem_append_right _ (List.mem_append_right _ (List.mem_append_right _ (List.mem_append_right _ (List.mem_append_right _ (List.mem_append_right _ (List.mem_append_right _ (List.mem_append_right _ (List.mem_append_right _ (List.mem_append_right _ (List.mem_append_right _ (List.mem_append_right _ (List.mem_append_right _ (List.mem_append_right _ (List.mem_append_right _ (List.mem_append_right _ (List.mem_append_right _ (List.mem_append_right _ (List.mem_append_right _ (List.mem_append_right _ (List.mem_append_right _ (List.mem_append_right _ (List.mem_append_right _ (List.mem_append_left _ h)))))))))))))))))))))))))))))))))))))))))))))))))))))))
theorem in_wsL_law_r43 : ∀ w ∈ wsL_law_r43, w ∈ wsL_law := fun _ h => List.mem_append_left _ (List.mem_append_left _ (List.mem_append_left _ (List.mem_append_left _ (List.mem_append_left _ (List.mem_append_left _ (List.mem_append_left _ (List.mem_append_left _ (List.mem_append_left _ (List.mem_append_left _ (List.mem_append_left _ (List.mem_append_left _ (List.mem_append_left _ (List.mem_append_left _ (List.mem_append_right _ (List.mem_append_right _ (List.mem_append_right _ (List.mem_append_right _ (List.mem_append_right _ (List.mem_append_right _ (List.mem_append_right _ (List.mem_append_right _ (List.mem_append_right _ (List.mem_append_right _ (List.mem_append_right _ (List.mem_append_right _ (List.mem_append_right _ (List.mem_append_right _ (List.mem_append_right _ (List.mem_append_right _ (List.mem_append_right _ (List.mem_append_right _ (List.mem_append_right _ (List.mem_append_right _ (List.mem_append_right _ (List.mem_append_right _ (List.mem_append_right _ (List.mem_append_right _ (List.mem_append_right _ (List.mem_append_right _ (List.mem_append_right _ (List.mem_append_right _ (List.mem_append_right _ (List.mem_append_right _ (List.mem_append_right _ (List.mem_append_right _ (List.mem_append_right _ (List.mem_append_right _ (List.mem_append_right _ (List.mem_append_right _ (List.mem_append_right _ (List.mem_append_right _ (List.mem_append_right _ (List.mem_append_right _ (List.mem_append_right _ (List.mem_append_right _ (List.mem_append_left _ h))))))))))))))))))))))))))))))))))))))))))))))))))))))))
theorem in_wsL_law_r44 : ∀ w ∈ wsL_law_r44, w ∈ wsL_law := fun _ h => List.mem_append_left _ (List.mem_append_left _ (List.mem_append_left _ (List.mem_append_left _ (List.mem_append_left _ (List.mem_append_left _ (List.mem_append_left _ (List.mem_append_left _ (List.mem_append_left _ (List.mem_append_left _ (List.mem_append_left _ (List.mem_append_left _ (List.mem_append_left _ (List.mem_append_left _ (List.mem_append_right _ (List.mem_append_right _ (List.mem_append_right _ (List.mem_append_right _ (List.mem_append_right _ (List.mem_append_right _ (List.mem_append_right _ (List.mem_append_right _ (List.mem_append_right _ (List.mem_append_right _ (List.mem_append_right _ (List.mem_append_right _ (List.mem_append_right _ (List.mem_append_right _ (List.mem_append_right _ (List.mem_append_right _ (List.mem_append_right _ (List.mem_append_right _ (List.mem_append_right _ (List.mem_append_right _ (List.mem_append_right _ (List.mem_append_right _ (List.mem_append_right _ (List.mem_append_right _ (List.mem_append_right _ (List.mem_append_right _ (List.mem_append_right _ (List.mem_append_right _ (List.mem_append_right _ (List.mem_append_right _ (List.mem_append_right _ (List.mem_append_right _ (List.mem_append_right _ (List.mem_append_right _ (List.mem_append_right _ (List.mem_append_right _ (List.mem_append_right _ (List.mem_append_right _ (List.mem_append_right _ (List.mem_append_right _ (List.mem_append_right _ (List.mem_append_right _ (List.mem_append_right _ (List.mem_append_left _ h)))))))))))))))))))))))))))))))))))))))))))))))))))))))))
theorem in_wsL_law_r45 : ∀ w ∈ wsL_law_r45, w ∈ wsL_law := fun _ h => List.mem_append_left _ (List.mem_append_left _ (List.mem_append_left _ (List.mem_append_left _ (List.mem_append_left _ (List.mem_append_left _ (List.mem_append_left _ (List.mem_append_left _ (List.mem_append_left _ (List.mem_append_left _ (List.mem_append_left _ (List.mem_append_left _ (List.mem_append_left _ (List.mem_append_left _ (List.mem_append_right _ (List.mem_append_right _ (List.mem_append_right _ (List.mem_append_right _ (List.mem_append_right _ (List.mem_append_right _ (List.mem_append_right _ (List.mem_append_right _ (List.mem_append_right _ (List.mem_append_right _ (List.mem_append_right _ (List.mem_append_right _ (List.mem_append_right _ (List.mem_append_right _ (List.mem_append_right _ (List.mem_append_right _ (List.mem_append_right _ (List.mem_append_right _ (List.mem_append_right _ (List.mem_append_right _ (List.mem_append_right _ (List.mem_append_right _ (List.mem_append_right _ (List.mem_append_right _ (List.mem_append_right _ (List.mem_append_right _ (List.mem_append_right _ (List.mem_append_right _ (List.mem_append_right _ (List.mem_append_right _ (List.mem_append_right _ (List.mem_append_right _ (List.mem_append_right _ (List.mem_append_right _ (List.mem_append_right _ (List.mem_append_right _ (List.mem_append_right _ (List.mem_append_right _ (List.mem_append_right _ (List.mem_append_right _ (List.mem_append_right _ (List.mem_append_right _ (List.mem_append_right _ (List.mem_append_right _ (List.mem_append_left _ h))))))))))))))))))))))))))))))))))))))))))))))))))))))))))
theorem in_wsL_law_r46 : ∀ w ∈ wsL_law_r46, w ∈ wsL_law := fun _ h => List.mem_append_left _ (List.mem_append_left _ (List.mem_append_left _ (List.mem_append_left _ (List.mem_append_left _ (List.mem_append_left _ (List.mem_append_left _ (List.mem_append_left _ (List.mem_append_left _ (List.mem_append_left _ (List.mem_append_left _ (List.mem_append_left _ (List.mem_append_left _ (List.mem_append_left _ (List.mem_append_right _ (List.mem_append_right _ (List.mem_append_right _ (List.mem_append_right _ (List.mem_append_right _ (List.mem_append_right _ (List.mem_append_right _ (List.mem_append_right _ (List.mem_append_right _ (List.mem_append_right _ (List.mem_append_right _ (List.mem_append_right _ (List.mem_append_right _ (List.mem_append_right _ (List.mem_append_right _ (List.mem_append_right _ (List.mem_append_right _ (List.mem_append_right _ (List.mem_append_right _ (List.mem_append_right _ (List.mem_append_right _ (List.mem_append_right _ (List.mem_append_right _ (List.mem_append_right _ (List.mem_append_right _ (List.mem_append_right _ (List.mem_append_right _ (List.mem_append_right _ (List.mem_append_right _ (List.mem_append_right _ (List.mem_append_right _ (List.mem_append_right _ (List.mem_append_right _ (List.mem_append_right _ (List.mem_append_right _ (List.mem_append_right _ (List.mem_append_right _ (List.mem_append_right _ (List.mem_append_right _ (List.mem_append_right _ (List.mem_append_right _ (List.mem_append_right _ (List.mem_append_right _ (List.mem_append_right _ (List.mem_append_right _ (List.mem_append_left _ h)))))))))))))))))))))))))))))))))))))))))))))))))))))))))))
theorem in_wsL_law_r47 : ∀ w ∈ wsL_law_r47, w ∈ wsL_law := fun _ h => List.mem_append_left _ (List.mem_append_left _ (List.mem_append_left _ (List.mem_append_left _ (List.mem_append_left _ (List.mem_append_left _ (List.mem_append_left _ (List.mem_append_left _ (List.mem_append_left _ (List.mem_append_left _ (List.mem_append_left _ (List.mem_append_left _ (List.mem_append_left _ (List.mem_append_left _ (List.mem_append_right _ (List.mem_append_right _ (List.mem_append_right _ (List.mem_append_right _ (List.mem_append_right _ (List.mem_append_right _ (List.mem_append_right _ (List.mem_append_right _ (List.mem_append_right _ (List.mem_append_right _ (List.mem_append_right _ (List.mem_append_right _ (List.mem_append_right _ (List.mem_append_right _ (List.mem_append_right _ (List.mem_append_right _ (List.mem_append_right _ (List.mem_append_right _ (List.mem_append_right _ (List.mem_append_right _ (List.mem_append_right _ (List.mem_append_right _ (List.mem_append_right _ (List.mem_append_right _ (List.mem_append_right _ (List.mem_append_right _ (List.mem_append_right _ (List.mem_append_right _ (List.mem_append_right _ (List.mem_append_right _ (List.mem_append_right _ (List.mem_append_right _ (List.mem_append_right _ (List.mem_append_right _ (List.mem_append_right _ (List.mem_append_right _ (List.mem_append_right _ (List.mem_append_right _ (List.mem_append_right _ (List.mem_append_right _ (List.mem_append_right _ (List.mem_append_right _ (List.mem_append_right _ (List.mem_append_right _ (List.mem_append_right _ (List.mem_append_right _ (List.mem_append_left _ h))))))))))))))))))))))))))))))))))))))))))))))))))))))))))))
theorem in_wsL_law_r48 : ∀ w ∈ wsL_law_r48, w ∈ wsL_law := fun _ h => List.mem_append_left _ (List.mem_append_left _ (List.mem_append_left _ (List.mem_append_left _ (List.mem_append_left _ (List.mem_append_left _ (List.mem_append_left _ (List.mem_append_left _ (List.mem_append_left _ (List.mem_append_left _ (List.mem_append_left _ (List.mem_append_left _ (List.mem_append_left _ (List.mem_append_left _ (List.mem_append_right _ (List.mem_append_right _ (List.mem_append_right _ (List.mem_append_right _ (List.mem_append_right _ (List.mem_append_right _ (List.mem_append_right _ (List.mem_append_right _ (List.mem_append_right _ (List.mem_append_right _ (List.mem_append_right _ (List.mem_append_right _ (List.mem_append_right _ (List.mem_append_right _ (List.mem_append_right _ (List.mem_append_right _ (List.mem_append_right _ (List.mem_append_right _ (List.mem_append_right _ (List.mem_append_right _ (List.mem_append_right _ (List.mem_append_right _ (List.mem_append_right _ (List.mem_append_right _ (List.mem_append_right _ (List.mem_append_right _ (List.mem_append_right _ (List.mem_append_right _ (List.mem_append_right _ (List.mem_append_right _ (List.mem_append_right _ (List.mem_append_right _ (List.mem_append_right _ (List.mem_append_right _ (List.mem_append_right _ (List.mem_append_right _ (List.mem_append_right _ (List.mem_append_right _ (List.mem_append_right _ (List.mem_append_right _ (List.mem_append_right _ (List.mem_append_right _ (List.mem_append_right _ (List.mem_append_right _ (List.mem_append_right _ (List.mem_append_right _ (List.mem_append_right _ (List.mem_append_left _ h)))))))))))))))))))))))))))))))))))))))))))))))))))))))))))))
theorem in_wsL_law_r49 : ∀ w ∈ wsL_law_r49, w ∈ wsL_law := fun _ h => List.mem_append_left _ (List.mem_append_left _ (List.mem_append_left _ (List.mem_append_left _ (List.mem_append_left _ (List.mem_append_left _ (List.mem_append_left _ (List.mem_append_left _ (List.mem_append_left _ (List.mem_append_left _ (List.mem_append_left _ (List.mem_append_left _ (List.mem_append_left _ (List.mem_append_left _ (List.mem_append_right _ (List.mem_append_right _ (List.mem_append_right _ (List.mem_append_right _ (List.mem_append_right _ (List.mem_append_right _ (List.mem_append_right _ (List.mem_append_right _ (List.mem_append_right _ (List.mem_append_right _ (List.mem_append_right _ (List.mem_append_right _ (List.mem_append_right _ (List.mem_append_right _ (List.mem_append_right _ (List.mem_append_right _ (List.mem_append_right _ (List.mem_append_right _ (List.mem_append_right _ (List.mem_append_right _ (List.mem_append_right _ (List.mem_append_right _ (List.mem_append_right _ (List.mem_append_right _ (List.mem_append_right _ (List.mem_append_right _ (List.mem_append_right _ (List.mem_append_right _ (List.mem_append_right _ (List.mem_append_right _ (List.mem_append_right _ (List.mem_append_right _ (List.mem_append_right _ (List.mem_append_right _ (List.mem_append_right _ (List.mem_append_right _ (List.mem_append_right _ (List.mem_append_right _ (List.mem_append_right _ (List.mem_append_right _ (List.mem_append_right _ (List.mem_append_right _ (List.mem_append_right _ (List.mem_append_right _ (List.mem_append_right _ (List.mem_append_right _ (List.mem_append_right _ (List.mem_append_right _ (List.mem_append_left _ h))))))))))))))))))))))))))))))))))))))))))))))))))))))))))))))
theorem in_wsL_law_r50 : ∀ w ∈ wsL_law_r50, w ∈ wsL_law := fun _ h => List.mem_append_left _ (List.mem_append_left _ (List.mem_append_left _ (List.mem_append_left _ (List.mem_append_left _ (List.mem_append_left _ (List.mem_append_left _ (List.mem_append_left _ (List.mem_append_left _ (List.mem_append_left _ (List.mem_append_left _ (List.mem_append_left _ (List.mem_append_left _ (List.mem_append_left _ (List.mem_append_right _ (List.mem_append_right _ (List.mem_append_right _ (List.mem_append_right _ (List.mem_append_right _ (List.mem_append_right _ (List.mem_append_right _ (List.mem_append_right _ (List.mem_append_right _ (List.mem_append_right _ (List.mem_append_right _ (List.mem_append_right _ (List.mem_append_right _ (List.mem_append_right _ (List.mem_append_right _ (List.mem_append_right _ (List.mem_append_right _ (List.mem_append_right _ (List.mem_append_right _ (List.mem_append_right _ (List.mem_append_right _ (List.mem_append_right _ (List.mem_append_right _ (List.mem_append_right _ (List.mem_append_right _ (List.mem_append_right _ (List.mem_append_right _ (List.mem_append_right _ (List.mem_append_right _ (List.mem_append_right _ (List.mem_append_right _ (List.mem_append_right _ (List.mem_append_right _ (List.mem_append_right _ (List.mem_append_right _ (List.mem_append_right _ (List.mem_append_right _ (List.mem_append_right _ (List.mem_append_right _ (List.mem_append_right _ (List.mem_append_right _ (List.mem_append_right _ (List.mem_append_right _ (List.mem_append_right _ (List.mem_append_right _ (List.mem_append_right _ (List.mem_append_right _ (List.mem_append_right _ (List.mem_append_right _ (h)))))))))))))))))))))))))))))))))))))))))))))))))))))))))))))))
set_option maxRecDepth 20000 in
theorem wsL_law_good : GoodIn wsL_law wsL_law := goodIn_sub (fun _ h => h) (by decide +kernel)
