def RX0 : String := "ParrotVow$Reader"
def TX0 : u_T := fun k => match k with
  | 0 => ("ParrotVow$Reader", "tape", "LParrotVow$Row;", true)
  | 1 => ("ParrotVow$Reader", "codes", "LParrotVow$Row;", true)
  | 2 => ("ParrotVow$Reader", "names", "Ljava/lang/String;", false)
  | 3 => ("ParrotVow$Reader", "at", "I", false)
  | _ => ("ParrotVow$Reader", "faulty", "Z", false)
def tyX0 : Nat → FieldType := fun k => match k with
  | 0 => .object "ParrotVow$Row"
  | 1 => .object "ParrotVow$Row"
  | 2 => .object "java/lang/String"
  | 3 => .int
  | _ => .boolean
abbrev wsX00 : List Cond := u_ws RX0 TX0 5
theorem nmX0 : ∀ a, a < 5 → ∀ b, b < 5 → a ≠ b → (TX0 a).2.1 ≠ (TX0 b).2.1 := by decide +kernel
theorem tyX0_ok : ∀ k, k < 5 → parseFieldDescriptor (TX0 k).2.2.1 = some (tyX0 k) := by decide +kernel
abbrev cX0_init : ByteArray := prog_2_method_1_code
def yX0_init : MethodName := ⟨RX0, "<init>", "(LParrotVow$Row;)V"⟩
abbrev cX0_faultOf : ByteArray := prog_2_method_2_code
def yX0_faultOf : MethodName := ⟨RX0, "faultOf", "(Ljava/lang/String;)I"⟩
abbrev cX0_next : ByteArray := prog_2_method_3_code
def yX0_next : MethodName := ⟨RX0, "next", "()I"⟩
abbrev cX0_takes : ByteArray := prog_2_method_4_code
def yX0_takes : MethodName := ⟨RX0, "takes", "(C)Z"⟩
abbrev cX0_takesOneOf : ByteArray := prog_2_method_5_code
def yX0_takesOneOf : MethodName := ⟨RX0, "takesOneOf", "(Ljava/lang/String;)C"⟩
abbrev cX0_readOr : ByteArray := prog_2_method_6_code
def yX0_readOr : MethodName := ⟨RX0, "readOr", "(I)V"⟩
abbrev cX0_readAnd : ByteArray := prog_2_method_7_code
def yX0_readAnd : MethodName := ⟨RX0, "readAnd", "(I)V"⟩
abbrev cX0_readComparison : ByteArray := prog_2_method_8_code
def yX0_readComparison : MethodName := ⟨RX0, "readComparison", "(I)V"⟩
abbrev cX0_readSum : ByteArray := prog_2_method_9_code
def yX0_readSum : MethodName := ⟨RX0, "readSum", "(I)V"⟩
abbrev cX0_readProduct : ByteArray := prog_2_method_10_code
def yX0_readProduct : MethodName := ⟨RX0, "readProduct", "(I)V"⟩
abbrev cX0_readFactor : ByteArray := prog_2_method_11_code
def yX0_readFactor : MethodName := ⟨RX0, "readFactor", "(I)V"⟩
abbrev cX0_isDigit : ByteArray := prog_2_method_12_code
def yX0_isDigit : MethodName := ⟨RX0, "isDigit", "()Z"⟩
abbrev cX0_readNumber : ByteArray := prog_2_method_13_code
def yX0_readNumber : MethodName := ⟨RX0, "readNumber", "()V"⟩
def RX1 : String := "ParrotVow$Row"
def TX1 : u_T := fun k => match k with
  | 0 => ("ParrotVow$Row", "cells", "[I", true)
  | _ => ("ParrotVow$Row", "many", "I", false)
def tyX1 : Nat → FieldType := fun k => match k with
  | 0 => .array .int
  | _ => .int
abbrev wsX10 : List Cond := u_ws RX1 TX1 2
theorem nmX1 : ∀ a, a < 2 → ∀ b, b < 2 → a ≠ b → (TX1 a).2.1 ≠ (TX1 b).2.1 := by decide +kernel
theorem tyX1_ok : ∀ k, k < 2 → parseFieldDescriptor (TX1 k).2.2.1 = some (tyX1 k) := by decide +kernel
abbrev cX1_init : ByteArray := prog_3_method_1_code
def yX1_init : MethodName := ⟨RX1, "<init>", "(I)V"⟩
abbrev cX1_many : ByteArray := prog_3_method_2_code
def yX1_many : MethodName := ⟨RX1, "many", "()I"⟩
abbrev cX1_has : ByteArray := prog_3_method_3_code
def yX1_has : MethodName := ⟨RX1, "has", "(I)Z"⟩
abbrev cX1_get : ByteArray := prog_3_method_4_code
def yX1_get : MethodName := ⟨RX1, "get", "(I)I"⟩
abbrev cX1_set : ByteArray := prog_3_method_5_code
def yX1_set : MethodName := ⟨RX1, "set", "(II)V"⟩
abbrev cX1_add : ByteArray := prog_3_method_6_code
def yX1_add : MethodName := ⟨RX1, "add", "(I)V"⟩
abbrev cX1_clear : ByteArray := prog_3_method_7_code
def yX1_clear : MethodName := ⟨RX1, "clear", "()V"⟩
abbrev cX1_drop : ByteArray := prog_3_method_8_code
def yX1_drop : MethodName := ⟨RX1, "drop", "(I)V"⟩
abbrev cX1_pop : ByteArray := prog_3_method_9_code
def yX1_pop : MethodName := ⟨RX1, "pop", "()I"⟩
abbrev cX1_zeros : ByteArray := prog_3_method_10_code
def yX1_zeros : MethodName := ⟨RX1, "zeros", "(I)V"⟩
abbrev cX1_hasRun : ByteArray := prog_3_method_11_code
def yX1_hasRun : MethodName := ⟨RX1, "hasRun", "(II)Z"⟩
abbrev cX1_takeRun : ByteArray := prog_3_method_12_code
def yX1_takeRun : MethodName := ⟨RX1, "takeRun", "(LParrotVow$Row;III)V"⟩
abbrev cX1_takeAll : ByteArray := prog_3_method_13_code
def yX1_takeAll : MethodName := ⟨RX1, "takeAll", "(LParrotVow$Row;)V"⟩
def RX2 : String := "ParrotVow$Sheet"
def TX2 : u_T := fun k => match k with
  | 0 => ("ParrotVow$Sheet", "numbers", "LParrotVow$Row;", true)
  | _ => ("ParrotVow$Sheet", "bits", "I", false)
def tyX2 : Nat → FieldType := fun k => match k with
  | 0 => .object "ParrotVow$Row"
  | _ => .int
abbrev wsX20 : List Cond := u_ws RX2 TX2 2
theorem nmX2 : ∀ a, a < 2 → ∀ b, b < 2 → a ≠ b → (TX2 a).2.1 ≠ (TX2 b).2.1 := by decide +kernel
theorem tyX2_ok : ∀ k, k < 2 → parseFieldDescriptor (TX2 k).2.2.1 = some (tyX2 k) := by decide +kernel
abbrev cX2_init : ByteArray := prog_4_method_1_code
def yX2_init : MethodName := ⟨RX2, "<init>", "()V"⟩
abbrev cX2_isMissing : ByteArray := prog_4_method_2_code
def yX2_isMissing : MethodName := ⟨RX2, "isMissing", "()Z"⟩
abbrev cX2_remake : ByteArray := prog_4_method_3_code
def yX2_remake : MethodName := ⟨RX2, "remake", "(II)V"⟩
abbrev cX2_lowestBits : ByteArray := prog_4_method_4_code
def yX2_lowestBits : MethodName := ⟨RX2, "lowestBits", "(I)I"⟩
def RX3 : String := "ParrotVow$State"
def TX3 : u_T := fun k => match k with
  | 0 => ("ParrotVow$State", "kinds", "LParrotVow$Row;", true)
  | 1 => ("ParrotVow$State", "ms", "LParrotVow$Row;", true)
  | 2 => ("ParrotVow$State", "said", "LParrotVow$Row;", true)
  | 3 => ("ParrotVow$State", "signs", "LParrotVow$Row;", true)
  | 4 => ("ParrotVow$State", "tape", "LParrotVow$Row;", true)
  | 5 => ("ParrotVow$State", "avoidCodes", "LParrotVow$Row;", true)
  | 6 => ("ParrotVow$State", "talkCodes", "LParrotVow$Row;", true)
  | 7 => ("ParrotVow$State", "waiting", "LParrotVow$Row;", true)
  | 8 => ("ParrotVow$State", "vow", "I", false)
  | 9 => ("ParrotVow$State", "day", "I", false)
  | 10 => ("ParrotVow$State", "worth", "I", false)
  | _ => ("ParrotVow$State", "z", "I", false)
def tyX3 : Nat → FieldType := fun k => match k with
  | 0 => .object "ParrotVow$Row"
  | 1 => .object "ParrotVow$Row"
  | 2 => .object "ParrotVow$Row"
  | 3 => .object "ParrotVow$Row"
  | 4 => .object "ParrotVow$Row"
  | 5 => .object "ParrotVow$Row"
  | 6 => .object "ParrotVow$Row"
  | 7 => .object "ParrotVow$Row"
  | 8 => .int
  | 9 => .int
  | 10 => .int
  | _ => .int
abbrev wsX30 : List Cond := u_ws RX3 TX3 12
theorem nmX3 : ∀ a, a < 12 → ∀ b, b < 12 → a ≠ b → (TX3 a).2.1 ≠ (TX3 b).2.1 := by decide +kernel
theorem tyX3_ok : ∀ k, k < 12 → parseFieldDescriptor (TX3 k).2.2.1 = some (tyX3 k) := by decide +kernel
abbrev cX3_init : ByteArray := prog_5_method_1_code
def yX3_init : MethodName := ⟨RX3, "<init>", "()V"⟩
abbrev cX3_brothers : ByteArray := prog_5_method_2_code
def yX3_brothers : MethodName := ⟨RX3, "brothers", "()I"⟩
abbrev cX3_codesOf : ByteArray := prog_5_method_3_code
def yX3_codesOf : MethodName := ⟨RX3, "codesOf", "(I)LParrotVow$Row;"⟩
abbrev cX3_addSign : ByteArray := prog_5_method_4_code
def yX3_addSign : MethodName := ⟨RX3, "addSign", "(II)V"⟩
abbrev cX3_draw : ByteArray := prog_5_method_5_code
def yX3_draw : MethodName := ⟨RX3, "draw", "()I"⟩
abbrev cX3_takeAll : ByteArray := prog_5_method_6_code
def yX3_takeAll : MethodName := ⟨RX3, "takeAll", "(LParrotVow$State;)V"⟩
def RX4 : String := "ParrotVow$Voices"
def TX4 : u_T := fun k => match k with
  | 0 => ("ParrotVow$Voices", "trace", "LParrotVow$Row;", true)
  | 1 => ("ParrotVow$Voices", "parted", "Z", false)
  | 2 => ("ParrotVow$Voices", "k", "I", false)
  | 3 => ("ParrotVow$Voices", "kind", "I", false)
  | _ => ("ParrotVow$Voices", "m", "I", false)
def tyX4 : Nat → FieldType := fun k => match k with
  | 0 => .object "ParrotVow$Row"
  | 1 => .boolean
  | 2 => .int
  | 3 => .int
  | _ => .int
abbrev wsX40 : List Cond := u_ws RX4 TX4 5
theorem nmX4 : ∀ a, a < 5 → ∀ b, b < 5 → a ≠ b → (TX4 a).2.1 ≠ (TX4 b).2.1 := by decide +kernel
theorem tyX4_ok : ∀ k, k < 5 → parseFieldDescriptor (TX4 k).2.2.1 = some (tyX4 k) := by decide +kernel
abbrev cX4_init : ByteArray := prog_6_method_1_code
def yX4_init : MethodName := ⟨RX4, "<init>", "()V"⟩
abbrev cX4_hear : ByteArray := prog_6_method_2_code
def yX4_hear : MethodName := ⟨RX4, "hear", "(IIIII)I"⟩
abbrev cX4_speak : ByteArray := prog_6_method_3_code
def yX4_speak : MethodName := ⟨RX4, "speak", "(IIII)I"⟩
abbrev cX4_bodyOf : ByteArray := prog_6_method_4_code
def yX4_bodyOf : MethodName := ⟨RX4, "bodyOf", "(II)I"⟩
abbrev cX4_topmost : ByteArray := prog_6_method_5_code
def yX4_topmost : MethodName := ⟨RX4, "topmost", "(III)I"⟩
abbrev cX4_lower : ByteArray := prog_6_method_6_code
def yX4_lower : MethodName := ⟨RX4, "lower", "(IIII)I"⟩
def RX5 : String := "ParrotVow$Vows"
def TX5 : u_T := fun k => match k with
  | 0 => ("ParrotVow$Vows", "spread", "[I", true)
  | 1 => ("ParrotVow$Vows", "breakers", "[J", true)
  | 2 => ("ParrotVow$Vows", "fit", "[Z", true)
  | 3 => ("ParrotVow$Vows", "fitting", "I", false)
  | _ => ("ParrotVow$Vows", "counted", "[I", true)
def tyX5 : Nat → FieldType := fun k => match k with
  | 0 => .array .int
  | 1 => .array .long
  | 2 => .array .boolean
  | 3 => .int
  | _ => .array .int
abbrev wsX50 : List Cond := u_ws RX5 TX5 5
theorem nmX5 : ∀ a, a < 5 → ∀ b, b < 5 → a ≠ b → (TX5 a).2.1 ≠ (TX5 b).2.1 := by decide +kernel
theorem tyX5_ok : ∀ k, k < 5 → parseFieldDescriptor (TX5 k).2.2.1 = some (tyX5 k) := by decide +kernel
abbrev cX5_init : ByteArray := prog_7_method_1_code
def yX5_init : MethodName := ⟨RX5, "<init>", "()V"⟩
abbrev cX5_vowOf : ByteArray := prog_7_method_2_code
def yX5_vowOf : MethodName := ⟨RX5, "vowOf", "(II)I"⟩
abbrev cX5_breaks : ByteArray := prog_7_method_3_code
def yX5_breaks : MethodName := ⟨RX5, "breaks", "(II)Z"⟩
abbrev cX5_refit : ByteArray := prog_7_method_4_code
def yX5_refit : MethodName := ⟨RX5, "refit", "(LParrotVow$Row;)V"⟩
abbrev cX5_fitting : ByteArray := prog_7_method_5_code
def yX5_fitting : MethodName := ⟨RX5, "fitting", "()I"⟩
abbrev cX5_broken : ByteArray := prog_7_method_6_code
def yX5_broken : MethodName := ⟨RX5, "broken", "(I)I"⟩
abbrev cX5_countBroken : ByteArray := prog_7_method_7_code
def yX5_countBroken : MethodName := ⟨RX5, "countBroken", "(I)I"⟩
abbrev cX5_least : ByteArray := prog_7_method_8_code
def yX5_least : MethodName := ⟨RX5, "least", "()I"⟩
abbrev cX5_settled : ByteArray := prog_7_method_9_code
def yX5_settled : MethodName := ⟨RX5, "settled", "(I)I"⟩
abbrev cX5_simplest : ByteArray := prog_7_method_10_code
def yX5_simplest : MethodName := ⟨RX5, "simplest", "()I"⟩
abbrev cX5_toldBy : ByteArray := prog_7_method_11_code
def yX5_toldBy : MethodName := ⟨RX5, "toldBy", "(LParrotVow$Row;)J"⟩
abbrev cX5_fittingAs : ByteArray := prog_7_method_12_code
def yX5_fittingAs : MethodName := ⟨RX5, "fittingAs", "(LParrotVow$Row;)I"⟩
abbrev cX5_leastAs : ByteArray := prog_7_method_13_code
def yX5_leastAs : MethodName := ⟨RX5, "leastAs", "(LParrotVow$Row;)I"⟩
def RX6 : String := "ParrotVow$Worker"
def TX6 : u_T := fun k => match k with
  | _ => ("ParrotVow$Worker", "stack", "LParrotVow$Row;", true)
def tyX6 : Nat → FieldType := fun k => match k with
  | _ => .object "ParrotVow$Row"
abbrev wsX60 : List Cond := u_ws RX6 TX6 1
theorem nmX6 : ∀ a, a < 1 → ∀ b, b < 1 → a ≠ b → (TX6 a).2.1 ≠ (TX6 b).2.1 := by decide +kernel
theorem tyX6_ok : ∀ k, k < 1 → parseFieldDescriptor (TX6 k).2.2.1 = some (tyX6 k) := by decide +kernel
abbrev cX6_init : ByteArray := prog_8_method_1_code
def yX6_init : MethodName := ⟨RX6, "<init>", "()V"⟩
abbrev cX6_work : ByteArray := prog_8_method_2_code
def yX6_work : MethodName := ⟨RX6, "work", "(LParrotVow$Row;III)I"⟩
abbrev cX6_joined : ByteArray := prog_8_method_3_code
def yX6_joined : MethodName := ⟨RX6, "joined", "(III)I"⟩
abbrev cX6_isTrue : ByteArray := prog_8_method_4_code
def yX6_isTrue : MethodName := ⟨RX6, "isTrue", "(III)Z"⟩
def RX7 : String := "ParrotVow"
def TX7 : u_T := fun k => match k with
  | 0 => ("ParrotVow", "state", "LParrotVow$State;", true)
  | 1 => ("ParrotVow", "kept", "LParrotVow$State;", true)
  | 2 => ("ParrotVow", "hasImage", "Z", false)
  | 3 => ("ParrotVow", "imagesMade", "I", false)
  | 4 => ("ParrotVow", "known", "LParrotVow$Vows;", true)
  | 5 => ("ParrotVow", "reader", "LParrotVow$Reader;", true)
  | 6 => ("ParrotVow", "worker", "LParrotVow$Worker;", true)
  | 7 => ("ParrotVow", "choir", "LParrotVow$Voices;", true)
  | 8 => ("ParrotVow", "sheets", "[LParrotVow$Sheet;", true)
  | _ => ("ParrotVow", "errors", "[I", true)
def tyX7 : Nat → FieldType := fun k => match k with
  | 0 => .object "ParrotVow$State"
  | 1 => .object "ParrotVow$State"
  | 2 => .boolean
  | 3 => .int
  | 4 => .object "ParrotVow$Vows"
  | 5 => .object "ParrotVow$Reader"
  | 6 => .object "ParrotVow$Worker"
  | 7 => .object "ParrotVow$Voices"
  | 8 => .array (.object "ParrotVow$Sheet")
  | _ => .array .int
abbrev wsX70 : List Cond := u_ws RX7 TX7 10
theorem nmX7 : ∀ a, a < 10 → ∀ b, b < 10 → a ≠ b → (TX7 a).2.1 ≠ (TX7 b).2.1 := by decide +kernel
theorem tyX7_ok : ∀ k, k < 10 → parseFieldDescriptor (TX7 k).2.2.1 = some (tyX7 k) := by decide +kernel
abbrev cX7_init : ByteArray := prog_1_method_1_code
def yX7_init : MethodName := ⟨RX7, "<init>", "()V"⟩
abbrev cX7_brother : ByteArray := prog_1_method_2_code
def yX7_brother : MethodName := ⟨RX7, "brother", "(I)I"⟩
abbrev cX7_brotherIs : ByteArray := prog_1_method_3_code
def yX7_brotherIs : MethodName := ⟨RX7, "brotherIs", "(II)I"⟩
abbrev cX7_become : ByteArray := prog_1_method_4_code
def yX7_become : MethodName := ⟨RX7, "become", "(II)I"⟩
abbrev cX7_as : ByteArray := prog_1_method_5_code
def yX7_as : MethodName := ⟨RX7, "as", "(II)I"⟩
abbrev cX7_avoids : ByteArray := prog_1_method_6_code
def yX7_avoids : MethodName := ⟨RX7, "avoids", "(II)I"⟩
abbrev cX7_talk : ByteArray := prog_1_method_7_code
def yX7_talk : MethodName := ⟨RX7, "talk", "(II)I"⟩
abbrev cX7_vow : ByteArray := prog_1_method_8_code
def yX7_vow : MethodName := ⟨RX7, "vow", "(I)I"⟩
abbrev cX7_sign : ByteArray := prog_1_method_9_code
def yX7_sign : MethodName := ⟨RX7, "sign", "(II)I"⟩
abbrev cX7_forget : ByteArray := prog_1_method_10_code
def yX7_forget : MethodName := ⟨RX7, "forget", "(I)I"⟩
abbrev cX7_say : ByteArray := prog_1_method_11_code
def yX7_say : MethodName := ⟨RX7, "say", "(II)I"⟩
abbrev cX7_feed : ByteArray := prog_1_method_12_code
def yX7_feed : MethodName := ⟨RX7, "feed", "(JI)I"⟩
abbrev cX7_text : ByteArray := prog_1_method_13_code
def yX7_text : MethodName := ⟨RX7, "text", "(I)I"⟩
abbrev cX7_untell : ByteArray := prog_1_method_14_code
def yX7_untell : MethodName := ⟨RX7, "untell", "(I)I"⟩
abbrev cX7_law : ByteArray := prog_1_method_15_code
def yX7_law : MethodName := ⟨RX7, "law", "(IIII)I"⟩
abbrev cX7_loose : ByteArray := prog_1_method_16_code
def yX7_loose : MethodName := ⟨RX7, "loose", "(I)I"⟩
abbrev cX7_day : ByteArray := prog_1_method_17_code
def yX7_day : MethodName := ⟨RX7, "day", "(I)I"⟩
abbrev cX7_seed : ByteArray := prog_1_method_18_code
def yX7_seed : MethodName := ⟨RX7, "seed", "(I)I"⟩
abbrev cX7_vows : ByteArray := prog_1_method_19_code
def yX7_vows : MethodName := ⟨RX7, "vows", "(I)I"⟩
abbrev cX7_parts : ByteArray := prog_1_method_20_code
def yX7_parts : MethodName := ⟨RX7, "parts", "(I)I"⟩
abbrev cX7_sure : ByteArray := prog_1_method_21_code
def yX7_sure : MethodName := ⟨RX7, "sure", "(I)I"⟩
abbrev cX7_unsaid : ByteArray := prog_1_method_22_code
def yX7_unsaid : MethodName := ⟨RX7, "unsaid", "(I)J"⟩
abbrev cX7_freest : ByteArray := prog_1_method_23_code
def yX7_freest : MethodName := ⟨RX7, "freest", "(I)I"⟩
abbrev cX7_odds : ByteArray := prog_1_method_24_code
def yX7_odds : MethodName := ⟨RX7, "odds", "(II)I"⟩
abbrev cX7_fits : ByteArray := prog_1_method_25_code
def yX7_fits : MethodName := ⟨RX7, "fits", "(II)I"⟩
abbrev cX7_voice : ByteArray := prog_1_method_26_code
def yX7_voice : MethodName := ⟨RX7, "voice", "(III)I"⟩
abbrev cX7_body : ByteArray := prog_1_method_27_code
def yX7_body : MethodName := ⟨RX7, "body", "(I)I"⟩
abbrev cX7_sheet : ByteArray := prog_1_method_28_code
def yX7_sheet : MethodName := ⟨RX7, "sheet", "(III)I"⟩
abbrev cX7_put : ByteArray := prog_1_method_29_code
def yX7_put : MethodName := ⟨RX7, "put", "(III)I"⟩
abbrev cX7_move : ByteArray := prog_1_method_30_code
def yX7_move : MethodName := ⟨RX7, "move", "(IIIII)I"⟩
abbrev cX7_signs : ByteArray := prog_1_method_31_code
def yX7_signs : MethodName := ⟨RX7, "signs", "(I)I"⟩
abbrev cX7_judge : ByteArray := prog_1_method_32_code
def yX7_judge : MethodName := ⟨RX7, "judge", "(I)I"⟩
abbrev cX7_image : ByteArray := prog_1_method_33_code
def yX7_image : MethodName := ⟨RX7, "image", "()I"⟩
abbrev cX7_restore : ByteArray := prog_1_method_34_code
def yX7_restore : MethodName := ⟨RX7, "restore", "()I"⟩
abbrev cX7_tell : ByteArray := prog_1_method_35_code
def yX7_tell : MethodName := ⟨RX7, "tell", "(I)I"⟩
abbrev cX7_check : ByteArray := prog_1_method_36_code
def yX7_check : MethodName := ⟨RX7, "check", "()I"⟩
abbrev cX7_count : ByteArray := prog_1_method_37_code
def yX7_count : MethodName := ⟨RX7, "count", "(I)I"⟩
abbrev cX7_told : ByteArray := prog_1_method_38_code
def yX7_told : MethodName := ⟨RX7, "told", "(I)I"⟩
abbrev cX7_error : ByteArray := prog_1_method_39_code
def yX7_error : MethodName := ⟨RX7, "error", "(I)I"⟩
abbrev cX7_within : ByteArray := prog_1_method_40_code
def yX7_within : MethodName := ⟨RX7, "within", "(III)Z"⟩
abbrev cX7_held : ByteArray := prog_1_method_41_code
def yX7_held : MethodName := ⟨RX7, "held", "(III)I"⟩
abbrev cX7_isSaying : ByteArray := prog_1_method_42_code
def yX7_isSaying : MethodName := ⟨RX7, "isSaying", "(I)Z"⟩
abbrev cX7_isKindAndNumber : ByteArray := prog_1_method_43_code
def yX7_isKindAndNumber : MethodName := ⟨RX7, "isKindAndNumber", "(I)Z"⟩
abbrev cX7_isWidth : ByteArray := prog_1_method_44_code
def yX7_isWidth : MethodName := ⟨RX7, "isWidth", "(I)Z"⟩
abbrev cX7_isBrother : ByteArray := prog_1_method_45_code
def yX7_isBrother : MethodName := ⟨RX7, "isBrother", "(I)Z"⟩
abbrev cX7_sheetOf : ByteArray := prog_1_method_46_code
def yX7_sheetOf : MethodName := ⟨RX7, "sheetOf", "(I)LParrotVow$Sheet;"⟩
abbrev cX7_kindAbove : ByteArray := prog_1_method_47_code
def yX7_kindAbove : MethodName := ⟨RX7, "kindAbove", "(I)I"⟩
abbrev cX7_isUnder : ByteArray := prog_1_method_48_code
def yX7_isUnder : MethodName := ⟨RX7, "isUnder", "(II)Z"⟩
abbrev cX7_commonDivisor : ByteArray := prog_1_method_49_code
def yX7_commonDivisor : MethodName := ⟨RX7, "commonDivisor", "(II)I"⟩
abbrev cX7_shuns : ByteArray := prog_1_method_50_code
def yX7_shuns : MethodName := ⟨RX7, "shuns", "(II)Z"⟩
abbrev cX7_tells : ByteArray := prog_1_method_51_code
def yX7_tells : MethodName := ⟨RX7, "tells", "(II)I"⟩
abbrev cX7_isAvoided : ByteArray := prog_1_method_52_code
def yX7_isAvoided : MethodName := ⟨RX7, "isAvoided", "(II)Z"⟩
abbrev cX7_talkOf : ByteArray := prog_1_method_53_code
def yX7_talkOf : MethodName := ⟨RX7, "talkOf", "(II)I"⟩
abbrev cX7_given : ByteArray := prog_1_method_54_code
def yX7_given : MethodName := ⟨RX7, "given", "(IIII)I"⟩
abbrev cX7_avoided : ByteArray := prog_1_method_55_code
def yX7_avoided : MethodName := ⟨RX7, "avoided", "(I)J"⟩
abbrev cX7_freedom : ByteArray := prog_1_method_56_code
def yX7_freedom : MethodName := ⟨RX7, "freedom", "(I)I"⟩
abbrev cX7_lesserPart : ByteArray := prog_1_method_57_code
def yX7_lesserPart : MethodName := ⟨RX7, "lesserPart", "(I)I"⟩
abbrev cX7_says : ByteArray := prog_1_method_58_code
def yX7_says : MethodName := ⟨RX7, "says", "(IIZ)I"⟩
abbrev cX7_looseDay : ByteArray := prog_1_method_59_code
def yX7_looseDay : MethodName := ⟨RX7, "looseDay", "()I"⟩
def RX8 : String := "ParrotVowModel"
def TX8 : u_T := fun k => match k with
  | 0 => ("ParrotVowModel", "row", "[I", true)
  | 1 => ("ParrotVowModel", "kept", "[I", true)
  | 2 => ("ParrotVowModel", "images", "I", false)
  | 3 => ("ParrotVowModel", "errors", "[I", true)
  | 4 => ("ParrotVowModel", "bitsOf", "[I", true)
  | 5 => ("ParrotVowModel", "sizeOf", "[I", true)
  | 6 => ("ParrotVowModel", "cells", "[I", true)
  | 7 => ("ParrotVowModel", "broken", "[J", true)
  | 8 => ("ParrotVowModel", "isFit", "[Z", true)
  | 9 => ("ParrotVowModel", "breaks", "[I", true)
  | 10 => ("ParrotVowModel", "fitting", "I", false)
  | 11 => ("ParrotVowModel", "isKnown", "Z", false)
  | 12 => ("ParrotVowModel", "act", "[I", true)
  | 13 => ("ParrotVowModel", "with", "[I", true)
  | 14 => ("ParrotVowModel", "facts", "[I", true)
  | 15 => ("ParrotVowModel", "pile", "[I", true)
  | 16 => ("ParrotVowModel", "laid", "I", false)
  | 17 => ("ParrotVowModel", "here", "I", false)
  | 18 => ("ParrotVowModel", "opened", "I", false)
  | 19 => ("ParrotVowModel", "bad", "Z", false)
  | 20 => ("ParrotVowModel", "using", "I", false)
  | 21 => ("ParrotVowModel", "trace", "[I", true)
  | 22 => ("ParrotVowModel", "traced", "I", false)
  | _ => ("ParrotVowModel", "isParted", "Z", false)
def tyX8 : Nat → FieldType := fun k => match k with
  | 0 => .array .int
  | 1 => .array .int
  | 2 => .int
  | 3 => .array .int
  | 4 => .array .int
  | 5 => .array .int
  | 6 => .array .int
  | 7 => .array .long
  | 8 => .array .boolean
  | 9 => .array .int
  | 10 => .int
  | 11 => .boolean
  | 12 => .array .int
  | 13 => .array .int
  | 14 => .array .int
  | 15 => .array .int
  | 16 => .int
  | 17 => .int
  | 18 => .int
  | 19 => .boolean
  | 20 => .int
  | 21 => .array .int
  | 22 => .int
  | _ => .boolean
abbrev wsX80 : List Cond := u_ws RX8 TX8 24
theorem nmX8 : ∀ a, a < 24 → ∀ b, b < 24 → a ≠ b → (TX8 a).2.1 ≠ (TX8 b).2.1 := by decide +kernel
theorem tyX8_ok : ∀ k, k < 24 → parseFieldDescriptor (TX8 k).2.2.1 = some (tyX8 k) := by decide +kernel
abbrev cX8_init : ByteArray := prog_10_method_1_code
def yX8_init : MethodName := ⟨RX8, "<init>", "()V"⟩
abbrev cX8_isBroken : ByteArray := prog_10_method_2_code
def yX8_isBroken : MethodName := ⟨RX8, "isBroken", "(II)Z"⟩
abbrev cX8_error : ByteArray := prog_10_method_3_code
def yX8_error : MethodName := ⟨RX8, "error", "(I)I"⟩
abbrev cX8_in : ByteArray := prog_10_method_4_code
def yX8_in : MethodName := ⟨RX8, "in", "(III)Z"⟩
abbrev cX8_held : ByteArray := prog_10_method_5_code
def yX8_held : MethodName := ⟨RX8, "held", "(III)I"⟩
abbrev cX8_copyAll : ByteArray := prog_10_method_6_code
def yX8_copyAll : MethodName := ⟨RX8, "copyAll", "([I[I)V"⟩
abbrev cX8_bits : ByteArray := prog_10_method_7_code
def yX8_bits : MethodName := ⟨RX8, "bits", "(J)I"⟩
abbrev cX8_isBrother : ByteArray := prog_10_method_8_code
def yX8_isBrother : MethodName := ⟨RX8, "isBrother", "(I)Z"⟩
abbrev cX8_isSaying : ByteArray := prog_10_method_9_code
def yX8_isSaying : MethodName := ⟨RX8, "isSaying", "(I)Z"⟩
abbrev cX8_becomes : ByteArray := prog_10_method_10_code
def yX8_becomes : MethodName := ⟨RX8, "becomes", "(II)I"⟩
abbrev cX8_of : ByteArray := prog_10_method_11_code
def yX8_of : MethodName := ⟨RX8, "of", "(II)I"⟩
abbrev cX8_doesBreak : ByteArray := prog_10_method_12_code
def yX8_doesBreak : MethodName := ⟨RX8, "doesBreak", "(II)Z"⟩
abbrev cX8_doesFit : ByteArray := prog_10_method_13_code
def yX8_doesFit : MethodName := ⟨RX8, "doesFit", "(I)Z"⟩
abbrev cX8_findVows : ByteArray := prog_10_method_14_code
def yX8_findVows : MethodName := ⟨RX8, "findVows", "()V"⟩
abbrev cX8_fittingNow : ByteArray := prog_10_method_15_code
def yX8_fittingNow : MethodName := ⟨RX8, "fittingNow", "()I"⟩
abbrev cX8_breaksBy : ByteArray := prog_10_method_16_code
def yX8_breaksBy : MethodName := ⟨RX8, "breaksBy", "(I)I"⟩
abbrev cX8_comes : ByteArray := prog_10_method_17_code
def yX8_comes : MethodName := ⟨RX8, "comes", "(II)V"⟩
abbrev cX8_doesShun : ByteArray := prog_10_method_18_code
def yX8_doesShun : MethodName := ⟨RX8, "doesShun", "(II)Z"⟩
abbrev cX8_tellsOf : ByteArray := prog_10_method_19_code
def yX8_tellsOf : MethodName := ⟨RX8, "tellsOf", "(II)I"⟩
abbrev cX8_doesAvoid : ByteArray := prog_10_method_20_code
def yX8_doesAvoid : MethodName := ⟨RX8, "doesAvoid", "(II)Z"⟩
abbrev cX8_talkOf : ByteArray := prog_10_method_21_code
def yX8_talkOf : MethodName := ⟨RX8, "talkOf", "(II)I"⟩
abbrev cX8_isKm : ByteArray := prog_10_method_22_code
def yX8_isKm : MethodName := ⟨RX8, "isKm", "(I)Z"⟩
abbrev cX8_brother : ByteArray := prog_10_method_23_code
def yX8_brother : MethodName := ⟨RX8, "brother", "(I)I"⟩
abbrev cX8_avoided : ByteArray := prog_10_method_24_code
def yX8_avoided : MethodName := ⟨RX8, "avoided", "(I)I"⟩
abbrev cX8_brotherIs : ByteArray := prog_10_method_25_code
def yX8_brotherIs : MethodName := ⟨RX8, "brotherIs", "(II)I"⟩
abbrev cX8_become : ByteArray := prog_10_method_26_code
def yX8_become : MethodName := ⟨RX8, "become", "(II)I"⟩
abbrev cX8_as : ByteArray := prog_10_method_27_code
def yX8_as : MethodName := ⟨RX8, "as", "(II)I"⟩
abbrev cX8_avoids : ByteArray := prog_10_method_28_code
def yX8_avoids : MethodName := ⟨RX8, "avoids", "(II)I"⟩
abbrev cX8_talk : ByteArray := prog_10_method_29_code
def yX8_talk : MethodName := ⟨RX8, "talk", "(II)I"⟩
abbrev cX8_vow : ByteArray := prog_10_method_30_code
def yX8_vow : MethodName := ⟨RX8, "vow", "(I)I"⟩
abbrev cX8_sign : ByteArray := prog_10_method_31_code
def yX8_sign : MethodName := ⟨RX8, "sign", "(II)I"⟩
abbrev cX8_forget : ByteArray := prog_10_method_32_code
def yX8_forget : MethodName := ⟨RX8, "forget", "(I)I"⟩
abbrev cX8_says : ByteArray := prog_10_method_33_code
def yX8_says : MethodName := ⟨RX8, "says", "(IIZ)I"⟩
abbrev cX8_say : ByteArray := prog_10_method_34_code
def yX8_say : MethodName := ⟨RX8, "say", "(II)I"⟩
abbrev cX8_feed : ByteArray := prog_10_method_35_code
def yX8_feed : MethodName := ⟨RX8, "feed", "(JI)I"⟩
abbrev cX8_look : ByteArray := prog_10_method_36_code
def yX8_look : MethodName := ⟨RX8, "look", "()I"⟩
abbrev cX8_lays : ByteArray := prog_10_method_37_code
def yX8_lays : MethodName := ⟨RX8, "lays", "(II)V"⟩
abbrev cX8_nameOf : ByteArray := prog_10_method_38_code
def yX8_nameOf : MethodName := ⟨RX8, "nameOf", "(I)I"⟩
abbrev cX8_number : ByteArray := prog_10_method_39_code
def yX8_number : MethodName := ⟨RX8, "number", "()V"⟩
abbrev cX8_opens : ByteArray := prog_10_method_40_code
def yX8_opens : MethodName := ⟨RX8, "opens", "(I)V"⟩
abbrev cX8_one : ByteArray := prog_10_method_41_code
def yX8_one : MethodName := ⟨RX8, "one", "()V"⟩
abbrev cX8_times : ByteArray := prog_10_method_42_code
def yX8_times : MethodName := ⟨RX8, "times", "()V"⟩
abbrev cX8_sum : ByteArray := prog_10_method_43_code
def yX8_sum : MethodName := ⟨RX8, "sum", "()V"⟩
abbrev cX8_compares : ByteArray := prog_10_method_44_code
def yX8_compares : MethodName := ⟨RX8, "compares", "()V"⟩
abbrev cX8_all : ByteArray := prog_10_method_45_code
def yX8_all : MethodName := ⟨RX8, "all", "()V"⟩
abbrev cX8_any : ByteArray := prog_10_method_46_code
def yX8_any : MethodName := ⟨RX8, "any", "()V"⟩
abbrev cX8_text : ByteArray := prog_10_method_47_code
def yX8_text : MethodName := ⟨RX8, "text", "(I)I"⟩
abbrev cX8_untell : ByteArray := prog_10_method_48_code
def yX8_untell : MethodName := ⟨RX8, "untell", "(I)I"⟩
abbrev cX8_twoOf : ByteArray := prog_10_method_49_code
def yX8_twoOf : MethodName := ⟨RX8, "twoOf", "(III)I"⟩
abbrev cX8_works : ByteArray := prog_10_method_50_code
def yX8_works : MethodName := ⟨RX8, "works", "(I)I"⟩
abbrev cX8_gives : ByteArray := prog_10_method_51_code
def yX8_gives : MethodName := ⟨RX8, "gives", "(IIII)I"⟩
abbrev cX8_law : ByteArray := prog_10_method_52_code
def yX8_law : MethodName := ⟨RX8, "law", "(IIII)I"⟩
abbrev cX8_draw : ByteArray := prog_10_method_53_code
def yX8_draw : MethodName := ⟨RX8, "draw", "()I"⟩
abbrev cX8_drawn : ByteArray := prog_10_method_54_code
def yX8_drawn : MethodName := ⟨RX8, "drawn", "()I"⟩
abbrev cX8_loose : ByteArray := prog_10_method_55_code
def yX8_loose : MethodName := ⟨RX8, "loose", "(I)I"⟩
abbrev cX8_day : ByteArray := prog_10_method_56_code
def yX8_day : MethodName := ⟨RX8, "day", "(I)I"⟩
abbrev cX8_seed : ByteArray := prog_10_method_57_code
def yX8_seed : MethodName := ⟨RX8, "seed", "(I)I"⟩
abbrev cX8_figuresOf : ByteArray := prog_10_method_58_code
def yX8_figuresOf : MethodName := ⟨RX8, "figuresOf", "(I)I"⟩
abbrev cX8_vows : ByteArray := prog_10_method_59_code
def yX8_vows : MethodName := ⟨RX8, "vows", "(I)I"⟩
abbrev cX8_lesserOf : ByteArray := prog_10_method_60_code
def yX8_lesserOf : MethodName := ⟨RX8, "lesserOf", "(I)I"⟩
abbrev cX8_parts : ByteArray := prog_10_method_61_code
def yX8_parts : MethodName := ⟨RX8, "parts", "(I)I"⟩
abbrev cX8_sure : ByteArray := prog_10_method_62_code
def yX8_sure : MethodName := ⟨RX8, "sure", "(I)I"⟩
abbrev cX8_unsaid : ByteArray := prog_10_method_63_code
def yX8_unsaid : MethodName := ⟨RX8, "unsaid", "(I)J"⟩
abbrev cX8_freedomOf : ByteArray := prog_10_method_64_code
def yX8_freedomOf : MethodName := ⟨RX8, "freedomOf", "(I)I"⟩
abbrev cX8_freest : ByteArray := prog_10_method_65_code
def yX8_freest : MethodName := ⟨RX8, "freest", "(I)I"⟩
abbrev cX8_odds : ByteArray := prog_10_method_66_code
def yX8_odds : MethodName := ⟨RX8, "odds", "(II)I"⟩
abbrev cX8_isSo : ByteArray := prog_10_method_67_code
def yX8_isSo : MethodName := ⟨RX8, "isSo", "(II)Z"⟩
abbrev cX8_fits : ByteArray := prog_10_method_68_code
def yX8_fits : MethodName := ⟨RX8, "fits", "(II)I"⟩
abbrev cX8_begins : ByteArray := prog_10_method_69_code
def yX8_begins : MethodName := ⟨RX8, "begins", "(I)V"⟩
abbrev cX8_plainCoughs : ByteArray := prog_10_method_70_code
def yX8_plainCoughs : MethodName := ⟨RX8, "plainCoughs", "(II)I"⟩
abbrev cX8_carefulCoughs : ByteArray := prog_10_method_71_code
def yX8_carefulCoughs : MethodName := ⟨RX8, "carefulCoughs", "(II)I"⟩
abbrev cX8_coughs : ByteArray := prog_10_method_72_code
def yX8_coughs : MethodName := ⟨RX8, "coughs", "(II)I"⟩
abbrev cX8_plainTalks : ByteArray := prog_10_method_73_code
def yX8_plainTalks : MethodName := ⟨RX8, "plainTalks", "(II)I"⟩
abbrev cX8_boldTalks : ByteArray := prog_10_method_74_code
def yX8_boldTalks : MethodName := ⟨RX8, "boldTalks", "(II)I"⟩
abbrev cX8_talks : ByteArray := prog_10_method_75_code
def yX8_talks : MethodName := ⟨RX8, "talks", "(II)I"⟩
abbrev cX8_plainHushes : ByteArray := prog_10_method_76_code
def yX8_plainHushes : MethodName := ⟨RX8, "plainHushes", "(II)I"⟩
abbrev cX8_hushes : ByteArray := prog_10_method_77_code
def yX8_hushes : MethodName := ⟨RX8, "hushes", "(II)I"⟩
abbrev cX8_plainParts : ByteArray := prog_10_method_78_code
def yX8_plainParts : MethodName := ⟨RX8, "plainParts", "(II)I"⟩
abbrev cX8_partsBy : ByteArray := prog_10_method_79_code
def yX8_partsBy : MethodName := ⟨RX8, "partsBy", "(II)I"⟩
abbrev cX8_voice : ByteArray := prog_10_method_80_code
def yX8_voice : MethodName := ⟨RX8, "voice", "(III)I"⟩
abbrev cX8_body : ByteArray := prog_10_method_81_code
def yX8_body : MethodName := ⟨RX8, "body", "(I)I"⟩
abbrev cX8_isSheet : ByteArray := prog_10_method_82_code
def yX8_isSheet : MethodName := ⟨RX8, "isSheet", "(I)Z"⟩
abbrev cX8_sheet : ByteArray := prog_10_method_83_code
def yX8_sheet : MethodName := ⟨RX8, "sheet", "(III)I"⟩
abbrev cX8_notThere : ByteArray := prog_10_method_84_code
def yX8_notThere : MethodName := ⟨RX8, "notThere", "(I)I"⟩
abbrev cX8_put : ByteArray := prog_10_method_85_code
def yX8_put : MethodName := ⟨RX8, "put", "(III)I"⟩
abbrev cX8_notMoved : ByteArray := prog_10_method_86_code
def yX8_notMoved : MethodName := ⟨RX8, "notMoved", "(IIIII)I"⟩
abbrev cX8_move : ByteArray := prog_10_method_87_code
def yX8_move : MethodName := ⟨RX8, "move", "(IIIII)I"⟩
abbrev cX8_signs : ByteArray := prog_10_method_88_code
def yX8_signs : MethodName := ⟨RX8, "signs", "(I)I"⟩
abbrev cX8_judge : ByteArray := prog_10_method_89_code
def yX8_judge : MethodName := ⟨RX8, "judge", "(I)I"⟩
abbrev cX8_image : ByteArray := prog_10_method_90_code
def yX8_image : MethodName := ⟨RX8, "image", "()I"⟩
abbrev cX8_restore : ByteArray := prog_10_method_91_code
def yX8_restore : MethodName := ⟨RX8, "restore", "()I"⟩
abbrev cX8_tell : ByteArray := prog_10_method_92_code
def yX8_tell : MethodName := ⟨RX8, "tell", "(I)I"⟩
abbrev cX8_check : ByteArray := prog_10_method_93_code
def yX8_check : MethodName := ⟨RX8, "check", "()I"⟩
abbrev cX8_count : ByteArray := prog_10_method_94_code
def yX8_count : MethodName := ⟨RX8, "count", "(I)I"⟩
abbrev cX8_told : ByteArray := prog_10_method_95_code
def yX8_told : MethodName := ⟨RX8, "told", "(I)I"⟩
def RJ11 : String := "java/lang/Character"
def TJ11 : u_T := fun k => match k with
  | _ => ("", "", "", false)
def tyJ11 : Nat → FieldType := fun k => match k with
  | _ => .int
abbrev wsJ110 : List Cond := u_ws RJ11 TJ11 0
theorem nmJ11 : ∀ a, a < 0 → ∀ b, b < 0 → a ≠ b → (TJ11 a).2.1 ≠ (TJ11 b).2.1 := by decide +kernel
theorem tyJ11_ok : ∀ k, k < 0 → parseFieldDescriptor (TJ11 k).2.2.1 = some (tyJ11 k) := by decide +kernel
abbrev cJ11_isValidCodePoint_9a6ad : ByteArray := prog_11_method_11_code
def yJ11_isValidCodePoint_9a6ad : MethodName := ⟨RJ11, "isValidCodePoint", "(I)Z"⟩
abbrev cJ11_highSurrogate_5068e : ByteArray := prog_11_method_28_code
def yJ11_highSurrogate_5068e : MethodName := ⟨RJ11, "highSurrogate", "(I)C"⟩
abbrev cJ11_lowSurrogate_5068e : ByteArray := prog_11_method_29_code
def yJ11_lowSurrogate_5068e : MethodName := ⟨RJ11, "lowSurrogate", "(I)C"⟩
def RJ6 : String := "java/lang/Integer"
def TJ6 : u_T := fun k => match k with
  | _ => ("", "", "", false)
def tyJ6 : Nat → FieldType := fun k => match k with
  | _ => .int
abbrev wsJ60 : List Cond := u_ws RJ6 TJ6 0
theorem nmJ6 : ∀ a, a < 0 → ∀ b, b < 0 → a ≠ b → (TJ6 a).2.1 ≠ (TJ6 b).2.1 := by decide +kernel
theorem tyJ6_ok : ∀ k, k < 0 → parseFieldDescriptor (TJ6 k).2.2.1 = some (tyJ6 k) := by decide +kernel
abbrev cJ6_bitCount_0f7a4 : ByteArray := prog_12_method_49_code
def yJ6_bitCount_0f7a4 : MethodName := ⟨RJ6, "bitCount", "(I)I"⟩
def RJ13 : String := "java/lang/Long"
def TJ13 : u_T := fun k => match k with
  | _ => ("", "", "", false)
def tyJ13 : Nat → FieldType := fun k => match k with
  | _ => .int
abbrev wsJ130 : List Cond := u_ws RJ13 TJ13 0
theorem nmJ13 : ∀ a, a < 0 → ∀ b, b < 0 → a ≠ b → (TJ13 a).2.1 ≠ (TJ13 b).2.1 := by decide +kernel
theorem tyJ13_ok : ∀ k, k < 0 → parseFieldDescriptor (TJ13 k).2.2.1 = some (tyJ13 k) := by decide +kernel
abbrev cJ13_bitCount_95d88 : ByteArray := prog_13_method_50_code
def yJ13_bitCount_95d88 : MethodName := ⟨RJ13, "bitCount", "(J)I"⟩
def RJ9 : String := "java/lang/Math"
def TJ9 : u_T := fun k => match k with
  | _ => ("", "", "", false)
def tyJ9 : Nat → FieldType := fun k => match k with
  | _ => .int
abbrev wsJ90 : List Cond := u_ws RJ9 TJ9 0
theorem nmJ9 : ∀ a, a < 0 → ∀ b, b < 0 → a ≠ b → (TJ9 a).2.1 ≠ (TJ9 b).2.1 := by decide +kernel
theorem tyJ9_ok : ∀ k, k < 0 → parseFieldDescriptor (TJ9 k).2.2.1 = some (tyJ9 k) := by decide +kernel
abbrev cJ9_max_7cf53 : ByteArray := prog_14_method_65_code
def yJ9_max_7cf53 : MethodName := ⟨RJ9, "max", "(II)I"⟩
abbrev cJ9_min_7cf53 : ByteArray := prog_14_method_69_code
def yJ9_min_7cf53 : MethodName := ⟨RJ9, "min", "(II)I"⟩
def RJ0 : String := "java/lang/String"
def TJ0 : u_T := fun k => match k with
  | _ => ("", "", "", false)
def tyJ0 : Nat → FieldType := fun k => match k with
  | _ => .int
abbrev wsJ00 : List Cond := u_ws RJ0 TJ0 0
theorem nmJ0 : ∀ a, a < 0 → ∀ b, b < 0 → a ≠ b → (TJ0 a).2.1 ≠ (TJ0 b).2.1 := by decide +kernel
theorem tyJ0_ok : ∀ k, k < 0 → parseFieldDescriptor (TJ0 k).2.2.1 = some (tyJ0 k) := by decide +kernel
abbrev cJ0_length_8abf5 : ByteArray := prog_15_method_54_code
def yJ0_length_8abf5 : MethodName := ⟨RJ0, "length", "()I"⟩
abbrev cJ0_charAt_5068e : ByteArray := prog_15_method_56_code
def yJ0_charAt_5068e : MethodName := ⟨RJ0, "charAt", "(I)C"⟩
abbrev cJ0_indexOf_0f7a4 : ByteArray := prog_15_method_79_code
def yJ0_indexOf_0f7a4 : MethodName := ⟨RJ0, "indexOf", "(I)I"⟩
abbrev cJ0_indexOf_7cf53 : ByteArray := prog_15_method_80_code
def yJ0_indexOf_7cf53 : MethodName := ⟨RJ0, "indexOf", "(II)I"⟩
abbrev cJ0_coder_7d493 : ByteArray := prog_15_method_152_code
def yJ0_coder_7d493 : MethodName := ⟨RJ0, "coder", "()B"⟩
abbrev cJ0_isLatin1_aae02 : ByteArray := prog_15_method_154_code
def yJ0_isLatin1_aae02 : MethodName := ⟨RJ0, "isLatin1", "()Z"⟩
abbrev cJ0_checkIndex_df160 : ByteArray := prog_15_method_155_code
def yJ0_checkIndex_df160 : MethodName := ⟨RJ0, "checkIndex", "(II)V"⟩
abbrev cJ0_checkBoundsBeginEnd_23922 : ByteArray := prog_15_method_158_code
def yJ0_checkBoundsBeginEnd_23922 : MethodName := ⟨RJ0, "checkBoundsBeginEnd", "(III)V"⟩
def RJ1 : String := "java/lang/StringLatin1"
def TJ1 : u_T := fun k => match k with
  | _ => ("", "", "", false)
def tyJ1 : Nat → FieldType := fun k => match k with
  | _ => .int
abbrev wsJ10 : List Cond := u_ws RJ1 TJ1 0
theorem nmJ1 : ∀ a, a < 0 → ∀ b, b < 0 → a ≠ b → (TJ1 a).2.1 ≠ (TJ1 b).2.1 := by decide +kernel
theorem tyJ1_ok : ∀ k, k < 0 → parseFieldDescriptor (TJ1 k).2.2.1 = some (tyJ1 k) := by decide +kernel
abbrev cJ1_charAt_3b067 : ByteArray := prog_16_method_2_code
def yJ1_charAt_3b067 : MethodName := ⟨RJ1, "charAt", "([BI)C"⟩
abbrev cJ1_canEncode_9a6ad : ByteArray := prog_16_method_4_code
def yJ1_canEncode_9a6ad : MethodName := ⟨RJ1, "canEncode", "(I)Z"⟩
abbrev cJ1_indexOf_4cfef : ByteArray := prog_16_method_22_code
def yJ1_indexOf_4cfef : MethodName := ⟨RJ1, "indexOf", "([BIII)I"⟩
abbrev cJ1_indexOfChar_4cfef : ByteArray := prog_16_method_23_code
def yJ1_indexOfChar_4cfef : MethodName := ⟨RJ1, "indexOfChar", "([BIII)I"⟩
def RJ2 : String := "java/lang/StringUTF16"
def TJ2 : u_T := fun k => match k with
  | _ => ("", "", "", false)
def tyJ2 : Nat → FieldType := fun k => match k with
  | _ => .int
abbrev wsJ20 : List Cond := u_ws RJ2 TJ2 0
theorem nmJ2 : ∀ a, a < 0 → ∀ b, b < 0 → a ≠ b → (TJ2 a).2.1 ≠ (TJ2 b).2.1 := by decide +kernel
theorem tyJ2_ok : ∀ k, k < 0 → parseFieldDescriptor (TJ2 k).2.2.1 = some (tyJ2 k) := by decide +kernel
abbrev cJ2_getChar_3b067 : ByteArray := prog_17_method_5_code
def yJ2_getChar_3b067 : MethodName := ⟨RJ2, "getChar", "([BI)C"⟩
abbrev cJ2_length_9d52b : ByteArray := prog_17_method_6_code
def yJ2_length_9d52b : MethodName := ⟨RJ2, "length", "([B)I"⟩
abbrev cJ2_indexOf_4cfef : ByteArray := prog_17_method_40_code
def yJ2_indexOf_4cfef : MethodName := ⟨RJ2, "indexOf", "([BIII)I"⟩
abbrev cJ2_indexOfChar_4cfef : ByteArray := prog_17_method_47_code
def yJ2_indexOfChar_4cfef : MethodName := ⟨RJ2, "indexOfChar", "([BIII)I"⟩
abbrev cJ2_indexOfCharUnsafe_4cfef : ByteArray := prog_17_method_48_code
def yJ2_indexOfCharUnsafe_4cfef : MethodName := ⟨RJ2, "indexOfCharUnsafe", "([BIII)I"⟩
abbrev cJ2_indexOfSupplementary_4cfef : ByteArray := prog_17_method_49_code
def yJ2_indexOfSupplementary_4cfef : MethodName := ⟨RJ2, "indexOfSupplementary", "([BIII)I"⟩
abbrev cJ2_charAt_3b067 : ByteArray := prog_17_method_83_code
def yJ2_charAt_3b067 : MethodName := ⟨RJ2, "charAt", "([BI)C"⟩
abbrev cJ2_checkIndex_2214a : ByteArray := prog_17_method_91_code
def yJ2_checkIndex_2214a : MethodName := ⟨RJ2, "checkIndex", "(I[B)V"⟩
abbrev cJ2_checkBoundsBeginEnd_d044e : ByteArray := prog_17_method_93_code
def yJ2_checkBoundsBeginEnd_d044e : MethodName := ⟨RJ2, "checkBoundsBeginEnd", "(II[B)V"⟩
def RJ10 : String := "java/lang/System"
def TJ10 : u_T := fun k => match k with
  | _ => ("", "", "", false)
def tyJ10 : Nat → FieldType := fun k => match k with
  | _ => .int
abbrev wsJ100 : List Cond := u_ws RJ10 TJ10 0
theorem nmJ10 : ∀ a, a < 0 → ∀ b, b < 0 → a ≠ b → (TJ10 a).2.1 ≠ (TJ10 b).2.1 := by decide +kernel
theorem tyJ10_ok : ∀ k, k < 0 → parseFieldDescriptor (TJ10 k).2.2.1 = some (tyJ10 k) := by decide +kernel
def RJ3 : String := "jdk/internal/util/Preconditions"
def TJ3 : u_T := fun k => match k with
  | _ => ("", "", "", false)
def tyJ3 : Nat → FieldType := fun k => match k with
  | _ => .int
abbrev wsJ30 : List Cond := u_ws RJ3 TJ3 0
theorem nmJ3 : ∀ a, a < 0 → ∀ b, b < 0 → a ≠ b → (TJ3 a).2.1 ≠ (TJ3 b).2.1 := by decide +kernel
theorem tyJ3_ok : ∀ k, k < 0 → parseFieldDescriptor (TJ3 k).2.2.1 = some (tyJ3 k) := by decide +kernel
abbrev cJ3_checkIndex_8e157 : ByteArray := prog_19_method_11_code
def yJ3_checkIndex_8e157 : MethodName := ⟨RJ3, "checkIndex", "(IILjava/util/function/BiFunction;)I"⟩
abbrev cJ3_checkFromToIndex_8c36e : ByteArray := prog_19_method_12_code
def yJ3_checkFromToIndex_8c36e : MethodName := ⟨RJ3, "checkFromToIndex", "(IIILjava/util/function/BiFunction;)I"⟩
def RL : String := "ParrotVowLaw"
abbrev cL_law : ByteArray := code
def yL_law : MethodName := ⟨RL, "law", "([I)Z"⟩
abbrev vwCl : List vw_C := [(RX0, TX0, 5), (RX1, TX1, 2), (RX2, TX2, 2), (RX3, TX3, 12), (RX4, TX4, 5), (RX5, TX5, 5), (RX6, TX6, 1), (RX7, TX7, 10), (RX8, TX8, 24)]
def xT0 : List Cond := [Cond.classLink RL 7 RX7, Cond.instantiable RX7 10, Cond.initialized RX7, Cond.classLink RL 10 RX8, Cond.instantiable RX8 24, Cond.initialized RX8, Cond.constantLong RL 55 (4294967295), Cond.methodLink RL 9 yX7_init, Cond.instanceMethod yX7_init, Cond.code yX7_init cX7_init 2 none, Cond.methodLink RX7 1 objectInit, Cond.instanceMethod objectInit, Cond.code objectInit ⟨#[0xb1]⟩ 1 none, Cond.classLink RX7 7 RX3, Cond.instantiable RX3 12, Cond.initialized RX3, Cond.fieldLink RX7 10 "ParrotVow" "state" "LParrotVow$State;", Cond.fieldLink RX7 16 "ParrotVow" "kept" "LParrotVow$State;", Cond.fieldLink RX7 19 "ParrotVow" "hasImage" "Z", Cond.fieldLink RX7 23 "ParrotVow" "imagesMade" "I", Cond.classLink RX7 27 RX5, Cond.instantiable RX5 5, Cond.initialized RX5, Cond.fieldLink RX7 30 "ParrotVow" "known" "LParrotVow$Vows;"]
def xT1 : List Cond := [Cond.classLink RX7 34 RX0, Cond.instantiable RX0 5, Cond.initialized RX0, Cond.fieldLink RX7 36 "ParrotVow$State" "tape" "LParrotVow$Row;", Cond.fieldLink RX7 43 "ParrotVow" "reader" "LParrotVow$Reader;", Cond.classLink RX7 47 RX6, Cond.instantiable RX6 1, Cond.initialized RX6, Cond.fieldLink RX7 50 "ParrotVow" "worker" "LParrotVow$Worker;", Cond.classLink RX7 54 RX4, Cond.instantiable RX4 5, Cond.initialized RX4, Cond.fieldLink RX7 57 "ParrotVow" "choir" "LParrotVow$Voices;", Cond.classLink RX7 61 RX2, Cond.fieldLink RX7 63 "ParrotVow" "sheets" "[LParrotVow$Sheet;", Cond.arrayClass .int, Cond.fieldLink RX7 67 "ParrotVow" "errors" "[I", Cond.instantiable RX2 2, Cond.initialized RX2, Cond.fieldLink RX7 72 "ParrotVow$State" "signs" "LParrotVow$Row;", Cond.instanceMethod yX3_init, Cond.code yX3_init cX3_init 1 none, Cond.methodLink RX3 3 objectInit, Cond.classLink RX3 9 RX1]
def xT2 : List Cond := [Cond.instantiable RX1 2, Cond.initialized RX1, Cond.fieldLink RX3 14 "ParrotVow$State" "kinds" "LParrotVow$Row;", Cond.fieldLink RX3 20 "ParrotVow$State" "ms" "LParrotVow$Row;", Cond.fieldLink RX3 23 "ParrotVow$State" "said" "LParrotVow$Row;", Cond.fieldLink RX3 26 "ParrotVow$State" "signs" "LParrotVow$Row;", Cond.fieldLink RX3 29 "ParrotVow$State" "tape" "LParrotVow$Row;", Cond.fieldLink RX3 32 "ParrotVow$State" "avoidCodes" "LParrotVow$Row;", Cond.fieldLink RX3 35 "ParrotVow$State" "talkCodes" "LParrotVow$Row;", Cond.fieldLink RX3 38 "ParrotVow$State" "waiting" "LParrotVow$Row;", Cond.fieldLink RX3 41 "ParrotVow$State" "vow" "I", Cond.fieldLink RX3 45 "ParrotVow$State" "day" "I", Cond.fieldLink RX3 48 "ParrotVow$State" "worth" "I", Cond.fieldLink RX3 51 "ParrotVow$State" "z" "I", Cond.methodLink RX3 11 yX1_init, Cond.instanceMethod yX1_init, Cond.code yX1_init cX1_init 2 none, Cond.methodLink RX1 1 objectInit, Cond.fieldLink RX1 7 "ParrotVow$Row" "many" "I", Cond.methodLink RX1 13 Lib.Math.max.name, Cond.static Lib.Math.max.name, Cond.initialized "java/lang/Math", Cond.code Lib.Math.max.name Lib.Math.max.code 2 (some .int), Cond.fieldLink RX1 19 "ParrotVow$Row" "cells" "[I"]
def xT3 : List Cond := [Cond.methodLink RX7 29 yX5_init, Cond.instanceMethod yX5_init, Cond.code yX5_init cX5_init 4 none, Cond.methodLink RX5 3 objectInit, Cond.fieldLink RX5 9 "ParrotVow$Vows" "spread" "[I", Cond.arrayClass .long, Cond.fieldLink RX5 15 "ParrotVow$Vows" "breakers" "[J", Cond.arrayClass .boolean, Cond.fieldLink RX5 19 "ParrotVow$Vows" "fit" "[Z", Cond.fieldLink RX5 23 "ParrotVow$Vows" "fitting" "I", Cond.fieldLink RX5 27 "ParrotVow$Vows" "counted" "[I", Cond.methodLink RX5 30 yX5_vowOf, Cond.instanceMethod yX5_vowOf, Cond.selects RX5 yX5_vowOf yX5_vowOf, Cond.code yX5_vowOf cX5_vowOf 4 (some .int), Cond.methodLink RX7 40 yX0_init, Cond.instanceMethod yX0_init, Cond.code yX0_init cX0_init 2 none, Cond.methodLink RX0 3 objectInit, Cond.classLink RX0 9 RX1, Cond.fieldLink RX0 14 "ParrotVow$Reader" "codes" "LParrotVow$Row;", Cond.fieldLink RX0 22 "ParrotVow$Reader" "names" "Ljava/lang/String;", Cond.fieldLink RX0 26 "ParrotVow$Reader" "at" "I", Cond.fieldLink RX0 30 "ParrotVow$Reader" "faulty" "Z"]
def xT4 : List Cond := [Cond.fieldLink RX0 34 "ParrotVow$Reader" "tape" "LParrotVow$Row;", Cond.methodLink RX0 11 yX1_init, Cond.instanceMethod yX6_init, Cond.code yX6_init cX6_init 1 none, Cond.methodLink RX6 3 objectInit, Cond.classLink RX6 9 RX1, Cond.fieldLink RX6 14 "ParrotVow$Worker" "stack" "LParrotVow$Row;", Cond.methodLink RX6 11 yX1_init, Cond.instanceMethod yX4_init, Cond.code yX4_init cX4_init 1 none, Cond.methodLink RX4 3 objectInit, Cond.classLink RX4 9 RX1, Cond.fieldLink RX4 14 "ParrotVow$Voices" "trace" "LParrotVow$Row;", Cond.fieldLink RX4 20 "ParrotVow$Voices" "parted" "Z", Cond.fieldLink RX4 24 "ParrotVow$Voices" "k" "I", Cond.fieldLink RX4 28 "ParrotVow$Voices" "kind" "I", Cond.fieldLink RX4 31 "ParrotVow$Voices" "m" "I", Cond.methodLink RX4 11 yX1_init, Cond.instanceMethod yX2_init, Cond.code yX2_init cX2_init 1 none, Cond.methodLink RX2 3 objectInit, Cond.classLink RX2 9 RX1, Cond.fieldLink RX2 14 "ParrotVow$Sheet" "numbers" "LParrotVow$Row;", Cond.fieldLink RX2 20 "ParrotVow$Sheet" "bits" "I"]
def xT5 : List Cond := [Cond.methodLink RX2 11 yX1_init, Cond.methodLink RX7 75 yX5_refit, Cond.instanceMethod yX5_refit, Cond.selects RX5 yX5_refit yX5_refit, Cond.code yX5_refit cX5_refit 9 none, Cond.methodLink RX5 42 yX1_many, Cond.instanceMethod yX1_many, Cond.selects RX1 yX1_many yX1_many, Cond.code yX1_many cX1_many 1 (some .int), Cond.methodLink RX5 48 yX1_get, Cond.instanceMethod yX1_get, Cond.selects RX1 yX1_get yX1_get, Cond.code yX1_get cX1_get 2 (some .int), Cond.methodLink RL 12 yX8_init, Cond.instanceMethod yX8_init, Cond.code yX8_init cX8_init 3 none, Cond.methodLink RX8 3 objectInit, Cond.fieldLink RX8 9 "ParrotVowModel" "row" "[I", Cond.fieldLink RX8 13 "ParrotVowModel" "kept" "[I", Cond.fieldLink RX8 16 "ParrotVowModel" "errors" "[I", Cond.fieldLink RX8 19 "ParrotVowModel" "bitsOf" "[I", Cond.fieldLink RX8 22 "ParrotVowModel" "sizeOf" "[I", Cond.fieldLink RX8 25 "ParrotVowModel" "cells" "[I", Cond.fieldLink RX8 28 "ParrotVowModel" "broken" "[J"]
def xT6 : List Cond := [Cond.fieldLink RX8 32 "ParrotVowModel" "isFit" "[Z", Cond.fieldLink RX8 36 "ParrotVowModel" "breaks" "[I", Cond.fieldLink RX8 39 "ParrotVowModel" "act" "[I", Cond.fieldLink RX8 42 "ParrotVowModel" "with" "[I", Cond.fieldLink RX8 45 "ParrotVowModel" "facts" "[I", Cond.fieldLink RX8 48 "ParrotVowModel" "pile" "[I", Cond.fieldLink RX8 51 "ParrotVowModel" "trace" "[I", Cond.methodLink RX8 54 yX8_isBroken, Cond.static yX8_isBroken, Cond.code yX8_isBroken cX8_isBroken 5 (some .boolean), Cond.methodLink RL 13 yX7_brother, Cond.instanceMethod yX7_brother, Cond.selects RX7 yX7_brother yX7_brother, Cond.code yX7_brother cX7_brother 2 (some .int), Cond.fieldLink RX7 90 "ParrotVow$State" "kinds" "LParrotVow$Row;", Cond.fieldLink RX7 99 "ParrotVow$State" "ms" "LParrotVow$Row;", Cond.fieldLink RX7 102 "ParrotVow$State" "said" "LParrotVow$Row;", Cond.methodLink RX7 78 yX7_isKindAndNumber, Cond.static yX7_isKindAndNumber, Cond.code yX7_isKindAndNumber cX7_isKindAndNumber 1 (some .boolean), Cond.methodLink RX7 108 yX7_within, Cond.static yX7_within, Cond.code yX7_within cX7_within 3 (some .boolean), Cond.methodLink RX7 82 yX7_error]
def xT7 : List Cond := [Cond.instanceMethod yX7_error, Cond.selects RX7 yX7_error yX7_error, Cond.code yX7_error cX7_error 2 (some .int), Cond.constant RX7 281 (-1000000000), Cond.methodLink RX7 86 yX3_brothers, Cond.instanceMethod yX3_brothers, Cond.selects RX3 yX3_brothers yX3_brothers, Cond.code yX3_brothers cX3_brothers 1 (some .int), Cond.methodLink RX3 54 yX1_many, Cond.methodLink RX7 93 yX1_add, Cond.instanceMethod yX1_add, Cond.selects RX1 yX1_add yX1_add, Cond.code yX1_add cX1_add 2 none, Cond.methodLink RL 17 yX8_brother, Cond.instanceMethod yX8_brother, Cond.selects RX8 yX8_brother yX8_brother, Cond.code yX8_brother cX8_brother 3 (some .int), Cond.constant RX8 106 (-1000000001), Cond.constant RX8 110 (-1000000004), Cond.methodLink RX8 103 yX8_isKm, Cond.static yX8_isKm, Cond.code yX8_isKm cX8_isKm 1 (some .boolean), Cond.methodLink RX8 59 yX8_in, Cond.static yX8_in]
def xT8 : List Cond := [Cond.code yX8_in cX8_in 3 (some .boolean), Cond.methodLink RX8 107 yX8_error, Cond.instanceMethod yX8_error, Cond.selects RX8 yX8_error yX8_error, Cond.code yX8_error cX8_error 2 (some .int), Cond.constant RX8 58 (-1000000000), Cond.methodLink RL 18 yX7_brotherIs, Cond.instanceMethod yX7_brotherIs, Cond.selects RX7 yX7_brotherIs yX7_brotherIs, Cond.code yX7_brotherIs cX7_brotherIs 3 (some .int), Cond.methodLink RX7 105 yX7_isBrother, Cond.instanceMethod yX7_isBrother, Cond.selects RX7 yX7_isBrother yX7_isBrother, Cond.code yX7_isBrother cX7_isBrother 2 (some .boolean), Cond.methodLink RX7 247 yX1_has, Cond.instanceMethod yX1_has, Cond.selects RX1 yX1_has yX1_has, Cond.code yX1_has cX1_has 2 (some .boolean), Cond.methodLink RX7 112 yX1_get, Cond.methodLink RX7 115 yX7_avoided, Cond.instanceMethod yX7_avoided, Cond.selects RX7 yX7_avoided yX7_avoided, Cond.code yX7_avoided cX7_avoided 5 (some .long), Cond.methodLink RX7 136 yX7_isAvoided]
def xT9 : List Cond := [Cond.instanceMethod yX7_isAvoided, Cond.selects RX7 yX7_isAvoided yX7_isAvoided, Cond.code yX7_isAvoided cX7_isAvoided 3 (some .boolean), Cond.methodLink RX7 300 yX7_shuns, Cond.instanceMethod yX7_shuns, Cond.selects RX7 yX7_shuns yX7_shuns, Cond.code yX7_shuns cX7_shuns 6 (some .boolean), Cond.fieldLink RX7 187 "ParrotVow$State" "day" "I", Cond.methodLink RX7 208 yX5_broken, Cond.instanceMethod yX5_broken, Cond.selects RX5 yX5_broken yX5_broken, Cond.code yX5_broken cX5_broken 2 (some .int), Cond.static yX7_isSaying, Cond.code yX7_isSaying cX7_isSaying 1 (some .boolean), Cond.methodLink RX5 52 yX5_countBroken, Cond.instanceMethod yX5_countBroken, Cond.selects RX5 yX5_countBroken yX5_countBroken, Cond.code yX5_countBroken cX5_countBroken 5 (some .int), Cond.methodLink RX7 152 yX5_fitting, Cond.instanceMethod yX5_fitting, Cond.selects RX5 yX5_fitting yX5_fitting, Cond.code yX5_fitting cX5_fitting 1 (some .int), Cond.methodLink RX7 183 yX7_given, Cond.instanceMethod yX7_given]
def xT10 : List Cond := [Cond.selects RX7 yX7_given yX7_given, Cond.code yX7_given cX7_given 7 (some .int), Cond.methodLink RX7 162 yX3_codesOf, Cond.instanceMethod yX3_codesOf, Cond.selects RX3 yX3_codesOf yX3_codesOf, Cond.code yX3_codesOf cX3_codesOf 2 (some (.object "ParrotVow$Row")), Cond.methodLink RX7 146 yX1_many, Cond.methodLink RX7 306 yX6_work, Cond.instanceMethod yX6_work, Cond.selects RX6 yX6_work yX6_work, Cond.code yX6_work cX6_work 9 (some .int), Cond.methodLink RX6 20 yX1_clear, Cond.instanceMethod yX1_clear, Cond.selects RX1 yX1_clear yX1_clear, Cond.code yX1_clear cX1_clear 1 none, Cond.methodLink RX6 23 yX1_many, Cond.methodLink RX6 27 yX1_get, Cond.methodLink RX6 31 yX1_add, Cond.methodLink RX6 34 yX1_pop, Cond.instanceMethod yX1_pop, Cond.selects RX1 yX1_pop yX1_pop, Cond.code yX1_pop cX1_pop 2 (some .int), Cond.methodLink RX1 23 yX1_get, Cond.methodLink RX6 37 yX6_joined]
def xT11 : List Cond := [Cond.static yX6_joined, Cond.code yX6_joined cX6_joined 3 (some .int), Cond.methodLink RX6 41 yX6_isTrue, Cond.static yX6_isTrue, Cond.code yX6_isTrue cX6_isTrue 3 (some .boolean), Cond.methodLink RX7 310 yX7_held, Cond.static yX7_held, Cond.code yX7_held cX7_held 3 (some .int), Cond.methodLink RX7 282 Lib.Math.min.name, Cond.static Lib.Math.min.name, Cond.code Lib.Math.min.name Lib.Math.min.code 2 (some .int), Cond.methodLink RX7 287 Lib.Math.max.name, Cond.methodLink RX7 119 yJ13_bitCount_95d88, Cond.static yJ13_bitCount_95d88, Cond.initialized RJ13, Cond.code yJ13_bitCount_95d88 cJ13_bitCount_95d88 2 (some .int), Cond.constantLong RJ13 314 (6148914691236517205), Cond.constantLong RJ13 316 (3689348814741910323), Cond.constantLong RJ13 318 (1085102592571150095), Cond.methodLink RL 22 yX8_brotherIs, Cond.instanceMethod yX8_brotherIs, Cond.selects RX8 yX8_brotherIs yX8_brotherIs, Cond.code yX8_brotherIs cX8_brotherIs 3 (some .int), Cond.methodLink RX8 114 yX8_isBrother]
def xT12 : List Cond := [Cond.instanceMethod yX8_isBrother, Cond.selects RX8 yX8_isBrother yX8_isBrother, Cond.code yX8_isBrother cX8_isBrother 2 (some .boolean), Cond.methodLink RX8 81 yX8_of, Cond.instanceMethod yX8_of, Cond.selects RX8 yX8_of yX8_of, Cond.code yX8_of cX8_of 3 (some .int), Cond.methodLink RX8 117 yX8_avoided, Cond.instanceMethod yX8_avoided, Cond.selects RX8 yX8_avoided yX8_avoided, Cond.code yX8_avoided cX8_avoided 4 (some .int), Cond.methodLink RX8 111 yX8_doesAvoid, Cond.instanceMethod yX8_doesAvoid, Cond.selects RX8 yX8_doesAvoid yX8_doesAvoid, Cond.code yX8_doesAvoid cX8_doesAvoid 4 (some .boolean), Cond.fieldLink RX8 70 "ParrotVowModel" "fitting" "I", Cond.methodLink RX8 93 yX8_doesShun, Cond.instanceMethod yX8_doesShun, Cond.selects RX8 yX8_doesShun yX8_doesShun, Cond.code yX8_doesShun cX8_doesShun 7 (some .boolean), Cond.methodLink RX8 85 yX8_breaksBy, Cond.instanceMethod yX8_breaksBy, Cond.selects RX8 yX8_breaksBy yX8_breaksBy, Cond.code yX8_breaksBy cX8_breaksBy 2 (some .int)]
def xT13 : List Cond := [Cond.methodLink RX8 78 yX8_findVows, Cond.instanceMethod yX8_findVows, Cond.selects RX8 yX8_findVows yX8_findVows, Cond.code yX8_findVows cX8_findVows 3 none, Cond.fieldLink RX8 66 "ParrotVowModel" "isKnown" "Z", Cond.methodLink RX8 74 yX8_doesFit, Cond.instanceMethod yX8_doesFit, Cond.selects RX8 yX8_doesFit yX8_doesFit, Cond.code yX8_doesFit cX8_doesFit 4 (some .boolean), Cond.methodLink RX8 63 yX8_doesBreak, Cond.instanceMethod yX8_doesBreak, Cond.selects RX8 yX8_doesBreak yX8_doesBreak, Cond.code yX8_doesBreak cX8_doesBreak 3 (some .boolean), Cond.methodLink RX8 96 yX8_gives, Cond.instanceMethod yX8_gives, Cond.selects RX8 yX8_gives yX8_gives, Cond.code yX8_gives cX8_gives 7 (some .int), Cond.methodLink RX8 202 yX8_works, Cond.instanceMethod yX8_works, Cond.selects RX8 yX8_works yX8_works, Cond.code yX8_works cX8_works 5 (some .int), Cond.methodLink RX8 199 yX8_twoOf, Cond.static yX8_twoOf, Cond.code yX8_twoOf cX8_twoOf 3 (some .int)]
def xT14 : List Cond := [Cond.methodLink RX8 139 yX8_held, Cond.static yX8_held, Cond.code yX8_held cX8_held 3 (some .int), Cond.methodLink RL 23 yX7_become, Cond.instanceMethod yX7_become, Cond.selects RX7 yX7_become yX7_become, Cond.code yX7_become cX7_become 4 (some .int), Cond.methodLink RX7 125 yX1_set, Cond.instanceMethod yX1_set, Cond.selects RX1 yX1_set yX1_set, Cond.code yX1_set cX1_set 3 none, Cond.methodLink RL 26 yX8_become, Cond.instanceMethod yX8_become, Cond.selects RX8 yX8_become yX8_become, Cond.code yX8_become cX8_become 3 (some .int), Cond.methodLink RX8 120 yX8_becomes, Cond.instanceMethod yX8_becomes, Cond.selects RX8 yX8_becomes yX8_becomes, Cond.code yX8_becomes cX8_becomes 4 (some .int), Cond.methodLink RL 27 yX7_as, Cond.instanceMethod yX7_as, Cond.selects RX7 yX7_as yX7_as, Cond.code yX7_as cX7_as 3 (some .int), Cond.methodLink RX7 129 yX7_isUnder]
def xT15 : List Cond := [Cond.static yX7_isUnder, Cond.code yX7_isUnder cX7_isUnder 4 (some .boolean), Cond.methodLink RX7 293 yX7_kindAbove, Cond.static yX7_kindAbove, Cond.code yX7_kindAbove cX7_kindAbove 1 (some .int), Cond.fieldLink RX7 290 "ParrotVow" "ABOVE" "[I", Cond.methodLink RL 30 yX8_as, Cond.instanceMethod yX8_as, Cond.selects RX8 yX8_as yX8_as, Cond.code yX8_as cX8_as 5 (some .int), Cond.constant RX8 123 (-1000000005), Cond.methodLink RL 31 yX7_avoids, Cond.instanceMethod yX7_avoids, Cond.selects RX7 yX7_avoids yX7_avoids, Cond.code yX7_avoids cX7_avoids 3 (some .int), Cond.methodLink RX7 133 yX7_isSaying, Cond.methodLink RL 34 yX8_avoids, Cond.instanceMethod yX8_avoids, Cond.selects RX8 yX8_avoids yX8_avoids, Cond.code yX8_avoids cX8_avoids 3 (some .int), Cond.methodLink RX8 124 yX8_isSaying, Cond.static yX8_isSaying, Cond.code yX8_isSaying cX8_isSaying 1 (some .boolean), Cond.methodLink RL 35 yX7_talk]
def xT16 : List Cond := [Cond.instanceMethod yX7_talk, Cond.selects RX7 yX7_talk yX7_talk, Cond.code yX7_talk cX7_talk 3 (some .int), Cond.methodLink RX7 139 yX7_talkOf, Cond.instanceMethod yX7_talkOf, Cond.selects RX7 yX7_talkOf yX7_talkOf, Cond.code yX7_talkOf cX7_talkOf 3 (some .int), Cond.methodLink RX7 303 yX7_tells, Cond.instanceMethod yX7_tells, Cond.selects RX7 yX7_tells yX7_tells, Cond.code yX7_tells cX7_tells 4 (some .int), Cond.methodLink RX7 296 yJ6_bitCount_0f7a4, Cond.static yJ6_bitCount_0f7a4, Cond.initialized RJ6, Cond.code yJ6_bitCount_0f7a4 cJ6_bitCount_0f7a4 1 (some .int), Cond.constant RJ6 265 (1431655765), Cond.constant RJ6 266 (858993459), Cond.constant RJ6 267 (252645135), Cond.methodLink RL 38 yX8_talk, Cond.instanceMethod yX8_talk, Cond.selects RX8 yX8_talk yX8_talk, Cond.code yX8_talk cX8_talk 3 (some .int), Cond.methodLink RX8 127 yX8_talkOf, Cond.instanceMethod yX8_talkOf]
def xT17 : List Cond := [Cond.selects RX8 yX8_talkOf yX8_talkOf, Cond.code yX8_talkOf cX8_talkOf 3 (some .int), Cond.methodLink RX8 100 yX8_tellsOf, Cond.instanceMethod yX8_tellsOf, Cond.selects RX8 yX8_tellsOf yX8_tellsOf, Cond.code yX8_tellsOf cX8_tellsOf 4 (some .int), Cond.methodLink RX8 89 yX8_bits, Cond.static yX8_bits, Cond.code yX8_bits cX8_bits 5 (some .int), Cond.methodLink RL 39 yX7_vow, Cond.instanceMethod yX7_vow, Cond.selects RX7 yX7_vow yX7_vow, Cond.code yX7_vow cX7_vow 3 (some .int), Cond.fieldLink RX7 143 "ParrotVow$State" "vow" "I", Cond.methodLink RL 42 yX8_vow, Cond.instanceMethod yX8_vow, Cond.selects RX8 yX8_vow yX8_vow, Cond.code yX8_vow cX8_vow 2 (some .int), Cond.methodLink RL 43 yX7_sign, Cond.instanceMethod yX7_sign, Cond.selects RX7 yX7_sign yX7_sign, Cond.code yX7_sign cX7_sign 3 (some .int), Cond.methodLink RX7 149 yX3_addSign, Cond.instanceMethod yX3_addSign]
def xT18 : List Cond := [Cond.selects RX3 yX3_addSign yX3_addSign, Cond.code yX3_addSign cX3_addSign 3 none, Cond.methodLink RX3 58 yX1_add, Cond.methodLink RL 46 yX8_sign, Cond.instanceMethod yX8_sign, Cond.selects RX8 yX8_sign yX8_sign, Cond.code yX8_sign cX8_sign 3 (some .int), Cond.methodLink RX8 130 yX8_comes, Cond.instanceMethod yX8_comes, Cond.selects RX8 yX8_comes yX8_comes, Cond.code yX8_comes cX8_comes 4 none, Cond.methodLink RX8 134 yX8_fittingNow, Cond.instanceMethod yX8_fittingNow, Cond.selects RX8 yX8_fittingNow yX8_fittingNow, Cond.code yX8_fittingNow cX8_fittingNow 1 (some .int), Cond.methodLink RL 47 yX7_forget, Cond.instanceMethod yX7_forget, Cond.selects RX7 yX7_forget yX7_forget, Cond.code yX7_forget cX7_forget 2 (some .int), Cond.methodLink RX7 155 yX1_drop, Cond.instanceMethod yX1_drop, Cond.selects RX1 yX1_drop yX1_drop, Cond.code yX1_drop cX1_drop 2 none, Cond.methodLink RL 50 yX8_forget]
def xT19 : List Cond := [Cond.instanceMethod yX8_forget, Cond.selects RX8 yX8_forget yX8_forget, Cond.code yX8_forget cX8_forget 2 (some .int), Cond.methodLink RL 51 yX7_say, Cond.instanceMethod yX7_say, Cond.selects RX7 yX7_say yX7_say, Cond.code yX7_say cX7_say 3 (some .int), Cond.methodLink RX7 158 yX7_says, Cond.instanceMethod yX7_says, Cond.selects RX7 yX7_says yX7_says, Cond.code yX7_says cX7_says 6 (some .int), Cond.constant RX7 314 (99999), Cond.fieldLink RX7 278 "ParrotVow$State" "worth" "I", Cond.methodLink RX7 269 yX5_breaks, Cond.instanceMethod yX5_breaks, Cond.selects RX5 yX5_breaks yX5_breaks, Cond.code yX5_breaks cX5_breaks 3 (some .boolean), Cond.methodLink RL 54 yX8_say, Cond.instanceMethod yX8_say, Cond.selects RX8 yX8_say yX8_say, Cond.code yX8_say cX8_say 3 (some .int), Cond.constant RX8 143 (-1000000003), Cond.methodLink RX8 144 yX8_says, Cond.instanceMethod yX8_says]
def xT20 : List Cond := [Cond.selects RX8 yX8_says yX8_says, Cond.code yX8_says cX8_says 6 (some .int), Cond.constant RX8 138 (99999), Cond.methodLink RL 57 yX7_feed, Cond.instanceMethod yX7_feed, Cond.selects RX7 yX7_feed yX7_feed, Cond.code yX7_feed cX7_feed 5 (some .int), Cond.methodLink RL 61 yX8_feed, Cond.instanceMethod yX8_feed, Cond.selects RX8 yX8_feed yX8_feed, Cond.code yX8_feed cX8_feed 5 (some .int), Cond.constantLong RX8 148 (255), Cond.methodLink RL 62 yX7_text, Cond.instanceMethod yX7_text, Cond.selects RX7 yX7_text yX7_text, Cond.code yX7_text cX7_text 4 (some .int), Cond.fieldLink RX7 177 "ParrotVow$Reader" "codes" "LParrotVow$Row;", Cond.methodLink RX7 170 yX0_faultOf, Cond.instanceMethod yX0_faultOf, Cond.selects RX0 yX0_faultOf yX0_faultOf, Cond.code yX0_faultOf cX0_faultOf 2 (some .int), Cond.methodLink RX0 37 yX1_clear, Cond.methodLink RX0 40 yX0_readOr, Cond.instanceMethod yX0_readOr]
def xT21 : List Cond := [Cond.selects RX0 yX0_readOr yX0_readOr, Cond.code yX0_readOr cX0_readOr 3 none, Cond.methodLink RX0 67 yX0_readAnd, Cond.instanceMethod yX0_readAnd, Cond.selects RX0 yX0_readAnd yX0_readAnd, Cond.methodLink RX0 63 yX0_takes, Cond.instanceMethod yX0_takes, Cond.selects RX0 yX0_takes yX0_takes, Cond.code yX0_takes cX0_takes 2 (some .boolean), Cond.methodLink RX0 51 yX0_next, Cond.instanceMethod yX0_next, Cond.selects RX0 yX0_next yX0_next, Cond.code yX0_next cX0_next 1 (some .int), Cond.methodLink RX0 47 yX1_get, Cond.methodLink RX0 70 yX1_add, Cond.code yX0_readAnd cX0_readAnd 3 none, Cond.methodLink RX0 73 yX0_readComparison, Cond.instanceMethod yX0_readComparison, Cond.selects RX0 yX0_readComparison yX0_readComparison, Cond.code yX0_readComparison cX0_readComparison 3 none, Cond.methodLink RX0 76 yX0_readSum, Cond.instanceMethod yX0_readSum, Cond.selects RX0 yX0_readSum yX0_readSum, Cond.methodLink RX0 81 yX0_takesOneOf]
def xT22 : List Cond := [Cond.instanceMethod yX0_takesOneOf, Cond.selects RX0 yX0_takesOneOf yX0_takesOneOf, Cond.code yX0_takesOneOf cX0_takesOneOf 3 (some .char), Cond.methodLink RX0 54 yJ0_length_8abf5, Cond.instanceMethod yJ0_length_8abf5, Cond.selects RJ0 yJ0_length_8abf5 yJ0_length_8abf5, Cond.initialized RJ0, Cond.code yJ0_length_8abf5 cJ0_length_8abf5 1 (some .int), Cond.fieldLink RJ0 9 "java/lang/String" "value" "[B", Cond.methodLink RJ0 335 yJ0_coder_7d493, Cond.instanceMethod yJ0_coder_7d493, Cond.selects RJ0 yJ0_coder_7d493 yJ0_coder_7d493, Cond.code yJ0_coder_7d493 cJ0_coder_7d493 1 (some .byte), Cond.fieldLink RJ0 38 "java/lang/String" "COMPACT_STRINGS" "Z", Cond.fieldLink RJ0 15 "java/lang/String" "coder" "B", Cond.methodLink RX0 59 yJ0_charAt_5068e, Cond.instanceMethod yJ0_charAt_5068e, Cond.selects RJ0 yJ0_charAt_5068e yJ0_charAt_5068e, Cond.code yJ0_charAt_5068e cJ0_charAt_5068e 2 (some .char), Cond.methodLink RJ0 492 yJ0_isLatin1_aae02, Cond.instanceMethod yJ0_isLatin1_aae02, Cond.selects RJ0 yJ0_isLatin1_aae02 yJ0_isLatin1_aae02, Cond.code yJ0_isLatin1_aae02 cJ0_isLatin1_aae02 1 (some .boolean), Cond.methodLink RJ0 495 yJ1_charAt_3b067]
def xT23 : List Cond := [Cond.static yJ1_charAt_3b067, Cond.initialized RJ1, Cond.code yJ1_charAt_3b067 cJ1_charAt_3b067 2 (some .char), Cond.methodLink RJ1 9 yJ0_checkIndex_df160, Cond.static yJ0_checkIndex_df160, Cond.code yJ0_checkIndex_df160 cJ0_checkIndex_df160 2 none, Cond.fieldLink RJ0 1053 "jdk/internal/util/Preconditions" "SIOOBE_FORMATTER" "Ljava/util/function/BiFunction;", Cond.methodLink RJ0 1059 yJ3_checkIndex_8e157, Cond.static yJ3_checkIndex_8e157, Cond.initialized RJ3, Cond.code yJ3_checkIndex_8e157 cJ3_checkIndex_8e157 3 (some .int), Cond.methodLink RJ0 498 yJ2_charAt_3b067, Cond.static yJ2_charAt_3b067, Cond.initialized RJ2, Cond.code yJ2_charAt_3b067 cJ2_charAt_3b067 2 (some .char), Cond.methodLink RJ2 67 yJ2_checkIndex_2214a, Cond.static yJ2_checkIndex_2214a, Cond.code yJ2_checkIndex_2214a cJ2_checkIndex_2214a 2 none, Cond.methodLink RJ2 48 yJ2_length_9d52b, Cond.static yJ2_length_9d52b, Cond.code yJ2_length_9d52b cJ2_length_9d52b 1 (some .int), Cond.methodLink RJ2 414 yJ0_checkIndex_df160, Cond.methodLink RJ2 71 yJ2_getChar_3b067, Cond.static yJ2_getChar_3b067]
def xT24 : List Cond := [Cond.code yJ2_getChar_3b067 cJ2_getChar_3b067 2 (some .char), Cond.fieldLink RJ2 44 "java/lang/StringUTF16" "$assertionsDisabled" "Z", Cond.fieldLink RJ2 59 "java/lang/StringUTF16" "HI_BYTE_SHIFT" "I", Cond.fieldLink RJ2 63 "java/lang/StringUTF16" "LO_BYTE_SHIFT" "I", Cond.code yX0_readFactor cX0_readFactor 3 none, Cond.methodLink RX0 95 yJ0_indexOf_0f7a4, Cond.instanceMethod yJ0_indexOf_0f7a4, Cond.selects RJ0 yJ0_indexOf_0f7a4 yJ0_indexOf_0f7a4, Cond.code yJ0_indexOf_0f7a4 cJ0_indexOf_0f7a4 2 (some .int), Cond.methodLink RJ0 633 yJ0_indexOf_7cf53, Cond.instanceMethod yJ0_indexOf_7cf53, Cond.selects RJ0 yJ0_indexOf_7cf53 yJ0_indexOf_7cf53, Cond.code yJ0_indexOf_7cf53 cJ0_indexOf_7cf53 3 (some .int), Cond.methodLink RJ0 505 yJ0_length_8abf5, Cond.methodLink RJ0 637 yJ1_indexOf_4cfef, Cond.static yJ1_indexOf_4cfef, Cond.code yJ1_indexOf_4cfef cJ1_indexOf_4cfef 4 (some .int), Cond.methodLink RJ1 92 Lib.Math.max.name, Cond.methodLink RJ1 38 Lib.Math.min.name, Cond.methodLink RJ1 88 yJ1_canEncode_9a6ad, Cond.static yJ1_canEncode_9a6ad, Cond.code yJ1_canEncode_9a6ad cJ1_canEncode_9a6ad 1 (some .boolean), Cond.methodLink RJ1 95 yJ1_indexOfChar_4cfef, Cond.static yJ1_indexOfChar_4cfef]
def xT25 : List Cond := [Cond.code yJ1_indexOfChar_4cfef cJ1_indexOfChar_4cfef 6 (some .int), Cond.methodLink RJ0 640 yJ2_indexOf_4cfef, Cond.static yJ2_indexOf_4cfef, Cond.code yJ2_indexOf_4cfef cJ2_indexOf_4cfef 4 (some .int), Cond.methodLink RJ2 224 Lib.Math.max.name, Cond.methodLink RJ2 183 Lib.Math.min.name, Cond.constant RJ2 227 (65536), Cond.methodLink RJ2 228 yJ2_indexOfChar_4cfef, Cond.static yJ2_indexOfChar_4cfef, Cond.code yJ2_indexOfChar_4cfef cJ2_indexOfChar_4cfef 4 (some .int), Cond.methodLink RJ2 96 yJ2_checkBoundsBeginEnd_d044e, Cond.static yJ2_checkBoundsBeginEnd_d044e, Cond.code yJ2_checkBoundsBeginEnd_d044e cJ2_checkBoundsBeginEnd_d044e 3 none, Cond.methodLink RJ2 241 yJ0_checkBoundsBeginEnd_23922, Cond.static yJ0_checkBoundsBeginEnd_23922, Cond.code yJ0_checkBoundsBeginEnd_23922 cJ0_checkBoundsBeginEnd_23922 3 none, Cond.methodLink RJ0 1062 yJ3_checkFromToIndex_8c36e, Cond.static yJ3_checkFromToIndex_8c36e, Cond.code yJ3_checkFromToIndex_8c36e cJ3_checkFromToIndex_8c36e 4 (some .int), Cond.methodLink RJ2 244 yJ2_indexOfCharUnsafe_4cfef, Cond.static yJ2_indexOfCharUnsafe_4cfef, Cond.code yJ2_indexOfCharUnsafe_4cfef cJ2_indexOfCharUnsafe_4cfef 5 (some .int), Cond.methodLink RJ2 232 yJ2_indexOfSupplementary_4cfef, Cond.static yJ2_indexOfSupplementary_4cfef]
def xT26 : List Cond := [Cond.code yJ2_indexOfSupplementary_4cfef cJ2_indexOfSupplementary_4cfef 7 (some .int), Cond.methodLink RJ2 164 yJ11_isValidCodePoint_9a6ad, Cond.static yJ11_isValidCodePoint_9a6ad, Cond.initialized RJ11, Cond.code yJ11_isValidCodePoint_9a6ad cJ11_isValidCodePoint_9a6ad 2 (some .boolean), Cond.methodLink RJ2 157 yJ11_highSurrogate_5068e, Cond.static yJ11_highSurrogate_5068e, Cond.code yJ11_highSurrogate_5068e cJ11_highSurrogate_5068e 1 (some .char), Cond.constant RJ11 110 (55232), Cond.methodLink RJ2 161 yJ11_lowSurrogate_5068e, Cond.static yJ11_lowSurrogate_5068e, Cond.code yJ11_lowSurrogate_5068e cJ11_lowSurrogate_5068e 1 (some .char), Cond.constant RJ11 76 (56320), Cond.methodLink RX0 98 yX0_isDigit, Cond.instanceMethod yX0_isDigit, Cond.selects RX0 yX0_isDigit yX0_isDigit, Cond.code yX0_isDigit cX0_isDigit 1 (some .boolean), Cond.methodLink RX0 102 yX0_readNumber, Cond.instanceMethod yX0_readNumber, Cond.selects RX0 yX0_readNumber yX0_readNumber, Cond.code yX0_readNumber cX0_readNumber 3 none, Cond.methodLink RX0 90 yX0_readFactor, Cond.instanceMethod yX0_readFactor, Cond.selects RX0 yX0_readFactor yX0_readFactor]
def xT27 : List Cond := [Cond.code yX0_readProduct cX0_readProduct 4 none, Cond.code yX0_readSum cX0_readSum 4 none, Cond.methodLink RX0 85 yX0_readProduct, Cond.instanceMethod yX0_readProduct, Cond.selects RX0 yX0_readProduct yX0_readProduct, Cond.methodLink RX0 43 yX1_many, Cond.methodLink RX7 174 yX1_clear, Cond.methodLink RX7 180 yX1_takeAll, Cond.instanceMethod yX1_takeAll, Cond.selects RX1 yX1_takeAll yX1_takeAll, Cond.code yX1_takeAll cX1_takeAll 2 none, Cond.methodLink RX1 47 Lib.Math.min.name, Cond.methodLink RX1 50 yX1_takeRun, Cond.instanceMethod yX1_takeRun, Cond.selects RX1 yX1_takeRun yX1_takeRun, Cond.code yX1_takeRun cX1_takeRun 5 none, Cond.methodLink RX1 41 arraycopyName, Cond.native arraycopyName, Cond.static arraycopyName, Cond.initialized "java/lang/System", Cond.methodLink RX1 37 yX1_hasRun, Cond.instanceMethod yX1_hasRun, Cond.selects RX1 yX1_hasRun yX1_hasRun, Cond.code yX1_hasRun cX1_hasRun 3 (some .boolean)]
def xT28 : List Cond := [Cond.methodLink RL 65 yX8_text, Cond.instanceMethod yX8_text, Cond.selects RX8 yX8_text yX8_text, Cond.code yX8_text cX8_text 4 (some .int), Cond.fieldLink RX8 156 "ParrotVowModel" "using" "I", Cond.fieldLink RX8 153 "ParrotVowModel" "laid" "I", Cond.fieldLink RX8 150 "ParrotVowModel" "here" "I", Cond.fieldLink RX8 168 "ParrotVowModel" "opened" "I", Cond.fieldLink RX8 162 "ParrotVowModel" "bad" "Z", Cond.methodLink RX8 174 yX8_any, Cond.instanceMethod yX8_any, Cond.selects RX8 yX8_any yX8_any, Cond.code yX8_any cX8_any 1 none, Cond.methodLink RX8 196 yX8_all, Cond.instanceMethod yX8_all, Cond.selects RX8 yX8_all yX8_all, Cond.methodLink RX8 159 yX8_look, Cond.instanceMethod yX8_look, Cond.selects RX8 yX8_look yX8_look, Cond.code yX8_look cX8_look 1 (some .int), Cond.methodLink RX8 165 yX8_lays, Cond.instanceMethod yX8_lays, Cond.selects RX8 yX8_lays yX8_lays, Cond.code yX8_lays cX8_lays 3 none]
def xT29 : List Cond := [Cond.code yX8_all cX8_all 1 none, Cond.methodLink RX8 193 yX8_compares, Cond.instanceMethod yX8_compares, Cond.selects RX8 yX8_compares yX8_compares, Cond.code yX8_compares cX8_compares 2 none, Cond.methodLink RX8 190 yX8_sum, Cond.instanceMethod yX8_sum, Cond.selects RX8 yX8_sum yX8_sum, Cond.code yX8_one cX8_one 3 none, Cond.methodLink RX8 177 yX8_nameOf, Cond.instanceMethod yX8_nameOf, Cond.selects RX8 yX8_nameOf yX8_nameOf, Cond.code yX8_nameOf cX8_nameOf 2 (some .int), Cond.methodLink RX8 180 yX8_opens, Cond.instanceMethod yX8_opens, Cond.selects RX8 yX8_opens yX8_opens, Cond.methodLink RX8 184 yX8_number, Cond.instanceMethod yX8_number, Cond.selects RX8 yX8_number yX8_number, Cond.code yX8_number cX8_number 3 none, Cond.code yX8_opens cX8_opens 2 none, Cond.methodLink RX8 171 yX8_one, Cond.instanceMethod yX8_one, Cond.selects RX8 yX8_one yX8_one]
def xT30 : List Cond := [Cond.code yX8_sum cX8_sum 2 none, Cond.methodLink RX8 187 yX8_times, Cond.instanceMethod yX8_times, Cond.selects RX8 yX8_times yX8_times, Cond.code yX8_times cX8_times 2 none, Cond.methodLink RL 66 yX7_untell, Cond.instanceMethod yX7_untell, Cond.selects RX7 yX7_untell yX7_untell, Cond.code yX7_untell cX7_untell 4 (some .int), Cond.methodLink RL 69 yX8_untell, Cond.instanceMethod yX8_untell, Cond.selects RX8 yX8_untell yX8_untell, Cond.code yX8_untell cX8_untell 2 (some .int), Cond.methodLink RL 70 yX7_law, Cond.instanceMethod yX7_law, Cond.selects RX7 yX7_law yX7_law, Cond.code yX7_law cX7_law 5 (some .int), Cond.methodLink RL 74 yX8_law, Cond.instanceMethod yX8_law, Cond.selects RX8 yX8_law yX8_law, Cond.code yX8_law cX8_law 5 (some .int), Cond.methodLink RL 75 yX7_loose, Cond.instanceMethod yX7_loose, Cond.selects RX7 yX7_loose yX7_loose]
def xT31 : List Cond := [Cond.code yX7_loose cX7_loose 4 (some .int), Cond.methodLink RX7 190 yX7_looseDay, Cond.instanceMethod yX7_looseDay, Cond.selects RX7 yX7_looseDay yX7_looseDay, Cond.code yX7_looseDay cX7_looseDay 6 (some .int), Cond.methodLink RX7 315 yX3_draw, Cond.instanceMethod yX3_draw, Cond.selects RX3 yX3_draw yX3_draw, Cond.code yX3_draw cX3_draw 1 (some .int), Cond.constant RX3 61 (1103515245), Cond.methodLink RL 78 yX8_loose, Cond.instanceMethod yX8_loose, Cond.selects RX8 yX8_loose yX8_loose, Cond.code yX8_loose cX8_loose 4 (some .int), Cond.methodLink RX8 209 yX8_drawn, Cond.instanceMethod yX8_drawn, Cond.selects RX8 yX8_drawn yX8_drawn, Cond.code yX8_drawn cX8_drawn 5 (some .int), Cond.methodLink RX8 206 yX8_draw, Cond.instanceMethod yX8_draw, Cond.selects RX8 yX8_draw yX8_draw, Cond.code yX8_draw cX8_draw 1 (some .int), Cond.constant RX8 205 (1103515245), Cond.methodLink RL 79 yX7_day]
def xT32 : List Cond := [Cond.instanceMethod yX7_day, Cond.selects RX7 yX7_day yX7_day, Cond.code yX7_day cX7_day 3 (some .int), Cond.methodLink RL 82 yX8_day, Cond.instanceMethod yX8_day, Cond.selects RX8 yX8_day yX8_day, Cond.code yX8_day cX8_day 2 (some .int), Cond.methodLink RL 83 yX7_seed, Cond.instanceMethod yX7_seed, Cond.selects RX7 yX7_seed yX7_seed, Cond.code yX7_seed cX7_seed 3 (some .int), Cond.fieldLink RX7 193 "ParrotVow$State" "z" "I", Cond.methodLink RL 86 yX8_seed, Cond.instanceMethod yX8_seed, Cond.selects RX8 yX8_seed yX8_seed, Cond.code yX8_seed cX8_seed 2 (some .int), Cond.methodLink RL 87 yX7_vows, Cond.instanceMethod yX7_vows, Cond.selects RX7 yX7_vows yX7_vows, Cond.code yX7_vows cX7_vows 3 (some .int), Cond.methodLink RX7 196 yX5_least, Cond.instanceMethod yX5_least, Cond.selects RX5 yX5_least yX5_least, Cond.code yX5_least cX5_least 2 (some .int)]
def xT33 : List Cond := [Cond.methodLink RX7 199 yX5_simplest, Cond.instanceMethod yX5_simplest, Cond.selects RX5 yX5_simplest yX5_simplest, Cond.code yX5_simplest cX5_simplest 4 (some .int), Cond.methodLink RX5 55 yX5_settled, Cond.instanceMethod yX5_settled, Cond.selects RX5 yX5_settled yX5_settled, Cond.code yX5_settled cX5_settled 5 (some .int), Cond.methodLink RX7 202 yX5_settled, Cond.methodLink RL 90 yX8_vows, Cond.instanceMethod yX8_vows, Cond.selects RX8 yX8_vows yX8_vows, Cond.code yX8_vows cX8_vows 6 (some .int), Cond.constant RX8 215 (-1000000002), Cond.methodLink RX8 212 yX8_figuresOf, Cond.static yX8_figuresOf, Cond.code yX8_figuresOf cX8_figuresOf 4 (some .int), Cond.methodLink RL 91 yX7_parts, Cond.instanceMethod yX7_parts, Cond.selects RX7 yX7_parts yX7_parts, Cond.code yX7_parts cX7_parts 4 (some .int), Cond.methodLink RX7 205 yX7_lesserPart, Cond.instanceMethod yX7_lesserPart, Cond.selects RX7 yX7_lesserPart yX7_lesserPart]
def xT34 : List Cond := [Cond.code yX7_lesserPart cX7_lesserPart 3 (some .int), Cond.methodLink RL 94 yX8_parts, Cond.instanceMethod yX8_parts, Cond.selects RX8 yX8_parts yX8_parts, Cond.code yX8_parts cX8_parts 4 (some .int), Cond.methodLink RX8 216 yX8_lesserOf, Cond.instanceMethod yX8_lesserOf, Cond.selects RX8 yX8_lesserOf yX8_lesserOf, Cond.code yX8_lesserOf cX8_lesserOf 2 (some .int), Cond.methodLink RL 95 yX7_sure, Cond.instanceMethod yX7_sure, Cond.selects RX7 yX7_sure yX7_sure, Cond.code yX7_sure cX7_sure 3 (some .int), Cond.methodLink RL 98 yX8_sure, Cond.instanceMethod yX8_sure, Cond.selects RX8 yX8_sure yX8_sure, Cond.code yX8_sure cX8_sure 3 (some .int), Cond.methodLink RL 99 yX7_unsaid, Cond.instanceMethod yX7_unsaid, Cond.selects RX7 yX7_unsaid yX7_unsaid, Cond.code yX7_unsaid cX7_unsaid 5 (some .long), Cond.constantLong RX7 211 (-1), Cond.methodLink RL 103 yX8_unsaid, Cond.instanceMethod yX8_unsaid]
def xT35 : List Cond := [Cond.selects RX8 yX8_unsaid yX8_unsaid, Cond.code yX8_unsaid cX8_unsaid 7 (some .long), Cond.methodLink RL 104 yX7_freest, Cond.instanceMethod yX7_freest, Cond.selects RX7 yX7_freest yX7_freest, Cond.code yX7_freest cX7_freest 6 (some .int), Cond.methodLink RX7 213 yX7_freedom, Cond.instanceMethod yX7_freedom, Cond.selects RX7 yX7_freedom yX7_freedom, Cond.code yX7_freedom cX7_freedom 4 (some .int), Cond.methodLink RL 107 yX8_freest, Cond.instanceMethod yX8_freest, Cond.selects RX8 yX8_freest yX8_freest, Cond.code yX8_freest cX8_freest 6 (some .int), Cond.methodLink RX8 219 yX8_freedomOf, Cond.instanceMethod yX8_freedomOf, Cond.selects RX8 yX8_freedomOf yX8_freedomOf, Cond.code yX8_freedomOf cX8_freedomOf 4 (some .int), Cond.methodLink RL 108 yX7_odds, Cond.instanceMethod yX7_odds, Cond.selects RX7 yX7_odds yX7_odds, Cond.code yX7_odds cX7_odds 6 (some .int), Cond.methodLink RX7 216 yX7_commonDivisor, Cond.static yX7_commonDivisor]
def xT36 : List Cond := [Cond.code yX7_commonDivisor cX7_commonDivisor 6 (some .int), Cond.methodLink RL 111 yX8_odds, Cond.instanceMethod yX8_odds, Cond.selects RX8 yX8_odds yX8_odds, Cond.code yX8_odds cX8_odds 8 (some .int), Cond.methodLink RL 112 yX7_fits, Cond.instanceMethod yX7_fits, Cond.selects RX7 yX7_fits yX7_fits, Cond.code yX7_fits cX7_fits 5 (some .int), Cond.fieldLink RX7 227 "ParrotVow$Sheet" "numbers" "LParrotVow$Row;", Cond.methodLink RX7 219 yX7_sheetOf, Cond.instanceMethod yX7_sheetOf, Cond.selects RX7 yX7_sheetOf yX7_sheetOf, Cond.code yX7_sheetOf cX7_sheetOf 2 (some (.object "ParrotVow$Sheet")), Cond.methodLink RX7 223 yX2_isMissing, Cond.instanceMethod yX2_isMissing, Cond.selects RX2 yX2_isMissing yX2_isMissing, Cond.code yX2_isMissing cX2_isMissing 1 (some .boolean), Cond.methodLink RX7 230 yX5_fittingAs, Cond.instanceMethod yX5_fittingAs, Cond.selects RX5 yX5_fittingAs yX5_fittingAs, Cond.code yX5_fittingAs cX5_fittingAs 8 (some .int), Cond.methodLink RX5 60 yX5_toldBy, Cond.instanceMethod yX5_toldBy]
def xT37 : List Cond := [Cond.selects RX5 yX5_toldBy yX5_toldBy, Cond.code yX5_toldBy cX5_toldBy 5 (some .long), Cond.constantLong RX5 58 (-1), Cond.methodLink RX7 234 yX5_leastAs, Cond.instanceMethod yX5_leastAs, Cond.selects RX5 yX5_leastAs yX5_leastAs, Cond.code yX5_leastAs cX5_leastAs 7 (some .int), Cond.methodLink RL 115 yX8_fits, Cond.instanceMethod yX8_fits, Cond.selects RX8 yX8_fits yX8_fits, Cond.code yX8_fits cX8_fits 7 (some .int), Cond.methodLink RX8 222 yX8_isSheet, Cond.static yX8_isSheet, Cond.code yX8_isSheet cX8_isSheet 1 (some .boolean), Cond.methodLink RX8 225 yX8_isSo, Cond.instanceMethod yX8_isSo, Cond.selects RX8 yX8_isSo yX8_isSo, Cond.code yX8_isSo cX8_isSo 5 (some .boolean), Cond.methodLink RL 116 yX7_voice, Cond.instanceMethod yX7_voice, Cond.selects RX7 yX7_voice yX7_voice, Cond.code yX7_voice cX7_voice 5 (some .int), Cond.fieldLink RX7 241 "ParrotVow$Voices" "parted" "Z", Cond.methodLink RX7 237 yX4_hear]
def xT38 : List Cond := [Cond.instanceMethod yX4_hear, Cond.selects RX4 yX4_hear yX4_hear, Cond.code yX4_hear cX4_hear 6 (some .int), Cond.methodLink RX4 34 yX1_clear, Cond.methodLink RX4 37 yX4_speak, Cond.instanceMethod yX4_speak, Cond.selects RX4 yX4_speak yX4_speak, Cond.code yX4_speak cX4_speak 7 (some .int), Cond.methodLink RX4 41 yX4_bodyOf, Cond.static yX4_bodyOf, Cond.code yX4_bodyOf cX4_bodyOf 3 (some .int), Cond.methodLink RX4 49 yX1_add, Cond.methodLink RX4 52 yX4_topmost, Cond.instanceMethod yX4_topmost, Cond.selects RX4 yX4_topmost yX4_topmost, Cond.methodLink RX4 56 yX4_lower, Cond.instanceMethod yX4_lower, Cond.selects RX4 yX4_lower yX4_lower, Cond.code yX4_lower cX4_lower 5 (some .int), Cond.code yX4_topmost cX4_topmost 4 (some .int), Cond.methodLink RL 120 yX8_voice, Cond.instanceMethod yX8_voice, Cond.selects RX8 yX8_voice yX8_voice, Cond.code yX8_voice cX8_voice 5 (some .int)]
def xT39 : List Cond := [Cond.fieldLink RX8 228 "ParrotVowModel" "traced" "I", Cond.fieldLink RX8 255 "ParrotVowModel" "isParted" "Z", Cond.constant RX8 267 (-1000000006), Cond.methodLink RX8 240 yX8_coughs, Cond.instanceMethod yX8_coughs, Cond.selects RX8 yX8_coughs yX8_coughs, Cond.code yX8_coughs cX8_coughs 3 (some .int), Cond.methodLink RX8 237 yX8_carefulCoughs, Cond.instanceMethod yX8_carefulCoughs, Cond.selects RX8 yX8_carefulCoughs yX8_carefulCoughs, Cond.code yX8_carefulCoughs cX8_carefulCoughs 3 (some .int), Cond.methodLink RX8 231 yX8_begins, Cond.instanceMethod yX8_begins, Cond.selects RX8 yX8_begins yX8_begins, Cond.code yX8_begins cX8_begins 2 none, Cond.methodLink RX8 234 yX8_plainCoughs, Cond.instanceMethod yX8_plainCoughs, Cond.selects RX8 yX8_plainCoughs yX8_plainCoughs, Cond.code yX8_plainCoughs cX8_plainCoughs 3 (some .int), Cond.methodLink RX8 249 yX8_talks, Cond.instanceMethod yX8_talks, Cond.selects RX8 yX8_talks yX8_talks, Cond.code yX8_talks cX8_talks 3 (some .int), Cond.methodLink RX8 246 yX8_boldTalks]
def xT40 : List Cond := [Cond.instanceMethod yX8_boldTalks, Cond.selects RX8 yX8_boldTalks yX8_boldTalks, Cond.code yX8_boldTalks cX8_boldTalks 3 (some .int), Cond.methodLink RX8 243 yX8_plainTalks, Cond.instanceMethod yX8_plainTalks, Cond.selects RX8 yX8_plainTalks yX8_plainTalks, Cond.code yX8_plainTalks cX8_plainTalks 3 (some .int), Cond.methodLink RX8 261 yX8_hushes, Cond.instanceMethod yX8_hushes, Cond.selects RX8 yX8_hushes yX8_hushes, Cond.code yX8_hushes cX8_hushes 3 (some .int), Cond.methodLink RX8 252 yX8_plainHushes, Cond.instanceMethod yX8_plainHushes, Cond.selects RX8 yX8_plainHushes yX8_plainHushes, Cond.code yX8_plainHushes cX8_plainHushes 3 (some .int), Cond.methodLink RX8 264 yX8_partsBy, Cond.instanceMethod yX8_partsBy, Cond.selects RX8 yX8_partsBy yX8_partsBy, Cond.code yX8_partsBy cX8_partsBy 4 (some .int), Cond.methodLink RX8 258 yX8_plainParts, Cond.instanceMethod yX8_plainParts, Cond.selects RX8 yX8_plainParts yX8_plainParts, Cond.code yX8_plainParts cX8_plainParts 4 (some .int), Cond.methodLink RL 121 yX7_body]
def xT41 : List Cond := [Cond.instanceMethod yX7_body, Cond.selects RX7 yX7_body yX7_body, Cond.code yX7_body cX7_body 2 (some .int), Cond.fieldLink RX7 244 "ParrotVow$Voices" "trace" "LParrotVow$Row;", Cond.methodLink RL 124 yX8_body, Cond.instanceMethod yX8_body, Cond.selects RX8 yX8_body yX8_body, Cond.code yX8_body cX8_body 2 (some .int), Cond.methodLink RL 125 yX7_sheet, Cond.instanceMethod yX7_sheet, Cond.selects RX7 yX7_sheet yX7_sheet, Cond.code yX7_sheet cX7_sheet 5 (some .int), Cond.methodLink RX7 250 yX7_isWidth, Cond.static yX7_isWidth, Cond.code yX7_isWidth cX7_isWidth 1 (some .boolean), Cond.methodLink RX7 253 yX2_remake, Cond.instanceMethod yX2_remake, Cond.selects RX2 yX2_remake yX2_remake, Cond.code yX2_remake cX2_remake 3 none, Cond.methodLink RX2 24 yX1_zeros, Cond.instanceMethod yX1_zeros, Cond.selects RX1 yX1_zeros yX1_zeros, Cond.code yX1_zeros cX1_zeros 3 none, Cond.methodLink RX1 33 yX1_set]
def xT42 : List Cond := [Cond.methodLink RL 128 yX8_sheet, Cond.instanceMethod yX8_sheet, Cond.selects RX8 yX8_sheet yX8_sheet, Cond.code yX8_sheet cX8_sheet 5 (some .int), Cond.methodLink RL 129 yX7_put, Cond.instanceMethod yX7_put, Cond.selects RX7 yX7_put yX7_put, Cond.code yX7_put cX7_put 5 (some .int), Cond.methodLink RX7 256 yX2_lowestBits, Cond.instanceMethod yX2_lowestBits, Cond.selects RX2 yX2_lowestBits yX2_lowestBits, Cond.code yX2_lowestBits cX2_lowestBits 2 (some .int), Cond.methodLink RL 132 yX8_put, Cond.instanceMethod yX8_put, Cond.selects RX8 yX8_put yX8_put, Cond.code yX8_put cX8_put 5 (some .int), Cond.methodLink RX8 268 yX8_notThere, Cond.instanceMethod yX8_notThere, Cond.selects RX8 yX8_notThere yX8_notThere, Cond.code yX8_notThere cX8_notThere 2 (some .int), Cond.methodLink RL 133 yX7_move, Cond.instanceMethod yX7_move, Cond.selects RX7 yX7_move yX7_move, Cond.code yX7_move cX7_move 8 (some .int)]
def xT43 : List Cond := [Cond.fieldLink RX7 259 "ParrotVow$Sheet" "bits" "I", Cond.methodLink RX7 262 yX1_hasRun, Cond.methodLink RX7 265 yX1_takeRun, Cond.methodLink RL 137 yX8_move, Cond.instanceMethod yX8_move, Cond.selects RX8 yX8_move yX8_move, Cond.code yX8_move cX8_move 9 (some .int), Cond.methodLink RX8 271 yX8_notMoved, Cond.instanceMethod yX8_notMoved, Cond.selects RX8 yX8_notMoved yX8_notMoved, Cond.code yX8_notMoved cX8_notMoved 7 (some .int), Cond.methodLink RL 138 yX7_signs, Cond.instanceMethod yX7_signs, Cond.selects RX7 yX7_signs yX7_signs, Cond.code yX7_signs cX7_signs 5 (some .int), Cond.methodLink RL 141 yX8_signs, Cond.instanceMethod yX8_signs, Cond.selects RX8 yX8_signs yX8_signs, Cond.code yX8_signs cX8_signs 5 (some .int), Cond.methodLink RL 142 yX7_judge, Cond.instanceMethod yX7_judge, Cond.selects RX7 yX7_judge yX7_judge, Cond.code yX7_judge cX7_judge 4 (some .int), Cond.methodLink RL 145 yX8_judge]
def xT44 : List Cond := [Cond.instanceMethod yX8_judge, Cond.selects RX8 yX8_judge yX8_judge, Cond.code yX8_judge cX8_judge 4 (some .int), Cond.methodLink RL 146 yX7_image, Cond.instanceMethod yX7_image, Cond.selects RX7 yX7_image yX7_image, Cond.code yX7_image cX7_image 1 (some .int), Cond.methodLink RX7 272 yX3_takeAll, Cond.instanceMethod yX3_takeAll, Cond.selects RX3 yX3_takeAll yX3_takeAll, Cond.code yX3_takeAll cX3_takeAll 2 none, Cond.methodLink RX3 62 yX1_takeAll, Cond.methodLink RL 150 yX8_image, Cond.instanceMethod yX8_image, Cond.selects RX8 yX8_image yX8_image, Cond.code yX8_image cX8_image 1 (some .int), Cond.fieldLink RX8 279 "ParrotVowModel" "images" "I", Cond.methodLink RX8 275 yX8_copyAll, Cond.static yX8_copyAll, Cond.code yX8_copyAll cX8_copyAll 3 none, Cond.methodLink RL 151 yX7_restore, Cond.instanceMethod yX7_restore, Cond.selects RX7 yX7_restore yX7_restore, Cond.code yX7_restore cX7_restore 1 (some .int)]
def xT45 : List Cond := [Cond.methodLink RL 154 yX8_restore, Cond.instanceMethod yX8_restore, Cond.selects RX8 yX8_restore yX8_restore, Cond.code yX8_restore cX8_restore 1 (some .int), Cond.methodLink RL 155 yX7_tell, Cond.instanceMethod yX7_tell, Cond.selects RX7 yX7_tell yX7_tell, Cond.code yX7_tell cX7_tell 2 (some .int), Cond.fieldLink RX7 275 "ParrotVow$State" "waiting" "LParrotVow$Row;", Cond.methodLink RL 158 yX8_tell, Cond.instanceMethod yX8_tell, Cond.selects RX8 yX8_tell yX8_tell, Cond.code yX8_tell cX8_tell 2 (some .int), Cond.methodLink RL 159 yX7_check, Cond.instanceMethod yX7_check, Cond.selects RX7 yX7_check yX7_check, Cond.code yX7_check cX7_check 3 (some .int), Cond.methodLink RL 162 yX8_check, Cond.instanceMethod yX8_check, Cond.selects RX8 yX8_check yX8_check, Cond.code yX8_check cX8_check 3 (some .int), Cond.methodLink RL 163 yX7_count, Cond.instanceMethod yX7_count, Cond.selects RX7 yX7_count yX7_count]
def xT46 : List Cond := [Cond.code yX7_count cX7_count 2 (some .int), Cond.methodLink RL 166 yX8_count, Cond.instanceMethod yX8_count, Cond.selects RX8 yX8_count yX8_count, Cond.code yX8_count cX8_count 2 (some .int), Cond.methodLink RL 167 yX7_told, Cond.instanceMethod yX7_told, Cond.selects RX7 yX7_told yX7_told, Cond.code yX7_told cX7_told 2 (some .int), Cond.methodLink RL 170 yX8_told, Cond.instanceMethod yX8_told, Cond.selects RX8 yX8_told yX8_told, Cond.code yX8_told cX8_told 2 (some .int)]
def TBL : List Cond := xT0 ++ (xT1 ++ (xT2 ++ (xT3 ++ (xT4 ++ (xT5 ++ (xT6 ++ (xT7 ++ (xT8 ++ (xT9 ++ (xT10 ++ (xT11 ++ (xT12 ++ (xT13 ++ (xT14 ++ (xT15 ++ (xT16 ++ (xT17 ++ (xT18 ++ (xT19 ++ (xT20 ++ (xT21 ++ (xT22 ++ (xT23 ++ (xT24 ++ (xT25 ++ (xT26 ++ (xT27 ++ (xT28 ++ (xT29 ++ (xT30 ++ (xT31 ++ (xT32 ++ (xT33 ++ (xT34 ++ (xT35 ++ (xT36 ++ (xT37 ++ (xT38 ++ (xT39 ++ (xT40 ++ (xT41 ++ (xT42 ++ (xT43 ++ (xT44 ++ (xT45 ++ (xT46 ++ (wsX00 ++ (wsX10 ++ (wsX20 ++ (wsX30 ++ (wsX40 ++ (wsX50 ++ (wsX60 ++ (wsX70 ++ (wsX80)))))))))))))))))))))))))))))))))))))))))))))))))))))))
theorem xc0 : ∀ w ∈ xT0, w ∈ TBL := fun _ h => List.mem_append_left _ h
theorem xc1 : ∀ w ∈ xT1, w ∈ TBL := fun _ h => List.mem_append_right _ (List.mem_append_left _ h)
theorem xc2 : ∀ w ∈ xT2, w ∈ TBL := fun _ h => List.mem_append_right _ (List.mem_append_right _ (List.mem_append_left _ h))
theorem xc3 : ∀ w ∈ xT3, w ∈ TBL := fun _ h => List.mem_append_right _ (List.mem_append_right _ (List.mem_append_right _ (List.mem_append_left _ h)))
theorem xc4 : ∀ w ∈ xT4, w ∈ TBL := fun _ h => List.mem_append_right _ (List.mem_append_right _ (List.mem_append_right _ (List.mem_append_right _ (List.mem_append_left _ h))))
theorem xc5 : ∀ w ∈ xT5, w ∈ TBL := fun _ h => List.mem_append_right _ (List.mem_append_right _ (List.mem_append_right _ (List.mem_append_right _ (List.mem_append_right _ (List.mem_append_left _ h)))))
theorem xc6 : ∀ w ∈ xT6, w ∈ TBL := fun _ h => List.mem_append_right _ (List.mem_append_right _ (List.mem_append_right _ (List.mem_append_right _ (List.mem_append_right _ (List.mem_append_right _ (List.mem_append_left _ h))))))
theorem xc7 : ∀ w ∈ xT7, w ∈ TBL := fun _ h => List.mem_append_right _ (List.mem_append_right _ (List.mem_append_right _ (List.mem_append_right _ (List.mem_append_right _ (List.mem_append_right _ (List.mem_append_right _ (List.mem_append_left _ h)))))))
theorem xc8 : ∀ w ∈ xT8, w ∈ TBL := fun _ h => List.mem_append_right _ (List.mem_append_right _ (List.mem_append_right _ (List.mem_append_right _ (List.mem_append_right _ (List.mem_append_right _ (List.mem_append_right _ (List.mem_append_right _ (List.mem_append_left _ h))))))))
theorem xc9 : ∀ w ∈ xT9, w ∈ TBL := fun _ h => List.mem_append_right _ (List.mem_append_right _ (List.mem_append_right _ (List.mem_append_right _ (List.mem_append_right _ (List.mem_append_right _ (List.mem_append_right _ (List.mem_append_right _ (List.mem_append_right _ (List.mem_append_left _ h)))))))))
theorem xc10 : ∀ w ∈ xT10, w ∈ TBL := fun _ h => List.mem_append_right _ (List.mem_append_right _ (List.mem_append_right _ (List.mem_append_right _ (List.mem_append_right _ (List.mem_append_right _ (List.mem_append_right _ (List.mem_append_right _ (List.mem_append_right _ (List.mem_append_right _ (List.mem_append_left _ h))))))))))
theorem xc11 : ∀ w ∈ xT11, w ∈ TBL := fun _ h => List.mem_append_right _ (List.mem_append_right _ (List.mem_append_right _ (List.mem_append_right _ (List.mem_append_right _ (List.mem_append_right _ (List.mem_append_right _ (List.mem_append_right _ (List.mem_append_right _ (List.mem_append_right _ (List.mem_append_right _ (List.mem_append_left _ h)))))))))))
theorem xc12 : ∀ w ∈ xT12, w ∈ TBL := fun _ h => List.mem_append_right _ (List.mem_append_right _ (List.mem_append_right _ (List.mem_append_right _ (List.mem_append_right _ (List.mem_append_right _ (List.mem_append_right _ (List.mem_append_right _ (List.mem_append_right _ (List.mem_append_right _ (List.mem_append_right _ (List.mem_append_right _ (List.mem_append_left _ h))))))))))))
theorem xc13 : ∀ w ∈ xT13, w ∈ TBL := fun _ h => List.mem_append_right _ (List.mem_append_right _ (List.mem_append_right _ (List.mem_append_right _ (List.mem_append_right _ (List.mem_append_right _ (List.mem_append_right _ (List.mem_append_right _ (List.mem_append_right _ (List.mem_append_right _ (List.mem_append_right _ (List.mem_append_right _ (List.mem_append_right _ (List.mem_append_left _ h)))))))))))))
theorem xc14 : ∀ w ∈ xT14, w ∈ TBL := fun _ h => List.mem_append_right _ (List.mem_append_right _ (List.mem_append_right _ (List.mem_append_right _ (List.mem_append_right _ (List.mem_append_right _ (List.mem_append_right _ (List.mem_append_right _ (List.mem_append_right _ (List.mem_append_right _ (List.mem_append_right _ (List.mem_append_right _ (List.mem_append_right _ (List.mem_append_right _ (List.mem_append_left _ h))))))))))))))
theorem xc15 : ∀ w ∈ xT15, w ∈ TBL := fun _ h => List.mem_append_right _ (List.mem_append_right _ (List.mem_append_right _ (List.mem_append_right _ (List.mem_append_right _ (List.mem_append_right _ (List.mem_append_right _ (List.mem_append_right _ (List.mem_append_right _ (List.mem_append_right _ (List.mem_append_right _ (List.mem_append_right _ (List.mem_append_right _ (List.mem_append_right _ (List.mem_append_right _ (List.mem_append_left _ h)))))))))))))))
theorem xc16 : ∀ w ∈ xT16, w ∈ TBL := fun _ h => List.mem_append_right _ (List.mem_append_right _ (List.mem_append_right _ (List.mem_append_right _ (List.mem_append_right _ (List.mem_append_right _ (List.mem_append_right _ (List.mem_append_right _ (List.mem_append_right _ (List.mem_append_right _ (List.mem_append_right _ (List.mem_append_right _ (List.mem_append_right _ (List.mem_append_right _ (List.mem_append_right _ (List.mem_append_right _ (List.mem_append_left _ h))))))))))))))))
theorem xc17 : ∀ w ∈ xT17, w ∈ TBL := fun _ h => List.mem_append_right _ (List.mem_append_right _ (List.mem_append_right _ (List.mem_append_right _ (List.mem_append_right _ (List.mem_append_right _ (List.mem_append_right _ (List.mem_append_right _ (List.mem_append_right _ (List.mem_append_right _ (List.mem_append_right _ (List.mem_append_right _ (List.mem_append_right _ (List.mem_append_right _ (List.mem_append_right _ (List.mem_append_right _ (List.mem_append_right _ (List.mem_append_left _ h)))))))))))))))))
theorem xc18 : ∀ w ∈ xT18, w ∈ TBL := fun _ h => List.mem_append_right _ (List.mem_append_right _ (List.mem_append_right _ (List.mem_append_right _ (List.mem_append_right _ (List.mem_append_right _ (List.mem_append_right _ (List.mem_append_right _ (List.mem_append_right _ (List.mem_append_right _ (List.mem_append_right _ (List.mem_append_right _ (List.mem_append_right _ (List.mem_append_right _ (List.mem_append_right _ (List.mem_append_right _ (List.mem_append_right _ (List.mem_append_right _ (List.mem_append_left _ h))))))))))))))))))
theorem xc19 : ∀ w ∈ xT19, w ∈ TBL := fun _ h => List.mem_append_right _ (List.mem_append_right _ (List.mem_append_right _ (List.mem_append_right _ (List.mem_append_right _ (List.mem_append_right _ (List.mem_append_right _ (List.mem_append_right _ (List.mem_append_right _ (List.mem_append_right _ (List.mem_append_right _ (List.mem_append_right _ (List.mem_append_right _ (List.mem_append_right _ (List.mem_append_right _ (List.mem_append_right _ (List.mem_append_right _ (List.mem_append_right _ (List.mem_append_right _ (List.mem_append_left _ h)))))))))))))))))))
theorem xc20 : ∀ w ∈ xT20, w ∈ TBL := fun _ h => List.mem_append_right _ (List.mem_append_right _ (List.mem_append_right _ (List.mem_append_right _ (List.mem_append_right _ (List.mem_append_right _ (List.mem_append_right _ (List.mem_append_right _ (List.mem_append_right _ (List.mem_append_right _ (List.mem_append_right _ (List.mem_append_right _ (List.mem_append_right _ (List.mem_append_right _ (List.mem_append_right _ (List.mem_append_right _ (List.mem_append_right _ (List.mem_append_right _ (List.mem_append_right _ (List.mem_append_right _ (List.mem_append_left _ h))))))))))))))))))))
theorem xc21 : ∀ w ∈ xT21, w ∈ TBL := fun _ h => List.mem_append_right _ (List.mem_append_right _ (List.mem_append_right _ (List.mem_append_right _ (List.mem_append_right _ (List.mem_append_right _ (List.mem_append_right _ (List.mem_append_right _ (List.mem_append_right _ (List.mem_append_right _ (List.mem_append_right _ (List.mem_append_right _ (List.mem_append_right _ (List.mem_append_right _ (List.mem_append_right _ (List.mem_append_right _ (List.mem_append_right _ (List.mem_append_right _ (List.mem_append_right _ (List.mem_append_right _ (List.mem_append_right _ (List.mem_append_left _ h)))))))))))))))))))))
theorem xc22 : ∀ w ∈ xT22, w ∈ TBL := fun _ h => List.mem_append_right _ (List.mem_append_right _ (List.mem_append_right _ (List.mem_append_right _ (List.mem_append_right _ (List.mem_append_right _ (List.mem_append_right _ (List.mem_append_right _ (List.mem_append_right _ (List.mem_append_right _ (List.mem_append_right _ (List.mem_append_right _ (List.mem_append_right _ (List.mem_append_right _ (List.mem_append_right _ (List.mem_append_right _ (List.mem_append_right _ (List.mem_append_right _ (List.mem_append_right _ (List.mem_append_right _ (List.mem_append_right _ (List.mem_append_right _ (List.mem_append_left _ h))))))))))))))))))))))
theorem xc23 : ∀ w ∈ xT23, w ∈ TBL := fun _ h => List.mem_append_right _ (List.mem_append_right _ (List.mem_append_right _ (List.mem_append_right _ (List.mem_append_right _ (List.mem_append_right _ (List.mem_append_right _ (List.mem_append_right _ (List.mem_append_right _ (List.mem_append_right _ (List.mem_append_right _ (List.mem_append_right _ (List.mem_append_right _ (List.mem_append_right _ (List.mem_append_right _ (List.mem_append_right _ (List.mem_append_right _ (List.mem_append_right _ (List.mem_append_right _ (List.mem_append_right _ (List.mem_append_right _ (List.mem_append_right _ (List.mem_append_right _ (List.mem_append_left _ h)))))))))))))))))))))))
theorem xc24 : ∀ w ∈ xT24, w ∈ TBL := fun _ h => List.mem_append_right _ (List.mem_append_right _ (List.mem_append_right _ (List.mem_append_right _ (List.mem_append_right _ (List.mem_append_right _ (List.mem_append_right _ (List.mem_append_right _ (List.mem_append_right _ (List.mem_append_right _ (List.mem_append_right _ (List.mem_append_right _ (List.mem_append_right _ (List.mem_append_right _ (List.mem_append_right _ (List.mem_append_right _ (List.mem_append_right _ (List.mem_append_right _ (List.mem_append_right _ (List.mem_append_right _ (List.mem_append_right _ (List.mem_append_right _ (List.mem_append_right _ (List.mem_append_right _ (List.mem_append_left _ h))))))))))))))))))))))))
theorem xc25 : ∀ w ∈ xT25, w ∈ TBL := fun _ h => List.mem_append_right _ (List.mem_append_right _ (List.mem_append_right _ (List.mem_append_right _ (List.mem_append_right _ (List.mem_append_right _ (List.mem_append_right _ (List.mem_append_right _ (List.mem_append_right _ (List.mem_append_right _ (List.mem_append_right _ (List.mem_append_right _ (List.mem_append_right _ (List.mem_append_right _ (List.mem_append_right _ (List.mem_append_right _ (List.mem_append_right _ (List.mem_append_right _ (List.mem_append_right _ (List.mem_append_right _ (List.mem_append_right _ (List.mem_append_right _ (List.mem_append_right _ (List.mem_append_right _ (List.mem_append_right _ (List.mem_append_left _ h)))))))))))))))))))))))))
theorem xc26 : ∀ w ∈ xT26, w ∈ TBL := fun _ h => List.mem_append_right _ (List.mem_append_right _ (List.mem_append_right _ (List.mem_append_right _ (List.mem_append_right _ (List.mem_append_right _ (List.mem_append_right _ (List.mem_append_right _ (List.mem_append_right _ (List.mem_append_right _ (List.mem_append_right _ (List.mem_append_right _ (List.mem_append_right _ (List.mem_append_right _ (List.mem_append_right _ (List.mem_append_right _ (List.mem_append_right _ (List.mem_append_right _ (List.mem_append_right _ (List.mem_append_right _ (List.mem_append_right _ (List.mem_append_right _ (List.mem_append_right _ (List.mem_append_right _ (List.mem_append_right _ (List.mem_append_right _ (List.mem_append_left _ h))))))))))))))))))))))))))
theorem xc27 : ∀ w ∈ xT27, w ∈ TBL := fun _ h => List.mem_append_right _ (List.mem_append_right _ (List.mem_append_right _ (List.mem_append_right _ (List.mem_append_right _ (List.mem_append_right _ (List.mem_append_right _ (List.mem_append_right _ (List.mem_append_right _ (List.mem_append_right _ (List.mem_append_right _ (List.mem_append_right _ (List.mem_append_right _ (List.mem_append_right _ (List.mem_append_right _ (List.mem_append_right _ (List.mem_append_right _ (List.mem_append_right _ (List.mem_append_right _ (List.mem_append_right _ (List.mem_append_right _ (List.mem_append_right _ (List.mem_append_right _ (List.mem_append_right _ (List.mem_append_right _ (List.mem_append_right _ (List.mem_append_right _ (List.mem_append_left _ h)))))))))))))))))))))))))))
theorem xc28 : ∀ w ∈ xT28, w ∈ TBL := fun _ h => List.mem_append_right _ (List.mem_append_right _ (List.mem_append_right _ (List.mem_append_right _ (List.mem_append_right _ (List.mem_append_right _ (List.mem_append_right _ (List.mem_append_right _ (List.mem_append_right _ (List.mem_append_right _ (List.mem_append_right _ (List.mem_append_right _ (List.mem_append_right _ (List.mem_append_right _ (List.mem_append_right _ (List.mem_append_right _ (List.mem_append_right _ (List.mem_append_right _ (List.mem_append_right _ (List.mem_append_right _ (List.mem_append_right _ (List.mem_append_right _ (List.mem_append_right _ (List.mem_append_right _ (List.mem_append_right _ (List.mem_append_right _ (List.mem_append_right _ (List.mem_append_right _ (List.mem_append_left _ h))))))))))))))))))))))))))))
theorem xc29 : ∀ w ∈ xT29, w ∈ TBL := fun _ h => List.mem_append_right _ (List.mem_append_right _ (List.mem_append_right _ (List.mem_append_right _ (List.mem_append_right _ (List.mem_append_right _ (List.mem_append_right _ (List.mem_append_right _ (List.mem_append_right _ (List.mem_append_right _ (List.mem_append_right _ (List.mem_append_right _ (List.mem_append_right _ (List.mem_append_right _ (List.mem_append_right _ (List.mem_append_right _ (List.mem_append_right _ (List.mem_append_right _ (List.mem_append_right _ (List.mem_append_right _ (List.mem_append_right _ (List.mem_append_right _ (List.mem_append_right _ (List.mem_append_right _ (List.mem_append_right _ (List.mem_append_right _ (List.mem_append_right _ (List.mem_append_right _ (List.mem_append_right _ (List.mem_append_left _ h)))))))))))))))))))))))))))))
theorem xc30 : ∀ w ∈ xT30, w ∈ TBL := fun _ h => List.mem_append_right _ (List.mem_append_right _ (List.mem_append_right _ (List.mem_append_right _ (List.mem_append_right _ (List.mem_append_right _ (List.mem_append_right _ (List.mem_append_right _ (List.mem_append_right _ (List.mem_append_right _ (List.mem_append_right _ (List.mem_append_right _ (List.mem_append_right _ (List.mem_append_right _ (List.mem_append_right _ (List.mem_append_right _ (List.mem_append_right _ (List.mem_append_right _ (List.mem_append_right _ (List.mem_append_right _ (List.mem_append_right _ (List.mem_append_right _ (List.mem_append_right _ (List.mem_append_right _ (List.mem_append_right _ (List.mem_append_right _ (List.mem_append_right _ (List.mem_append_right _ (List.mem_append_right _ (List.mem_append_right _ (List.mem_append_left _ h))))))))))))))))))))))))))))))
theorem xc31 : ∀ w ∈ xT31, w ∈ TBL := fun _ h => List.mem_append_right _ (List.mem_append_right _ (List.mem_append_right _ (List.mem_append_right _ (List.mem_append_right _ (List.mem_append_right _ (List.mem_append_right _ (List.mem_append_right _ (List.mem_append_right _ (List.mem_append_right _ (List.mem_append_right _ (List.mem_append_right _ (List.mem_append_right _ (List.mem_append_right _ (List.mem_append_right _ (List.mem_append_right _ (List.mem_append_right _ (List.mem_append_right _ (List.mem_append_right _ (List.mem_append_right _ (List.mem_append_right _ (List.mem_append_right _ (List.mem_append_right _ (List.mem_append_right _ (List.mem_append_right _ (List.mem_append_right _ (List.mem_append_right _ (List.mem_append_right _ (List.mem_append_right _ (List.mem_append_right _ (List.mem_append_right _ (List.mem_append_left _ h)))))))))))))))))))))))))))))))
theorem xc32 : ∀ w ∈ xT32, w ∈ TBL := fun _ h => List.mem_append_right _ (List.mem_append_right _ (List.mem_append_right _ (List.mem_append_right _ (List.mem_append_right _ (List.mem_append_right _ (List.mem_append_right _ (List.mem_append_right _ (List.mem_append_right _ (List.mem_append_right _ (List.mem_append_right _ (List.mem_append_right _ (List.mem_append_right _ (List.mem_append_right _ (List.mem_append_right _ (List.mem_append_right _ (List.mem_append_right _ (List.mem_append_right _ (List.mem_append_right _ (List.mem_append_right _ (List.mem_append_right _ (List.mem_append_right _ (List.mem_append_right _ (List.mem_append_right _ (List.mem_append_right _ (List.mem_append_right _ (List.mem_append_right _ (List.mem_append_right _ (List.mem_append_right _ (List.mem_append_right _ (List.mem_append_right _ (List.mem_append_right _ (List.mem_append_left _ h))))))))))))))))))))))))))))))))
theorem xc33 : ∀ w ∈ xT33, w ∈ TBL := fun _ h => List.mem_append_right _ (List.mem_append_right _ (List.mem_append_right _ (List.mem_append_right _ (List.mem_append_right _ (List.mem_append_right _ (List.mem_append_right _ (List.mem_append_right _ (List.mem_append_right _ (List.mem_append_right _ (List.mem_append_right _ (List.mem_append_right _ (List.mem_append_right _ (List.mem_append_right _ (List.mem_append_right _ (List.mem_append_right _ (List.mem_append_right _ (List.mem_append_right _ (List.mem_append_right _ (List.mem_append_right _ (List.mem_append_right _ (List.mem_append_right _ (List.mem_append_right _ (List.mem_append_right _ (List.mem_append_right _ (List.mem_append_right _ (List.mem_append_right _ (List.mem_append_right _ (List.mem_append_right _ (List.mem_append_right _ (List.mem_append_right _ (List.mem_append_right _ (List.mem_append_right _ (List.mem_append_left _ h)))))))))))))))))))))))))))))))))
theorem xc34 : ∀ w ∈ xT34, w ∈ TBL := fun _ h => List.mem_append_right _ (List.mem_append_right _ (List.mem_append_right _ (List.mem_append_right _ (List.mem_append_right _ (List.mem_append_right _ (List.mem_append_right _ (List.mem_append_right _ (List.mem_append_right _ (List.mem_append_right _ (List.mem_append_right _ (List.mem_append_right _ (List.mem_append_right _ (List.mem_append_right _ (List.mem_append_right _ (List.mem_append_right _ (List.mem_append_right _ (List.mem_append_right _ (List.mem_append_right _ (List.mem_append_right _ (List.mem_append_right _ (List.mem_append_right _ (List.mem_append_right _ (List.mem_append_right _ (List.mem_append_right _ (List.mem_append_right _ (List.mem_append_right _ (List.mem_append_right _ (List.mem_append_right _ (List.mem_append_right _ (List.mem_append_right _ (List.mem_append_right _ (List.mem_append_right _ (List.mem_append_right _ (List.mem_append_left _ h))))))))))))))))))))))))))))))))))
theorem xc35 : ∀ w ∈ xT35, w ∈ TBL := fun _ h => List.mem_append_right _ (List.mem_append_right _ (List.mem_append_right _ (List.mem_append_right _ (List.mem_append_right _ (List.mem_append_right _ (List.mem_append_right _ (List.mem_append_right _ (List.mem_append_right _ (List.mem_append_right _ (List.mem_append_right _ (List.mem_append_right _ (List.mem_append_right _ (List.mem_append_right _ (List.mem_append_right _ (List.mem_append_right _ (List.mem_append_right _ (List.mem_append_right _ (List.mem_append_right _ (List.mem_append_right _ (List.mem_append_right _ (List.mem_append_right _ (List.mem_append_right _ (List.mem_append_right _ (List.mem_append_right _ (List.mem_append_right _ (List.mem_append_right _ (List.mem_append_right _ (List.mem_append_right _ (List.mem_append_right _ (List.mem_append_right _ (List.mem_append_right _ (List.mem_append_right _ (List.mem_append_right _ (List.mem_append_right _ (List.mem_append_left _ h)))))))))))))))))))))))))))))))))))
theorem xc36 : ∀ w ∈ xT36, w ∈ TBL := fun _ h => List.mem_append_right _ (List.mem_append_right _ (List.mem_append_right _ (List.mem_append_right _ (List.mem_append_right _ (List.mem_append_right _ (List.mem_append_right _ (List.mem_append_right _ (List.mem_append_right _ (List.mem_append_right _ (List.mem_append_right _ (List.mem_append_right _ (List.mem_append_right _ (List.mem_append_right _ (List.mem_append_right _ (List.mem_append_right _ (List.mem_append_right _ (List.mem_append_right _ (List.mem_append_right _ (List.mem_append_right _ (List.mem_append_right _ (List.mem_append_right _ (List.mem_append_right _ (List.mem_append_right _ (List.mem_append_right _ (List.mem_append_right _ (List.mem_append_right _ (List.mem_append_right _ (List.mem_append_right _ (List.mem_append_right _ (List.mem_append_right _ (List.mem_append_right _ (List.mem_append_right _ (List.mem_append_right _ (List.mem_append_right _ (List.mem_append_right _ (List.mem_append_left _ h))))))))))))))))))))))))))))))))))))
theorem xc37 : ∀ w ∈ xT37, w ∈ TBL := fun _ h => List.mem_append_right _ (List.mem_append_right _ (List.mem_append_right _ (List.mem_append_right _ (List.mem_append_right _ (List.mem_append_right _ (List.mem_append_right _ (List.mem_append_right _ (List.mem_append_right _ (List.mem_append_right _ (List.mem_append_right _ (List.mem_append_right _ (List.mem_append_right _ (List.mem_append_right _ (List.mem_append_right _ (List.mem_append_right _ (List.mem_append_right _ (List.mem_append_right _ (List.mem_append_right _ (List.mem_append_right _ (List.mem_append_right _ (List.mem_append_right _ (List.mem_append_right _ (List.mem_append_right _ (List.mem_append_right _ (List.mem_append_right _ (List.mem_append_right _ (List.mem_append_right _ (List.mem_append_right _ (List.mem_append_right _ (List.mem_append_right _ (List.mem_append_right _ (List.mem_append_right _ (List.mem_append_right _ (List.mem_append_right _ (List.mem_append_right _ (List.mem_append_right _ (List.mem_append_left _ h)))))))))))))))))))))))))))))))))))))
theorem xc38 : ∀ w ∈ xT38, w ∈ TBL := fun _ h => List.mem_append_right _ (List.mem_append_right _ (List.mem_append_right _ (List.mem_append_right _ (List.mem_append_right _ (List.mem_append_right _ (List.mem_append_right _ (List.mem_append_right _ (List.mem_append_right _ (List.mem_append_right _ (List.mem_append_right _ (List.mem_append_right _ (List.mem_append_right _ (List.mem_append_right _ (List.mem_append_right _ (List.mem_append_right _ (List.mem_append_right _ (List.mem_append_right _ (List.mem_append_right _ (List.mem_append_right _ (List.mem_append_right _ (List.mem_append_right _ (List.mem_append_right _ (List.mem_append_right _ (List.mem_append_right _ (List.mem_append_right _ (List.mem_append_right _ (List.mem_append_right _ (List.mem_append_right _ (List.mem_append_right _ (List.mem_append_right _ (List.mem_append_right _ (List.mem_append_right _ (List.mem_append_right _ (List.mem_append_right _ (List.mem_append_right _ (List.mem_append_right _ (List.mem_append_right _ (List.mem_append_left _ h))))))))))))))))))))))))))))))))))))))
theorem xc39 : ∀ w ∈ xT39, w ∈ TBL := fun _ h => List.mem_append_right _ (List.mem_append_right _ (List.mem_append_right _ (List.mem_append_right _ (List.mem_append_right _ (List.mem_append_right _ (List.mem_append_right _ (List.mem_append_right _ (List.mem_append_right _ (List.mem_append_right _ (List.mem_append_right _ (List.mem_append_right _ (List.mem_append_right _ (List.mem_append_right _ (List.mem_append_right _ (List.mem_append_right _ (List.mem_append_right _ (List.mem_append_right _ (List.mem_append_right _ (List.mem_append_right _ (List.mem_append_right _ (List.mem_append_right _ (List.mem_append_right _ (List.mem_append_right _ (List.mem_append_right _ (List.mem_append_right _ (List.mem_append_right _ (List.mem_append_right _ (List.mem_append_right _ (List.mem_append_right _ (List.mem_append_right _ (List.mem_append_right _ (List.mem_append_right _ (List.mem_append_right _ (List.mem_append_right _ (List.mem_append_right _ (List.mem_append_right _ (List.mem_append_right _ (List.mem_append_right _ (List.mem_append_left _ h)))))))))))))))))))))))))))))))))))))))
theorem xc40 : ∀ w ∈ xT40, w ∈ TBL := fun _ h => List.mem_append_right _ (List.mem_append_right _ (List.mem_append_right _ (List.mem_append_right _ (List.mem_append_right _ (List.mem_append_right _ (List.mem_append_right _ (List.mem_append_right _ (List.mem_append_right _ (List.mem_append_right _ (List.mem_append_right _ (List.mem_append_right _ (List.mem_append_right _ (List.mem_append_right _ (List.mem_append_right _ (List.mem_append_right _ (List.mem_append_right _ (List.mem_append_right _ (List.mem_append_right _ (List.mem_append_right _ (List.mem_append_right _ (List.mem_append_right _ (List.mem_append_right _ (List.mem_append_right _ (List.mem_append_right _ (List.mem_append_right _ (List.mem_append_right _ (List.mem_append_right _ (List.mem_append_right _ (List.mem_append_right _ (List.mem_append_right _ (List.mem_append_right _ (List.mem_append_right _ (List.mem_append_right _ (List.mem_append_right _ (List.mem_append_right _ (List.mem_append_right _ (List.mem_append_right _ (List.mem_append_right _ (List.mem_append_right _ (List.mem_append_left _ h))))))))))))))))))))))))))))))))))))))))
theorem xc41 : ∀ w ∈ xT41, w ∈ TBL := fun _ h => List.mem_append_right _ (List.mem_append_right _ (List.mem_append_right _ (List.mem_append_right _ (List.mem_append_right _ (List.mem_append_right _ (List.mem_append_right _ (List.mem_append_right _ (List.mem_append_right _ (List.mem_append_right _ (List.mem_append_right _ (List.mem_append_right _ (List.mem_append_right _ (List.mem_append_right _ (List.mem_append_right _ (List.mem_append_right _ (List.mem_append_right _ (List.mem_append_right _ (List.mem_append_right _ (List.mem_append_right _ (List.mem_append_right _ (List.mem_append_right _ (List.mem_append_right _ (List.mem_append_right _ (List.mem_append_right _ (List.mem_append_right _ (List.mem_append_right _ (List.mem_append_right _ (List.mem_append_right _ (List.mem_append_right _ (List.mem_append_right _ (List.mem_append_right _ (List.mem_append_right _ (List.mem_append_right _ (List.mem_append_right _ (List.mem_append_right _ (List.mem_append_right _ (List.mem_append_right _ (List.mem_append_right _ (List.mem_append_right _ (List.mem_append_right _ (List.mem_append_left _ h)))))))))))))))))))))))))))))))))))))))))
theorem xc42 : ∀ w ∈ xT42, w ∈ TBL := fun _ h => List.mem_append_right _ (List.mem_append_right _ (List.mem_append_right _ (List.mem_append_right _ (List.mem_append_right _ (List.mem_append_right _ (List.mem_append_right _ (List.mem_append_right _ (List.mem_append_right _ (List.mem_append_right _ (List.mem_append_right _ (List.mem_append_right _ (List.mem_append_right _ (List.mem_append_right _ (List.mem_append_right _ (List.mem_append_right _ (List.mem_append_right _ (List.mem_append_right _ (List.mem_append_right _ (List.mem_append_right _ (List.mem_append_right _ (List.mem_append_right _ (List.mem_append_right _ (List.mem_append_right _ (List.mem_append_right _ (List.mem_append_right _ (List.mem_append_right _ (List.mem_append_right _ (List.mem_append_right _ (List.mem_append_right _ (List.mem_append_right _ (List.mem_append_right _ (List.mem_append_right _ (List.mem_append_right _ (List.mem_append_right _ (List.mem_append_right _ (List.mem_append_right _ (List.mem_append_right _ (List.mem_append_right _ (List.mem_append_right _ (List.mem_append_right _ (List.mem_append_right _ (List.mem_append_left _ h))))))))))))))))))))))))))))))))))))))))))
theorem xc43 : ∀ w ∈ xT43, w ∈ TBL := fun _ h => List.mem_append_right _ (List.mem_append_right _ (List.mem_append_right _ (List.mem_append_right _ (List.mem_append_right _ (List.mem_append_right _ (List.mem_append_right _ (List.mem_append_right _ (List.mem_append_right _ (List.mem_append_right _ (List.mem_append_right _ (List.mem_append_right _ (List.mem_append_right _ (List.mem_append_right _ (List.mem_append_right _ (List.mem_append_right _ (List.mem_append_right _ (List.mem_append_right _ (List.mem_append_right _ (List.mem_append_right _ (List.mem_append_right _ (List.mem_append_right _ (List.mem_append_right _ (List.mem_append_right _ (List.mem_append_right _ (List.mem_append_right _ (List.mem_append_right _ (List.mem_append_right _ (List.mem_append_right _ (List.mem_append_right _ (List.mem_append_right _ (List.mem_append_right _ (List.mem_append_right _ (List.mem_append_right _ (List.mem_append_right _ (List.mem_append_right _ (List.mem_append_right _ (List.mem_append_right _ (List.mem_append_right _ (List.mem_append_right _ (List.mem_append_right _ (List.mem_append_right _ (List.mem_append_right _ (List.mem_append_left _ h)))))))))))))))))))))))))))))))))))))))))))
theorem xc44 : ∀ w ∈ xT44, w ∈ TBL := fun _ h => List.mem_append_right _ (List.mem_append_right _ (List.mem_append_right _ (List.mem_append_right _ (List.mem_append_right _ (List.mem_append_right _ (List.mem_append_right _ (List.mem_append_right _ (List.mem_append_right _ (List.mem_append_right _ (List.mem_append_right _ (List.mem_append_right _ (List.mem_append_right _ (List.mem_append_right _ (List.mem_append_right _ (List.mem_append_right _ (List.mem_append_right _ (List.mem_append_right _ (List.mem_append_right _ (List.mem_append_right _ (List.mem_append_right _ (List.mem_append_right _ (List.mem_append_right _ (List.mem_append_right _ (List.mem_append_right _ (List.mem_append_right _ (List.mem_append_right _ (List.mem_append_right _ (List.mem_append_right _ (List.mem_append_right _ (List.mem_append_right _ (List.mem_append_right _ (List.mem_append_right _ (List.mem_append_right _ (List.mem_append_right _ (List.mem_append_right _ (List.mem_append_right _ (List.mem_append_right _ (List.mem_append_right _ (List.mem_append_right _ (List.mem_append_right _ (List.mem_append_right _ (List.mem_append_right _ (List.mem_append_right _ (List.mem_append_left _ h))))))))))))))))))))))))))))))))))))))))))))
theorem xc45 : ∀ w ∈ xT45, w ∈ TBL := fun _ h => List.mem_append_right _ (List.mem_append_right _ (List.mem_append_right _ (List.mem_append_right _ (List.mem_append_right _ (List.mem_append_right _ (List.mem_append_right _ (List.mem_append_right _ (List.mem_append_right _ (List.mem_append_right _ (List.mem_append_right _ (List.mem_append_right _ (List.mem_append_right _ (List.mem_append_right _ (List.mem_append_right _ (List.mem_append_right _ (List.mem_append_right _ (List.mem_append_right _ (List.mem_append_right _ (List.mem_append_right _ (List.mem_append_right _ (List.mem_append_right _ (List.mem_append_right _ (List.mem_append_right _ (List.mem_append_right _ (List.mem_append_right _ (List.mem_append_right _ (List.mem_append_right _ (List.mem_append_right _ (List.mem_append_right _ (List.mem_append_right _ (List.mem_append_right _ (List.mem_append_right _ (List.mem_append_right _ (List.mem_append_right _ (List.mem_append_right _ (List.mem_append_right _ (List.mem_append_right _ (List.mem_append_right _ (List.mem_append_right _ (List.mem_append_right _ (List.mem_append_right _ (List.mem_append_right _ (List.mem_append_right _ (List.mem_append_right _ (List.mem_append_left _ h)))))))))))))))))))))))))))))))))))))))))))))
theorem xc46 : ∀ w ∈ xT46, w ∈ TBL := fun _ h => List.mem_append_right _ (List.mem_append_right _ (List.mem_append_right _ (List.mem_append_right _ (List.mem_append_right _ (List.mem_append_right _ (List.mem_append_right _ (List.mem_append_right _ (List.mem_append_right _ (List.mem_append_right _ (List.mem_append_right _ (List.mem_append_right _ (List.mem_append_right _ (List.mem_append_right _ (List.mem_append_right _ (List.mem_append_right _ (List.mem_append_right _ (List.mem_append_right _ (List.mem_append_right _ (List.mem_append_right _ (List.mem_append_right _ (List.mem_append_right _ (List.mem_append_right _ (List.mem_append_right _ (List.mem_append_right _ (List.mem_append_right _ (List.mem_append_right _ (List.mem_append_right _ (List.mem_append_right _ (List.mem_append_right _ (List.mem_append_right _ (List.mem_append_right _ (List.mem_append_right _ (List.mem_append_right _ (List.mem_append_right _ (List.mem_append_right _ (List.mem_append_right _ (List.mem_append_right _ (List.mem_append_right _ (List.mem_append_right _ (List.mem_append_right _ (List.mem_append_right _ (List.mem_append_right _ (List.mem_append_right _ (List.mem_append_right _ (List.mem_append_right _ (List.mem_append_left _ h))))))))))))))))))))))))))))))))))))))))))))))
theorem xc47 : ∀ w ∈ wsX00, w ∈ TBL := fun _ h => List.mem_append_right _ (List.mem_append_right _ (List.mem_append_right _ (List.mem_append_right _ (List.mem_append_right _ (List.mem_append_right _ (List.mem_append_right _ (List.mem_append_right _ (List.mem_append_right _ (List.mem_append_right _ (List.mem_append_right _ (List.mem_append_right _ (List.mem_append_right _ (List.mem_append_right _ (List.mem_append_right _ (List.mem_append_right _ (List.mem_append_right _ (List.mem_append_right _ (List.mem_append_right _ (List.mem_append_right _ (List.mem_append_right _ (List.mem_append_right _ (List.mem_append_right _ (List.mem_append_right _ (List.mem_append_right _ (List.mem_append_right _ (List.mem_append_right _ (List.mem_append_right _ (List.mem_append_right _ (List.mem_append_right _ (List.mem_append_right _ (List.mem_append_right _ (List.mem_append_right _ (List.mem_append_right _ (List.mem_append_right _ (List.mem_append_right _ (List.mem_append_right _ (List.mem_append_right _ (List.mem_append_right _ (List.mem_append_right _ (List.mem_append_right _ (List.mem_append_right _ (List.mem_append_right _ (List.mem_append_right _ (List.mem_append_right _ (List.mem_append_right _ (List.mem_append_right _ (List.mem_append_left _ h)))))))))))))))))))))))))))))))))))))))))))))))
theorem xc48 : ∀ w ∈ wsX10, w ∈ TBL := fun _ h => List.mem_append_right _ (List.mem_append_right _ (List.mem_append_right _ (List.mem_append_right _ (List.mem_append_right _ (List.mem_append_right _ (List.mem_append_right _ (List.mem_append_right _ (List.mem_append_right _ (List.mem_append_right _ (List.mem_append_right _ (List.mem_append_right _ (List.mem_append_right _ (List.mem_append_right _ (List.mem_append_right _ (List.mem_append_right _ (List.mem_append_right _ (List.mem_append_right _ (List.mem_append_right _ (List.mem_append_right _ (List.mem_append_right _ (List.mem_append_right _ (List.mem_append_right _ (List.mem_append_right _ (List.mem_append_right _ (List.mem_append_right _ (List.mem_append_right _ (List.mem_append_right _ (List.mem_append_right _ (List.mem_append_right _ (List.mem_append_right _ (List.mem_append_right _ (List.mem_append_right _ (List.mem_append_right _ (List.mem_append_right _ (List.mem_append_right _ (List.mem_append_right _ (List.mem_append_right _ (List.mem_append_right _ (List.mem_append_right _ (List.mem_append_right _ (List.mem_append_right _ (List.mem_append_right _ (List.mem_append_right _ (List.mem_append_right _ (List.mem_append_right _ (List.mem_append_right _ (List.mem_append_right _ (List.mem_append_left _ h))))))))))))))))))))))))))))))))))))))))))))))))
theorem xc49 : ∀ w ∈ wsX20, w ∈ TBL := fun _ h => List.mem_append_right _ (List.mem_append_right _ (List.mem_append_right _ (List.mem_append_right _ (List.mem_append_right _ (List.mem_append_right _ (List.mem_append_right _ (List.mem_append_right _ (List.mem_append_right _ (List.mem_append_right _ (List.mem_append_right _ (List.mem_append_right _ (List.mem_append_right _ (List.mem_append_right _ (List.mem_append_right _ (List.mem_append_right _ (List.mem_append_right _ (List.mem_append_right _ (List.mem_append_right _ (List.mem_append_right _ (List.mem_append_right _ (List.mem_append_right _ (List.mem_append_right _ (List.mem_append_right _ (List.mem_append_right _ (List.mem_append_right _ (List.mem_append_right _ (List.mem_append_right _ (List.mem_append_right _ (List.mem_append_right _ (List.mem_append_right _ (List.mem_append_right _ (List.mem_append_right _ (List.mem_append_right _ (List.mem_append_right _ (List.mem_append_right _ (List.mem_append_right _ (List.mem_append_right _ (List.mem_append_right _ (List.mem_append_right _ (List.mem_append_right _ (List.mem_append_right _ (List.mem_append_right _ (List.mem_append_right _ (List.mem_append_right _ (List.mem_append_right _ (List.mem_append_right _ (List.mem_append_right _ (List.mem_append_right _ (List.mem_append_left _ h)))))))))))))))))))))))))))))))))))))))))))))))))
theorem xc50 : ∀ w ∈ wsX30, w ∈ TBL := fun _ h => List.mem_append_right _ (List.mem_append_right _ (List.mem_append_right _ (List.mem_append_right _ (List.mem_append_right _ (List.mem_append_right _ (List.mem_append_right _ (List.mem_append_right _ (List.mem_append_right _ (List.mem_append_right _ (List.mem_append_right _ (List.mem_append_right _ (List.mem_append_right _ (List.mem_append_right _ (List.mem_append_right _ (List.mem_append_right _ (List.mem_append_right _ (List.mem_append_right _ (List.mem_append_right _ (List.mem_append_right _ (List.mem_append_right _ (List.mem_append_right _ (List.mem_append_right _ (List.mem_append_right _ (List.mem_append_right _ (List.mem_append_right _ (List.mem_append_right _ (List.mem_append_right _ (List.mem_append_right _ (List.mem_append_right _ (List.mem_append_right _ (List.mem_append_right _ (List.mem_append_right _ (List.mem_append_right _ (List.mem_append_right _ (List.mem_append_right _ (List.mem_append_right _ (List.mem_append_right _ (List.mem_append_right _ (List.mem_append_right _ (List.mem_append_right _ (List.mem_append_right _ (List.mem_append_right _ (List.mem_append_right _ (List.mem_append_right _ (List.mem_append_right _ (List.mem_append_right _ (List.mem_append_right _ (List.mem_append_right _ (List.mem_append_right _ (List.mem_append_left _ h))))))))))))))))))))))))))))))))))))))))))))))))))
theorem xc51 : ∀ w ∈ wsX40, w ∈ TBL := fun _ h => List.mem_append_right _ (List.mem_append_right _ (List.mem_append_right _ (List.mem_append_right _ (List.mem_append_right _ (List.mem_append_right _ (List.mem_append_right _ (List.mem_append_right _ (List.mem_append_right _ (List.mem_append_right _ (List.mem_append_right _ (List.mem_append_right _ (List.mem_append_right _ (List.mem_append_right _ (List.mem_append_right _ (List.mem_append_right _ (List.mem_append_right _ (List.mem_append_right _ (List.mem_append_right _ (List.mem_append_right _ (List.mem_append_right _ (List.mem_append_right _ (List.mem_append_right _ (List.mem_append_right _ (List.mem_append_right _ (List.mem_append_right _ (List.mem_append_right _ (List.mem_append_right _ (List.mem_append_right _ (List.mem_append_right _ (List.mem_append_right _ (List.mem_append_right _ (List.mem_append_right _ (List.mem_append_right _ (List.mem_append_right _ (List.mem_append_right _ (List.mem_append_right _ (List.mem_append_right _ (List.mem_append_right _ (List.mem_append_right _ (List.mem_append_right _ (List.mem_append_right _ (List.mem_append_right _ (List.mem_append_right _ (List.mem_append_right _ (List.mem_append_right _ (List.mem_append_right _ (List.mem_append_right _ (List.mem_append_right _ (List.mem_append_right _ (List.mem_append_right _ (List.mem_append_left _ h)))))))))))))))))))))))))))))))))))))))))))))))))))
theorem xc52 : ∀ w ∈ wsX50, w ∈ TBL := fun _ h => List.mem_append_right _ (List.mem_append_right _ (List.mem_append_right _ (List.mem_append_right _ (List.mem_append_right _ (List.mem_append_right _ (List.mem_append_right _ (List.mem_append_right _ (List.mem_append_right _ (List.mem_append_right _ (List.mem_append_right _ (List.mem_append_right _ (List.mem_append_right _ (List.mem_append_right _ (List.mem_append_right _ (List.mem_append_right _ (List.mem_append_right _ (List.mem_append_right _ (List.mem_append_right _ (List.mem_append_right _ (List.mem_append_right _ (List.mem_append_right _ (List.mem_append_right _ (List.mem_append_right _ (List.mem_append_right _ (List.mem_append_right _ (List.mem_append_right _ (List.mem_append_right _ (List.mem_append_right _ (List.mem_append_right _ (List.mem_append_right _ (List.mem_append_right _ (List.mem_append_right _ (List.mem_append_right _ (List.mem_append_right _ (List.mem_append_right _ (List.mem_append_right _ (List.mem_append_right _ (List.mem_append_right _ (List.mem_append_right _ (List.mem_append_right _ (List.mem_append_right _ (List.mem_append_right _ (List.mem_append_right _ (List.mem_append_right _ (List.mem_append_right _ (List.mem_append_right _ (List.mem_append_right _ (List.mem_append_right _ (List.mem_append_right _ (List.mem_append_right _ (List.mem_append_right _ (List.mem_append_left _ h))))))))))))))))))))))))))))))))))))))))))))))))))))
theorem xc53 : ∀ w ∈ wsX60, w ∈ TBL := fun _ h => List.mem_append_right _ (List.mem_append_right _ (List.mem_append_right _ (List.mem_append_right _ (List.mem_append_right _ (List.mem_append_right _ (List.mem_append_right _ (List.mem_append_right _ (List.mem_append_right _ (List.mem_append_right _ (List.mem_append_right _ (List.mem_append_right _ (List.mem_append_right _ (List.mem_append_right _ (List.mem_append_right _ (List.mem_append_right _ (List.mem_append_right _ (List.mem_append_right _ (List.mem_append_right _ (List.mem_append_right _ (List.mem_append_right _ (List.mem_append_right _ (List.mem_append_right _ (List.mem_append_right _ (List.mem_append_right _ (List.mem_append_right _ (List.mem_append_right _ (List.mem_append_right _ (List.mem_append_right _ (List.mem_append_right _ (List.mem_append_right _ (List.mem_append_right _ (List.mem_append_right _ (List.mem_append_right _ (List.mem_append_right _ (List.mem_append_right _ (List.mem_append_right _ (List.mem_append_right _ (List.mem_append_right _ (List.mem_append_right _ (List.mem_append_right _ (List.mem_append_right _ (List.mem_append_right _ (List.mem_append_right _ (List.mem_append_right _ (List.mem_append_right _ (List.mem_append_right _ (List.mem_append_right _ (List.mem_append_right _ (List.mem_append_right _ (List.mem_append_right _ (List.mem_append_right _ (List.mem_append_right _ (List.mem_append_left _ h)))))))))))))))))))))))))))))))))))))))))))))))))))))
theorem xc54 : ∀ w ∈ wsX70, w ∈ TBL := fun _ h => List.mem_append_right _ (List.mem_append_right _ (List.mem_append_right _ (List.mem_append_right _ (List.mem_append_right _ (List.mem_append_right _ (List.mem_append_right _ (List.mem_append_right _ (List.mem_append_right _ (List.mem_append_right _ (List.mem_append_right _ (List.mem_append_right _ (List.mem_append_right _ (List.mem_append_right _ (List.mem_append_right _ (List.mem_append_right _ (List.mem_append_right _ (List.mem_append_right _ (List.mem_append_right _ (List.mem_append_right _ (List.mem_append_right _ (List.mem_append_right _ (List.mem_append_right _ (List.mem_append_right _ (List.mem_append_right _ (List.mem_append_right _ (List.mem_append_right _ (List.mem_append_right _ (List.mem_append_right _ (List.mem_append_right _ (List.mem_append_right _ (List.mem_append_right _ (List.mem_append_right _ (List.mem_append_right _ (List.mem_append_right _ (List.mem_append_right _ (List.mem_append_right _ (List.mem_append_right _ (List.mem_append_right _ (List.mem_append_right _ (List.mem_append_right _ (List.mem_append_right _ (List.mem_append_right _ (List.mem_append_right _ (List.mem_append_right _ (List.mem_append_right _ (List.mem_append_right _ (List.mem_append_right _ (List.mem_append_right _ (List.mem_append_right _ (List.mem_append_right _ (List.mem_append_right _ (List.mem_append_right _ (List.mem_append_right _ (List.mem_append_left _ h))))))))))))))))))))))))))))))))))))))))))))))))))))))
theorem xc55 : ∀ w ∈ wsX80, w ∈ TBL := fun _ h => List.mem_append_right _ (List.mem_append_right _ (List.mem_append_right _ (List.mem_append_right _ (List.mem_append_right _ (List.mem_append_right _ (List.mem_append_right _ (List.mem_append_right _ (List.mem_append_right _ (List.mem_append_right _ (List.mem_append_right _ (List.mem_append_right _ (List.mem_append_right _ (List.mem_append_right _ (List.mem_append_right _ (List.mem_append_right _ (List.mem_append_right _ (List.mem_append_right _ (List.mem_append_right _ (List.mem_append_right _ (List.mem_append_right _ (List.mem_append_right _ (List.mem_append_right _ (List.mem_append_right _ (List.mem_append_right _ (List.mem_append_right _ (List.mem_append_right _ (List.mem_append_right _ (List.mem_append_right _ (List.mem_append_right _ (List.mem_append_right _ (List.mem_append_right _ (List.mem_append_right _ (List.mem_append_right _ (List.mem_append_right _ (List.mem_append_right _ (List.mem_append_right _ (List.mem_append_right _ (List.mem_append_right _ (List.mem_append_right _ (List.mem_append_right _ (List.mem_append_right _ (List.mem_append_right _ (List.mem_append_right _ (List.mem_append_right _ (List.mem_append_right _ (List.mem_append_right _ (List.mem_append_right _ (List.mem_append_right _ (List.mem_append_right _ (List.mem_append_right _ (List.mem_append_right _ (List.mem_append_right _ (List.mem_append_right _ (List.mem_append_right _ (h)))))))))))))))))))))))))))))))))))))))))))))))))))))))
theorem m0 : Cond.classLink RL 7 RX7 ∈ TBL := xc0 _ (List.mem_of_getElem? (i := 0) rfl)
theorem m1 : Cond.instantiable RX7 10 ∈ TBL := xc0 _ (List.mem_of_getElem? (i := 1) rfl)
theorem m2 : Cond.initialized RX7 ∈ TBL := xc0 _ (List.mem_of_getElem? (i := 2) rfl)
theorem m3 : Cond.classLink RL 10 RX8 ∈ TBL := xc0 _ (List.mem_of_getElem? (i := 3) rfl)
theorem m4 : Cond.instantiable RX8 24 ∈ TBL := xc0 _ (List.mem_of_getElem? (i := 4) rfl)
theorem m5 : Cond.initialized RX8 ∈ TBL := xc0 _ (List.mem_of_getElem? (i := 5) rfl)
theorem m6 : Cond.constantLong RL 55 (4294967295) ∈ TBL := xc0 _ (List.mem_of_getElem? (i := 6) rfl)
theorem m7 : Cond.methodLink RL 9 yX7_init ∈ TBL := xc0 _ (List.mem_of_getElem? (i := 7) rfl)
theorem m8 : Cond.instanceMethod yX7_init ∈ TBL := xc0 _ (List.mem_of_getElem? (i := 8) rfl)
theorem m9 : Cond.code yX7_init cX7_init 2 none ∈ TBL := xc0 _ (List.mem_of_getElem? (i := 9) rfl)
theorem m10 : Cond.methodLink RX7 1 objectInit ∈ TBL := xc0 _ (List.mem_of_getElem? (i := 10) rfl)
theorem m11 : Cond.instanceMethod objectInit ∈ TBL := xc0 _ (List.mem_of_getElem? (i := 11) rfl)
theorem m12 : Cond.code objectInit ⟨#[0xb1]⟩ 1 none ∈ TBL := xc0 _ (List.mem_of_getElem? (i := 12) rfl)
theorem m13 : Cond.classLink RX7 7 RX3 ∈ TBL := xc0 _ (List.mem_of_getElem? (i := 13) rfl)
theorem m14 : Cond.instantiable RX3 12 ∈ TBL := xc0 _ (List.mem_of_getElem? (i := 14) rfl)
theorem m15 : Cond.initialized RX3 ∈ TBL := xc0 _ (List.mem_of_getElem? (i := 15) rfl)
theorem m16 : Cond.fieldLink RX7 10 "ParrotVow" "state" "LParrotVow$State;" ∈ TBL := xc0 _ (List.mem_of_getElem? (i := 16) rfl)
theorem m17 : Cond.fieldLink RX7 16 "ParrotVow" "kept" "LParrotVow$State;" ∈ TBL := xc0 _ (List.mem_of_getElem? (i := 17) rfl)
theorem m18 : Cond.fieldLink RX7 19 "ParrotVow" "hasImage" "Z" ∈ TBL := xc0 _ (List.mem_of_getElem? (i := 18) rfl)
theorem m19 : Cond.fieldLink RX7 23 "ParrotVow" "imagesMade" "I" ∈ TBL := xc0 _ (List.mem_of_getElem? (i := 19) rfl)
theorem m20 : Cond.classLink RX7 27 RX5 ∈ TBL := xc0 _ (List.mem_of_getElem? (i := 20) rfl)
theorem m21 : Cond.instantiable RX5 5 ∈ TBL := xc0 _ (List.mem_of_getElem? (i := 21) rfl)
theorem m22 : Cond.initialized RX5 ∈ TBL := xc0 _ (List.mem_of_getElem? (i := 22) rfl)
theorem m23 : Cond.fieldLink RX7 30 "ParrotVow" "known" "LParrotVow$Vows;" ∈ TBL := xc0 _ (List.mem_of_getElem? (i := 23) rfl)
theorem m24 : Cond.classLink RX7 34 RX0 ∈ TBL := xc1 _ (List.mem_of_getElem? (i := 0) rfl)
theorem m25 : Cond.instantiable RX0 5 ∈ TBL := xc1 _ (List.mem_of_getElem? (i := 1) rfl)
theorem m26 : Cond.initialized RX0 ∈ TBL := xc1 _ (List.mem_of_getElem? (i := 2) rfl)
theorem m27 : Cond.fieldLink RX7 36 "ParrotVow$State" "tape" "LParrotVow$Row;" ∈ TBL := xc1 _ (List.mem_of_getElem? (i := 3) rfl)
theorem m28 : Cond.fieldLink RX7 43 "ParrotVow" "reader" "LParrotVow$Reader;" ∈ TBL := xc1 _ (List.mem_of_getElem? (i := 4) rfl)
theorem m29 : Cond.classLink RX7 47 RX6 ∈ TBL := xc1 _ (List.mem_of_getElem? (i := 5) rfl)
theorem m30 : Cond.instantiable RX6 1 ∈ TBL := xc1 _ (List.mem_of_getElem? (i := 6) rfl)
theorem m31 : Cond.initialized RX6 ∈ TBL := xc1 _ (List.mem_of_getElem? (i := 7) rfl)
theorem m32 : Cond.fieldLink RX7 50 "ParrotVow" "worker" "LParrotVow$Worker;" ∈ TBL := xc1 _ (List.mem_of_getElem? (i := 8) rfl)
theorem m33 : Cond.classLink RX7 54 RX4 ∈ TBL := xc1 _ (List.mem_of_getElem? (i := 9) rfl)
theorem m34 : Cond.instantiable RX4 5 ∈ TBL := xc1 _ (List.mem_of_getElem? (i := 10) rfl)
theorem m35 : Cond.initialized RX4 ∈ TBL := xc1 _ (List.mem_of_getElem? (i := 11) rfl)
theorem m36 : Cond.fieldLink RX7 57 "ParrotVow" "choir" "LParrotVow$Voices;" ∈ TBL := xc1 _ (List.mem_of_getElem? (i := 12) rfl)
theorem m37 : Cond.classLink RX7 61 RX2 ∈ TBL := xc1 _ (List.mem_of_getElem? (i := 13) rfl)
theorem m38 : Cond.fieldLink RX7 63 "ParrotVow" "sheets" "[LParrotVow$Sheet;" ∈ TBL := xc1 _ (List.mem_of_getElem? (i := 14) rfl)
theorem m39 : Cond.arrayClass .int ∈ TBL := xc1 _ (List.mem_of_getElem? (i := 15) rfl)
theorem m40 : Cond.fieldLink RX7 67 "ParrotVow" "errors" "[I" ∈ TBL := xc1 _ (List.mem_of_getElem? (i := 16) rfl)
theorem m41 : Cond.instantiable RX2 2 ∈ TBL := xc1 _ (List.mem_of_getElem? (i := 17) rfl)
theorem m42 : Cond.initialized RX2 ∈ TBL := xc1 _ (List.mem_of_getElem? (i := 18) rfl)
theorem m43 : Cond.fieldLink RX7 72 "ParrotVow$State" "signs" "LParrotVow$Row;" ∈ TBL := xc1 _ (List.mem_of_getElem? (i := 19) rfl)
theorem m44 : Cond.instanceMethod yX3_init ∈ TBL := xc1 _ (List.mem_of_getElem? (i := 20) rfl)
theorem m45 : Cond.code yX3_init cX3_init 1 none ∈ TBL := xc1 _ (List.mem_of_getElem? (i := 21) rfl)
theorem m46 : Cond.methodLink RX3 3 objectInit ∈ TBL := xc1 _ (List.mem_of_getElem? (i := 22) rfl)
theorem m47 : Cond.classLink RX3 9 RX1 ∈ TBL := xc1 _ (List.mem_of_getElem? (i := 23) rfl)
theorem m48 : Cond.instantiable RX1 2 ∈ TBL := xc2 _ (List.mem_of_getElem? (i := 0) rfl)
theorem m49 : Cond.initialized RX1 ∈ TBL := xc2 _ (List.mem_of_getElem? (i := 1) rfl)
theorem m50 : Cond.fieldLink RX3 14 "ParrotVow$State" "kinds" "LParrotVow$Row;" ∈ TBL := xc2 _ (List.mem_of_getElem? (i := 2) rfl)
theorem m51 : Cond.fieldLink RX3 20 "ParrotVow$State" "ms" "LParrotVow$Row;" ∈ TBL := xc2 _ (List.mem_of_getElem? (i := 3) rfl)
theorem m52 : Cond.fieldLink RX3 23 "ParrotVow$State" "said" "LParrotVow$Row;" ∈ TBL := xc2 _ (List.mem_of_getElem? (i := 4) rfl)
theorem m53 : Cond.fieldLink RX3 26 "ParrotVow$State" "signs" "LParrotVow$Row;" ∈ TBL := xc2 _ (List.mem_of_getElem? (i := 5) rfl)
theorem m54 : Cond.fieldLink RX3 29 "ParrotVow$State" "tape" "LParrotVow$Row;" ∈ TBL := xc2 _ (List.mem_of_getElem? (i := 6) rfl)
theorem m55 : Cond.fieldLink RX3 32 "ParrotVow$State" "avoidCodes" "LParrotVow$Row;" ∈ TBL := xc2 _ (List.mem_of_getElem? (i := 7) rfl)
theorem m56 : Cond.fieldLink RX3 35 "ParrotVow$State" "talkCodes" "LParrotVow$Row;" ∈ TBL := xc2 _ (List.mem_of_getElem? (i := 8) rfl)
theorem m57 : Cond.fieldLink RX3 38 "ParrotVow$State" "waiting" "LParrotVow$Row;" ∈ TBL := xc2 _ (List.mem_of_getElem? (i := 9) rfl)
theorem m58 : Cond.fieldLink RX3 41 "ParrotVow$State" "vow" "I" ∈ TBL := xc2 _ (List.mem_of_getElem? (i := 10) rfl)
theorem m59 : Cond.fieldLink RX3 45 "ParrotVow$State" "day" "I" ∈ TBL := xc2 _ (List.mem_of_getElem? (i := 11) rfl)
theorem m60 : Cond.fieldLink RX3 48 "ParrotVow$State" "worth" "I" ∈ TBL := xc2 _ (List.mem_of_getElem? (i := 12) rfl)
theorem m61 : Cond.fieldLink RX3 51 "ParrotVow$State" "z" "I" ∈ TBL := xc2 _ (List.mem_of_getElem? (i := 13) rfl)
theorem m62 : Cond.methodLink RX3 11 yX1_init ∈ TBL := xc2 _ (List.mem_of_getElem? (i := 14) rfl)
theorem m63 : Cond.instanceMethod yX1_init ∈ TBL := xc2 _ (List.mem_of_getElem? (i := 15) rfl)
theorem m64 : Cond.code yX1_init cX1_init 2 none ∈ TBL := xc2 _ (List.mem_of_getElem? (i := 16) rfl)
theorem m65 : Cond.methodLink RX1 1 objectInit ∈ TBL := xc2 _ (List.mem_of_getElem? (i := 17) rfl)
theorem m66 : Cond.fieldLink RX1 7 "ParrotVow$Row" "many" "I" ∈ TBL := xc2 _ (List.mem_of_getElem? (i := 18) rfl)
theorem m67 : Cond.methodLink RX1 13 Lib.Math.max.name ∈ TBL := xc2 _ (List.mem_of_getElem? (i := 19) rfl)
theorem m68 : Cond.static Lib.Math.max.name ∈ TBL := xc2 _ (List.mem_of_getElem? (i := 20) rfl)
theorem m69 : Cond.initialized "java/lang/Math" ∈ TBL := xc2 _ (List.mem_of_getElem? (i := 21) rfl)
theorem m70 : Cond.code Lib.Math.max.name Lib.Math.max.code 2 (some .int) ∈ TBL := xc2 _ (List.mem_of_getElem? (i := 22) rfl)
theorem m71 : Cond.fieldLink RX1 19 "ParrotVow$Row" "cells" "[I" ∈ TBL := xc2 _ (List.mem_of_getElem? (i := 23) rfl)
theorem m72 : Cond.methodLink RX7 29 yX5_init ∈ TBL := xc3 _ (List.mem_of_getElem? (i := 0) rfl)
theorem m73 : Cond.instanceMethod yX5_init ∈ TBL := xc3 _ (List.mem_of_getElem? (i := 1) rfl)
theorem m74 : Cond.code yX5_init cX5_init 4 none ∈ TBL := xc3 _ (List.mem_of_getElem? (i := 2) rfl)
theorem m75 : Cond.methodLink RX5 3 objectInit ∈ TBL := xc3 _ (List.mem_of_getElem? (i := 3) rfl)
theorem m76 : Cond.fieldLink RX5 9 "ParrotVow$Vows" "spread" "[I" ∈ TBL := xc3 _ (List.mem_of_getElem? (i := 4) rfl)
theorem m77 : Cond.arrayClass .long ∈ TBL := xc3 _ (List.mem_of_getElem? (i := 5) rfl)
theorem m78 : Cond.fieldLink RX5 15 "ParrotVow$Vows" "breakers" "[J" ∈ TBL := xc3 _ (List.mem_of_getElem? (i := 6) rfl)
theorem m79 : Cond.arrayClass .boolean ∈ TBL := xc3 _ (List.mem_of_getElem? (i := 7) rfl)
theorem m80 : Cond.fieldLink RX5 19 "ParrotVow$Vows" "fit" "[Z" ∈ TBL := xc3 _ (List.mem_of_getElem? (i := 8) rfl)
theorem m81 : Cond.fieldLink RX5 23 "ParrotVow$Vows" "fitting" "I" ∈ TBL := xc3 _ (List.mem_of_getElem? (i := 9) rfl)
theorem m82 : Cond.fieldLink RX5 27 "ParrotVow$Vows" "counted" "[I" ∈ TBL := xc3 _ (List.mem_of_getElem? (i := 10) rfl)
theorem m83 : Cond.methodLink RX5 30 yX5_vowOf ∈ TBL := xc3 _ (List.mem_of_getElem? (i := 11) rfl)
theorem m84 : Cond.instanceMethod yX5_vowOf ∈ TBL := xc3 _ (List.mem_of_getElem? (i := 12) rfl)
theorem m85 : Cond.selects RX5 yX5_vowOf yX5_vowOf ∈ TBL := xc3 _ (List.mem_of_getElem? (i := 13) rfl)
theorem m86 : Cond.code yX5_vowOf cX5_vowOf 4 (some .int) ∈ TBL := xc3 _ (List.mem_of_getElem? (i := 14) rfl)
theorem m87 : Cond.methodLink RX7 40 yX0_init ∈ TBL := xc3 _ (List.mem_of_getElem? (i := 15) rfl)
theorem m88 : Cond.instanceMethod yX0_init ∈ TBL := xc3 _ (List.mem_of_getElem? (i := 16) rfl)
theorem m89 : Cond.code yX0_init cX0_init 2 none ∈ TBL := xc3 _ (List.mem_of_getElem? (i := 17) rfl)
theorem m90 : Cond.methodLink RX0 3 objectInit ∈ TBL := xc3 _ (List.mem_of_getElem? (i := 18) rfl)
theorem m91 : Cond.classLink RX0 9 RX1 ∈ TBL := xc3 _ (List.mem_of_getElem? (i := 19) rfl)
theorem m92 : Cond.fieldLink RX0 14 "ParrotVow$Reader" "codes" "LParrotVow$Row;" ∈ TBL := xc3 _ (List.mem_of_getElem? (i := 20) rfl)
theorem m93 : Cond.fieldLink RX0 22 "ParrotVow$Reader" "names" "Ljava/lang/String;" ∈ TBL := xc3 _ (List.mem_of_getElem? (i := 21) rfl)
theorem m94 : Cond.fieldLink RX0 26 "ParrotVow$Reader" "at" "I" ∈ TBL := xc3 _ (List.mem_of_getElem? (i := 22) rfl)
theorem m95 : Cond.fieldLink RX0 30 "ParrotVow$Reader" "faulty" "Z" ∈ TBL := xc3 _ (List.mem_of_getElem? (i := 23) rfl)
theorem m96 : Cond.fieldLink RX0 34 "ParrotVow$Reader" "tape" "LParrotVow$Row;" ∈ TBL := xc4 _ (List.mem_of_getElem? (i := 0) rfl)
theorem m97 : Cond.methodLink RX0 11 yX1_init ∈ TBL := xc4 _ (List.mem_of_getElem? (i := 1) rfl)
theorem m98 : Cond.instanceMethod yX6_init ∈ TBL := xc4 _ (List.mem_of_getElem? (i := 2) rfl)
theorem m99 : Cond.code yX6_init cX6_init 1 none ∈ TBL := xc4 _ (List.mem_of_getElem? (i := 3) rfl)
theorem m100 : Cond.methodLink RX6 3 objectInit ∈ TBL := xc4 _ (List.mem_of_getElem? (i := 4) rfl)
theorem m101 : Cond.classLink RX6 9 RX1 ∈ TBL := xc4 _ (List.mem_of_getElem? (i := 5) rfl)
theorem m102 : Cond.fieldLink RX6 14 "ParrotVow$Worker" "stack" "LParrotVow$Row;" ∈ TBL := xc4 _ (List.mem_of_getElem? (i := 6) rfl)
theorem m103 : Cond.methodLink RX6 11 yX1_init ∈ TBL := xc4 _ (List.mem_of_getElem? (i := 7) rfl)
theorem m104 : Cond.instanceMethod yX4_init ∈ TBL := xc4 _ (List.mem_of_getElem? (i := 8) rfl)
theorem m105 : Cond.code yX4_init cX4_init 1 none ∈ TBL := xc4 _ (List.mem_of_getElem? (i := 9) rfl)
theorem m106 : Cond.methodLink RX4 3 objectInit ∈ TBL := xc4 _ (List.mem_of_getElem? (i := 10) rfl)
theorem m107 : Cond.classLink RX4 9 RX1 ∈ TBL := xc4 _ (List.mem_of_getElem? (i := 11) rfl)
theorem m108 : Cond.fieldLink RX4 14 "ParrotVow$Voices" "trace" "LParrotVow$Row;" ∈ TBL := xc4 _ (List.mem_of_getElem? (i := 12) rfl)
theorem m109 : Cond.fieldLink RX4 20 "ParrotVow$Voices" "parted" "Z" ∈ TBL := xc4 _ (List.mem_of_getElem? (i := 13) rfl)
theorem m110 : Cond.fieldLink RX4 24 "ParrotVow$Voices" "k" "I" ∈ TBL := xc4 _ (List.mem_of_getElem? (i := 14) rfl)
theorem m111 : Cond.fieldLink RX4 28 "ParrotVow$Voices" "kind" "I" ∈ TBL := xc4 _ (List.mem_of_getElem? (i := 15) rfl)
theorem m112 : Cond.fieldLink RX4 31 "ParrotVow$Voices" "m" "I" ∈ TBL := xc4 _ (List.mem_of_getElem? (i := 16) rfl)
theorem m113 : Cond.methodLink RX4 11 yX1_init ∈ TBL := xc4 _ (List.mem_of_getElem? (i := 17) rfl)
theorem m114 : Cond.instanceMethod yX2_init ∈ TBL := xc4 _ (List.mem_of_getElem? (i := 18) rfl)
theorem m115 : Cond.code yX2_init cX2_init 1 none ∈ TBL := xc4 _ (List.mem_of_getElem? (i := 19) rfl)
theorem m116 : Cond.methodLink RX2 3 objectInit ∈ TBL := xc4 _ (List.mem_of_getElem? (i := 20) rfl)
theorem m117 : Cond.classLink RX2 9 RX1 ∈ TBL := xc4 _ (List.mem_of_getElem? (i := 21) rfl)
theorem m118 : Cond.fieldLink RX2 14 "ParrotVow$Sheet" "numbers" "LParrotVow$Row;" ∈ TBL := xc4 _ (List.mem_of_getElem? (i := 22) rfl)
theorem m119 : Cond.fieldLink RX2 20 "ParrotVow$Sheet" "bits" "I" ∈ TBL := xc4 _ (List.mem_of_getElem? (i := 23) rfl)
theorem m120 : Cond.methodLink RX2 11 yX1_init ∈ TBL := xc5 _ (List.mem_of_getElem? (i := 0) rfl)
theorem m121 : Cond.methodLink RX7 75 yX5_refit ∈ TBL := xc5 _ (List.mem_of_getElem? (i := 1) rfl)
theorem m122 : Cond.instanceMethod yX5_refit ∈ TBL := xc5 _ (List.mem_of_getElem? (i := 2) rfl)
theorem m123 : Cond.selects RX5 yX5_refit yX5_refit ∈ TBL := xc5 _ (List.mem_of_getElem? (i := 3) rfl)
theorem m124 : Cond.code yX5_refit cX5_refit 9 none ∈ TBL := xc5 _ (List.mem_of_getElem? (i := 4) rfl)
theorem m125 : Cond.methodLink RX5 42 yX1_many ∈ TBL := xc5 _ (List.mem_of_getElem? (i := 5) rfl)
theorem m126 : Cond.instanceMethod yX1_many ∈ TBL := xc5 _ (List.mem_of_getElem? (i := 6) rfl)
theorem m127 : Cond.selects RX1 yX1_many yX1_many ∈ TBL := xc5 _ (List.mem_of_getElem? (i := 7) rfl)
theorem m128 : Cond.code yX1_many cX1_many 1 (some .int) ∈ TBL := xc5 _ (List.mem_of_getElem? (i := 8) rfl)
theorem m129 : Cond.methodLink RX5 48 yX1_get ∈ TBL := xc5 _ (List.mem_of_getElem? (i := 9) rfl)
theorem m130 : Cond.instanceMethod yX1_get ∈ TBL := xc5 _ (List.mem_of_getElem? (i := 10) rfl)
theorem m131 : Cond.selects RX1 yX1_get yX1_get ∈ TBL := xc5 _ (List.mem_of_getElem? (i := 11) rfl)
theorem m132 : Cond.code yX1_get cX1_get 2 (some .int) ∈ TBL := xc5 _ (List.mem_of_getElem? (i := 12) rfl)
theorem m133 : Cond.methodLink RL 12 yX8_init ∈ TBL := xc5 _ (List.mem_of_getElem? (i := 13) rfl)
theorem m134 : Cond.instanceMethod yX8_init ∈ TBL := xc5 _ (List.mem_of_getElem? (i := 14) rfl)
theorem m135 : Cond.code yX8_init cX8_init 3 none ∈ TBL := xc5 _ (List.mem_of_getElem? (i := 15) rfl)
theorem m136 : Cond.methodLink RX8 3 objectInit ∈ TBL := xc5 _ (List.mem_of_getElem? (i := 16) rfl)
theorem m137 : Cond.fieldLink RX8 9 "ParrotVowModel" "row" "[I" ∈ TBL := xc5 _ (List.mem_of_getElem? (i := 17) rfl)
theorem m138 : Cond.fieldLink RX8 13 "ParrotVowModel" "kept" "[I" ∈ TBL := xc5 _ (List.mem_of_getElem? (i := 18) rfl)
theorem m139 : Cond.fieldLink RX8 16 "ParrotVowModel" "errors" "[I" ∈ TBL := xc5 _ (List.mem_of_getElem? (i := 19) rfl)
theorem m140 : Cond.fieldLink RX8 19 "ParrotVowModel" "bitsOf" "[I" ∈ TBL := xc5 _ (List.mem_of_getElem? (i := 20) rfl)
theorem m141 : Cond.fieldLink RX8 22 "ParrotVowModel" "sizeOf" "[I" ∈ TBL := xc5 _ (List.mem_of_getElem? (i := 21) rfl)
theorem m142 : Cond.fieldLink RX8 25 "ParrotVowModel" "cells" "[I" ∈ TBL := xc5 _ (List.mem_of_getElem? (i := 22) rfl)
theorem m143 : Cond.fieldLink RX8 28 "ParrotVowModel" "broken" "[J" ∈ TBL := xc5 _ (List.mem_of_getElem? (i := 23) rfl)
theorem m144 : Cond.fieldLink RX8 32 "ParrotVowModel" "isFit" "[Z" ∈ TBL := xc6 _ (List.mem_of_getElem? (i := 0) rfl)
theorem m145 : Cond.fieldLink RX8 36 "ParrotVowModel" "breaks" "[I" ∈ TBL := xc6 _ (List.mem_of_getElem? (i := 1) rfl)
theorem m146 : Cond.fieldLink RX8 39 "ParrotVowModel" "act" "[I" ∈ TBL := xc6 _ (List.mem_of_getElem? (i := 2) rfl)
theorem m147 : Cond.fieldLink RX8 42 "ParrotVowModel" "with" "[I" ∈ TBL := xc6 _ (List.mem_of_getElem? (i := 3) rfl)
theorem m148 : Cond.fieldLink RX8 45 "ParrotVowModel" "facts" "[I" ∈ TBL := xc6 _ (List.mem_of_getElem? (i := 4) rfl)
theorem m149 : Cond.fieldLink RX8 48 "ParrotVowModel" "pile" "[I" ∈ TBL := xc6 _ (List.mem_of_getElem? (i := 5) rfl)
theorem m150 : Cond.fieldLink RX8 51 "ParrotVowModel" "trace" "[I" ∈ TBL := xc6 _ (List.mem_of_getElem? (i := 6) rfl)
theorem m151 : Cond.methodLink RX8 54 yX8_isBroken ∈ TBL := xc6 _ (List.mem_of_getElem? (i := 7) rfl)
theorem m152 : Cond.static yX8_isBroken ∈ TBL := xc6 _ (List.mem_of_getElem? (i := 8) rfl)
theorem m153 : Cond.code yX8_isBroken cX8_isBroken 5 (some .boolean) ∈ TBL := xc6 _ (List.mem_of_getElem? (i := 9) rfl)
theorem m154 : Cond.methodLink RL 13 yX7_brother ∈ TBL := xc6 _ (List.mem_of_getElem? (i := 10) rfl)
theorem m155 : Cond.instanceMethod yX7_brother ∈ TBL := xc6 _ (List.mem_of_getElem? (i := 11) rfl)
theorem m156 : Cond.selects RX7 yX7_brother yX7_brother ∈ TBL := xc6 _ (List.mem_of_getElem? (i := 12) rfl)
theorem m157 : Cond.code yX7_brother cX7_brother 2 (some .int) ∈ TBL := xc6 _ (List.mem_of_getElem? (i := 13) rfl)
theorem m158 : Cond.fieldLink RX7 90 "ParrotVow$State" "kinds" "LParrotVow$Row;" ∈ TBL := xc6 _ (List.mem_of_getElem? (i := 14) rfl)
theorem m159 : Cond.fieldLink RX7 99 "ParrotVow$State" "ms" "LParrotVow$Row;" ∈ TBL := xc6 _ (List.mem_of_getElem? (i := 15) rfl)
theorem m160 : Cond.fieldLink RX7 102 "ParrotVow$State" "said" "LParrotVow$Row;" ∈ TBL := xc6 _ (List.mem_of_getElem? (i := 16) rfl)
theorem m161 : Cond.methodLink RX7 78 yX7_isKindAndNumber ∈ TBL := xc6 _ (List.mem_of_getElem? (i := 17) rfl)
theorem m162 : Cond.static yX7_isKindAndNumber ∈ TBL := xc6 _ (List.mem_of_getElem? (i := 18) rfl)
theorem m163 : Cond.code yX7_isKindAndNumber cX7_isKindAndNumber 1 (some .boolean) ∈ TBL := xc6 _ (List.mem_of_getElem? (i := 19) rfl)
theorem m164 : Cond.methodLink RX7 108 yX7_within ∈ TBL := xc6 _ (List.mem_of_getElem? (i := 20) rfl)
theorem m165 : Cond.static yX7_within ∈ TBL := xc6 _ (List.mem_of_getElem? (i := 21) rfl)
theorem m166 : Cond.code yX7_within cX7_within 3 (some .boolean) ∈ TBL := xc6 _ (List.mem_of_getElem? (i := 22) rfl)
theorem m167 : Cond.methodLink RX7 82 yX7_error ∈ TBL := xc6 _ (List.mem_of_getElem? (i := 23) rfl)
theorem m168 : Cond.instanceMethod yX7_error ∈ TBL := xc7 _ (List.mem_of_getElem? (i := 0) rfl)
theorem m169 : Cond.selects RX7 yX7_error yX7_error ∈ TBL := xc7 _ (List.mem_of_getElem? (i := 1) rfl)
theorem m170 : Cond.code yX7_error cX7_error 2 (some .int) ∈ TBL := xc7 _ (List.mem_of_getElem? (i := 2) rfl)
theorem m171 : Cond.constant RX7 281 (-1000000000) ∈ TBL := xc7 _ (List.mem_of_getElem? (i := 3) rfl)
theorem m172 : Cond.methodLink RX7 86 yX3_brothers ∈ TBL := xc7 _ (List.mem_of_getElem? (i := 4) rfl)
theorem m173 : Cond.instanceMethod yX3_brothers ∈ TBL := xc7 _ (List.mem_of_getElem? (i := 5) rfl)
theorem m174 : Cond.selects RX3 yX3_brothers yX3_brothers ∈ TBL := xc7 _ (List.mem_of_getElem? (i := 6) rfl)
theorem m175 : Cond.code yX3_brothers cX3_brothers 1 (some .int) ∈ TBL := xc7 _ (List.mem_of_getElem? (i := 7) rfl)
theorem m176 : Cond.methodLink RX3 54 yX1_many ∈ TBL := xc7 _ (List.mem_of_getElem? (i := 8) rfl)
theorem m177 : Cond.methodLink RX7 93 yX1_add ∈ TBL := xc7 _ (List.mem_of_getElem? (i := 9) rfl)
theorem m178 : Cond.instanceMethod yX1_add ∈ TBL := xc7 _ (List.mem_of_getElem? (i := 10) rfl)
theorem m179 : Cond.selects RX1 yX1_add yX1_add ∈ TBL := xc7 _ (List.mem_of_getElem? (i := 11) rfl)
theorem m180 : Cond.code yX1_add cX1_add 2 none ∈ TBL := xc7 _ (List.mem_of_getElem? (i := 12) rfl)
theorem m181 : Cond.methodLink RL 17 yX8_brother ∈ TBL := xc7 _ (List.mem_of_getElem? (i := 13) rfl)
theorem m182 : Cond.instanceMethod yX8_brother ∈ TBL := xc7 _ (List.mem_of_getElem? (i := 14) rfl)
theorem m183 : Cond.selects RX8 yX8_brother yX8_brother ∈ TBL := xc7 _ (List.mem_of_getElem? (i := 15) rfl)
theorem m184 : Cond.code yX8_brother cX8_brother 3 (some .int) ∈ TBL := xc7 _ (List.mem_of_getElem? (i := 16) rfl)
theorem m185 : Cond.constant RX8 106 (-1000000001) ∈ TBL := xc7 _ (List.mem_of_getElem? (i := 17) rfl)
theorem m186 : Cond.constant RX8 110 (-1000000004) ∈ TBL := xc7 _ (List.mem_of_getElem? (i := 18) rfl)
theorem m187 : Cond.methodLink RX8 103 yX8_isKm ∈ TBL := xc7 _ (List.mem_of_getElem? (i := 19) rfl)
theorem m188 : Cond.static yX8_isKm ∈ TBL := xc7 _ (List.mem_of_getElem? (i := 20) rfl)
theorem m189 : Cond.code yX8_isKm cX8_isKm 1 (some .boolean) ∈ TBL := xc7 _ (List.mem_of_getElem? (i := 21) rfl)
theorem m190 : Cond.methodLink RX8 59 yX8_in ∈ TBL := xc7 _ (List.mem_of_getElem? (i := 22) rfl)
theorem m191 : Cond.static yX8_in ∈ TBL := xc7 _ (List.mem_of_getElem? (i := 23) rfl)
theorem m192 : Cond.code yX8_in cX8_in 3 (some .boolean) ∈ TBL := xc8 _ (List.mem_of_getElem? (i := 0) rfl)
theorem m193 : Cond.methodLink RX8 107 yX8_error ∈ TBL := xc8 _ (List.mem_of_getElem? (i := 1) rfl)
theorem m194 : Cond.instanceMethod yX8_error ∈ TBL := xc8 _ (List.mem_of_getElem? (i := 2) rfl)
theorem m195 : Cond.selects RX8 yX8_error yX8_error ∈ TBL := xc8 _ (List.mem_of_getElem? (i := 3) rfl)
theorem m196 : Cond.code yX8_error cX8_error 2 (some .int) ∈ TBL := xc8 _ (List.mem_of_getElem? (i := 4) rfl)
theorem m197 : Cond.constant RX8 58 (-1000000000) ∈ TBL := xc8 _ (List.mem_of_getElem? (i := 5) rfl)
theorem m198 : Cond.methodLink RL 18 yX7_brotherIs ∈ TBL := xc8 _ (List.mem_of_getElem? (i := 6) rfl)
theorem m199 : Cond.instanceMethod yX7_brotherIs ∈ TBL := xc8 _ (List.mem_of_getElem? (i := 7) rfl)
theorem m200 : Cond.selects RX7 yX7_brotherIs yX7_brotherIs ∈ TBL := xc8 _ (List.mem_of_getElem? (i := 8) rfl)
theorem m201 : Cond.code yX7_brotherIs cX7_brotherIs 3 (some .int) ∈ TBL := xc8 _ (List.mem_of_getElem? (i := 9) rfl)
theorem m202 : Cond.methodLink RX7 105 yX7_isBrother ∈ TBL := xc8 _ (List.mem_of_getElem? (i := 10) rfl)
theorem m203 : Cond.instanceMethod yX7_isBrother ∈ TBL := xc8 _ (List.mem_of_getElem? (i := 11) rfl)
theorem m204 : Cond.selects RX7 yX7_isBrother yX7_isBrother ∈ TBL := xc8 _ (List.mem_of_getElem? (i := 12) rfl)
theorem m205 : Cond.code yX7_isBrother cX7_isBrother 2 (some .boolean) ∈ TBL := xc8 _ (List.mem_of_getElem? (i := 13) rfl)
theorem m206 : Cond.methodLink RX7 247 yX1_has ∈ TBL := xc8 _ (List.mem_of_getElem? (i := 14) rfl)
theorem m207 : Cond.instanceMethod yX1_has ∈ TBL := xc8 _ (List.mem_of_getElem? (i := 15) rfl)
theorem m208 : Cond.selects RX1 yX1_has yX1_has ∈ TBL := xc8 _ (List.mem_of_getElem? (i := 16) rfl)
theorem m209 : Cond.code yX1_has cX1_has 2 (some .boolean) ∈ TBL := xc8 _ (List.mem_of_getElem? (i := 17) rfl)
theorem m210 : Cond.methodLink RX7 112 yX1_get ∈ TBL := xc8 _ (List.mem_of_getElem? (i := 18) rfl)
theorem m211 : Cond.methodLink RX7 115 yX7_avoided ∈ TBL := xc8 _ (List.mem_of_getElem? (i := 19) rfl)
theorem m212 : Cond.instanceMethod yX7_avoided ∈ TBL := xc8 _ (List.mem_of_getElem? (i := 20) rfl)
theorem m213 : Cond.selects RX7 yX7_avoided yX7_avoided ∈ TBL := xc8 _ (List.mem_of_getElem? (i := 21) rfl)
theorem m214 : Cond.code yX7_avoided cX7_avoided 5 (some .long) ∈ TBL := xc8 _ (List.mem_of_getElem? (i := 22) rfl)
theorem m215 : Cond.methodLink RX7 136 yX7_isAvoided ∈ TBL := xc8 _ (List.mem_of_getElem? (i := 23) rfl)
theorem m216 : Cond.instanceMethod yX7_isAvoided ∈ TBL := xc9 _ (List.mem_of_getElem? (i := 0) rfl)
theorem m217 : Cond.selects RX7 yX7_isAvoided yX7_isAvoided ∈ TBL := xc9 _ (List.mem_of_getElem? (i := 1) rfl)
theorem m218 : Cond.code yX7_isAvoided cX7_isAvoided 3 (some .boolean) ∈ TBL := xc9 _ (List.mem_of_getElem? (i := 2) rfl)
theorem m219 : Cond.methodLink RX7 300 yX7_shuns ∈ TBL := xc9 _ (List.mem_of_getElem? (i := 3) rfl)
theorem m220 : Cond.instanceMethod yX7_shuns ∈ TBL := xc9 _ (List.mem_of_getElem? (i := 4) rfl)
theorem m221 : Cond.selects RX7 yX7_shuns yX7_shuns ∈ TBL := xc9 _ (List.mem_of_getElem? (i := 5) rfl)
theorem m222 : Cond.code yX7_shuns cX7_shuns 6 (some .boolean) ∈ TBL := xc9 _ (List.mem_of_getElem? (i := 6) rfl)
theorem m223 : Cond.fieldLink RX7 187 "ParrotVow$State" "day" "I" ∈ TBL := xc9 _ (List.mem_of_getElem? (i := 7) rfl)
theorem m224 : Cond.methodLink RX7 208 yX5_broken ∈ TBL := xc9 _ (List.mem_of_getElem? (i := 8) rfl)
theorem m225 : Cond.instanceMethod yX5_broken ∈ TBL := xc9 _ (List.mem_of_getElem? (i := 9) rfl)
theorem m226 : Cond.selects RX5 yX5_broken yX5_broken ∈ TBL := xc9 _ (List.mem_of_getElem? (i := 10) rfl)
theorem m227 : Cond.code yX5_broken cX5_broken 2 (some .int) ∈ TBL := xc9 _ (List.mem_of_getElem? (i := 11) rfl)
theorem m228 : Cond.static yX7_isSaying ∈ TBL := xc9 _ (List.mem_of_getElem? (i := 12) rfl)
theorem m229 : Cond.code yX7_isSaying cX7_isSaying 1 (some .boolean) ∈ TBL := xc9 _ (List.mem_of_getElem? (i := 13) rfl)
theorem m230 : Cond.methodLink RX5 52 yX5_countBroken ∈ TBL := xc9 _ (List.mem_of_getElem? (i := 14) rfl)
theorem m231 : Cond.instanceMethod yX5_countBroken ∈ TBL := xc9 _ (List.mem_of_getElem? (i := 15) rfl)
theorem m232 : Cond.selects RX5 yX5_countBroken yX5_countBroken ∈ TBL := xc9 _ (List.mem_of_getElem? (i := 16) rfl)
theorem m233 : Cond.code yX5_countBroken cX5_countBroken 5 (some .int) ∈ TBL := xc9 _ (List.mem_of_getElem? (i := 17) rfl)
theorem m234 : Cond.methodLink RX7 152 yX5_fitting ∈ TBL := xc9 _ (List.mem_of_getElem? (i := 18) rfl)
theorem m235 : Cond.instanceMethod yX5_fitting ∈ TBL := xc9 _ (List.mem_of_getElem? (i := 19) rfl)
theorem m236 : Cond.selects RX5 yX5_fitting yX5_fitting ∈ TBL := xc9 _ (List.mem_of_getElem? (i := 20) rfl)
theorem m237 : Cond.code yX5_fitting cX5_fitting 1 (some .int) ∈ TBL := xc9 _ (List.mem_of_getElem? (i := 21) rfl)
theorem m238 : Cond.methodLink RX7 183 yX7_given ∈ TBL := xc9 _ (List.mem_of_getElem? (i := 22) rfl)
theorem m239 : Cond.instanceMethod yX7_given ∈ TBL := xc9 _ (List.mem_of_getElem? (i := 23) rfl)
theorem m240 : Cond.selects RX7 yX7_given yX7_given ∈ TBL := xc10 _ (List.mem_of_getElem? (i := 0) rfl)
theorem m241 : Cond.code yX7_given cX7_given 7 (some .int) ∈ TBL := xc10 _ (List.mem_of_getElem? (i := 1) rfl)
theorem m242 : Cond.methodLink RX7 162 yX3_codesOf ∈ TBL := xc10 _ (List.mem_of_getElem? (i := 2) rfl)
theorem m243 : Cond.instanceMethod yX3_codesOf ∈ TBL := xc10 _ (List.mem_of_getElem? (i := 3) rfl)
theorem m244 : Cond.selects RX3 yX3_codesOf yX3_codesOf ∈ TBL := xc10 _ (List.mem_of_getElem? (i := 4) rfl)
theorem m245 : Cond.code yX3_codesOf cX3_codesOf 2 (some (.object "ParrotVow$Row")) ∈ TBL := xc10 _ (List.mem_of_getElem? (i := 5) rfl)
theorem m246 : Cond.methodLink RX7 146 yX1_many ∈ TBL := xc10 _ (List.mem_of_getElem? (i := 6) rfl)
theorem m247 : Cond.methodLink RX7 306 yX6_work ∈ TBL := xc10 _ (List.mem_of_getElem? (i := 7) rfl)
theorem m248 : Cond.instanceMethod yX6_work ∈ TBL := xc10 _ (List.mem_of_getElem? (i := 8) rfl)
theorem m249 : Cond.selects RX6 yX6_work yX6_work ∈ TBL := xc10 _ (List.mem_of_getElem? (i := 9) rfl)
theorem m250 : Cond.code yX6_work cX6_work 9 (some .int) ∈ TBL := xc10 _ (List.mem_of_getElem? (i := 10) rfl)
theorem m251 : Cond.methodLink RX6 20 yX1_clear ∈ TBL := xc10 _ (List.mem_of_getElem? (i := 11) rfl)
theorem m252 : Cond.instanceMethod yX1_clear ∈ TBL := xc10 _ (List.mem_of_getElem? (i := 12) rfl)
theorem m253 : Cond.selects RX1 yX1_clear yX1_clear ∈ TBL := xc10 _ (List.mem_of_getElem? (i := 13) rfl)
theorem m254 : Cond.code yX1_clear cX1_clear 1 none ∈ TBL := xc10 _ (List.mem_of_getElem? (i := 14) rfl)
theorem m255 : Cond.methodLink RX6 23 yX1_many ∈ TBL := xc10 _ (List.mem_of_getElem? (i := 15) rfl)
theorem m256 : Cond.methodLink RX6 27 yX1_get ∈ TBL := xc10 _ (List.mem_of_getElem? (i := 16) rfl)
theorem m257 : Cond.methodLink RX6 31 yX1_add ∈ TBL := xc10 _ (List.mem_of_getElem? (i := 17) rfl)
theorem m258 : Cond.methodLink RX6 34 yX1_pop ∈ TBL := xc10 _ (List.mem_of_getElem? (i := 18) rfl)
theorem m259 : Cond.instanceMethod yX1_pop ∈ TBL := xc10 _ (List.mem_of_getElem? (i := 19) rfl)
theorem m260 : Cond.selects RX1 yX1_pop yX1_pop ∈ TBL := xc10 _ (List.mem_of_getElem? (i := 20) rfl)
theorem m261 : Cond.code yX1_pop cX1_pop 2 (some .int) ∈ TBL := xc10 _ (List.mem_of_getElem? (i := 21) rfl)
theorem m262 : Cond.methodLink RX1 23 yX1_get ∈ TBL := xc10 _ (List.mem_of_getElem? (i := 22) rfl)
theorem m263 : Cond.methodLink RX6 37 yX6_joined ∈ TBL := xc10 _ (List.mem_of_getElem? (i := 23) rfl)
theorem m264 : Cond.static yX6_joined ∈ TBL := xc11 _ (List.mem_of_getElem? (i := 0) rfl)
theorem m265 : Cond.code yX6_joined cX6_joined 3 (some .int) ∈ TBL := xc11 _ (List.mem_of_getElem? (i := 1) rfl)
theorem m266 : Cond.methodLink RX6 41 yX6_isTrue ∈ TBL := xc11 _ (List.mem_of_getElem? (i := 2) rfl)
theorem m267 : Cond.static yX6_isTrue ∈ TBL := xc11 _ (List.mem_of_getElem? (i := 3) rfl)
theorem m268 : Cond.code yX6_isTrue cX6_isTrue 3 (some .boolean) ∈ TBL := xc11 _ (List.mem_of_getElem? (i := 4) rfl)
theorem m269 : Cond.methodLink RX7 310 yX7_held ∈ TBL := xc11 _ (List.mem_of_getElem? (i := 5) rfl)
theorem m270 : Cond.static yX7_held ∈ TBL := xc11 _ (List.mem_of_getElem? (i := 6) rfl)
theorem m271 : Cond.code yX7_held cX7_held 3 (some .int) ∈ TBL := xc11 _ (List.mem_of_getElem? (i := 7) rfl)
theorem m272 : Cond.methodLink RX7 282 Lib.Math.min.name ∈ TBL := xc11 _ (List.mem_of_getElem? (i := 8) rfl)
theorem m273 : Cond.static Lib.Math.min.name ∈ TBL := xc11 _ (List.mem_of_getElem? (i := 9) rfl)
theorem m274 : Cond.code Lib.Math.min.name Lib.Math.min.code 2 (some .int) ∈ TBL := xc11 _ (List.mem_of_getElem? (i := 10) rfl)
theorem m275 : Cond.methodLink RX7 287 Lib.Math.max.name ∈ TBL := xc11 _ (List.mem_of_getElem? (i := 11) rfl)
theorem m276 : Cond.methodLink RX7 119 yJ13_bitCount_95d88 ∈ TBL := xc11 _ (List.mem_of_getElem? (i := 12) rfl)
theorem m277 : Cond.static yJ13_bitCount_95d88 ∈ TBL := xc11 _ (List.mem_of_getElem? (i := 13) rfl)
theorem m278 : Cond.initialized RJ13 ∈ TBL := xc11 _ (List.mem_of_getElem? (i := 14) rfl)
theorem m279 : Cond.code yJ13_bitCount_95d88 cJ13_bitCount_95d88 2 (some .int) ∈ TBL := xc11 _ (List.mem_of_getElem? (i := 15) rfl)
theorem m280 : Cond.constantLong RJ13 314 (6148914691236517205) ∈ TBL := xc11 _ (List.mem_of_getElem? (i := 16) rfl)
theorem m281 : Cond.constantLong RJ13 316 (3689348814741910323) ∈ TBL := xc11 _ (List.mem_of_getElem? (i := 17) rfl)
theorem m282 : Cond.constantLong RJ13 318 (1085102592571150095) ∈ TBL := xc11 _ (List.mem_of_getElem? (i := 18) rfl)
theorem m283 : Cond.methodLink RL 22 yX8_brotherIs ∈ TBL := xc11 _ (List.mem_of_getElem? (i := 19) rfl)
theorem m284 : Cond.instanceMethod yX8_brotherIs ∈ TBL := xc11 _ (List.mem_of_getElem? (i := 20) rfl)
theorem m285 : Cond.selects RX8 yX8_brotherIs yX8_brotherIs ∈ TBL := xc11 _ (List.mem_of_getElem? (i := 21) rfl)
theorem m286 : Cond.code yX8_brotherIs cX8_brotherIs 3 (some .int) ∈ TBL := xc11 _ (List.mem_of_getElem? (i := 22) rfl)
theorem m287 : Cond.methodLink RX8 114 yX8_isBrother ∈ TBL := xc11 _ (List.mem_of_getElem? (i := 23) rfl)
theorem m288 : Cond.instanceMethod yX8_isBrother ∈ TBL := xc12 _ (List.mem_of_getElem? (i := 0) rfl)
theorem m289 : Cond.selects RX8 yX8_isBrother yX8_isBrother ∈ TBL := xc12 _ (List.mem_of_getElem? (i := 1) rfl)
theorem m290 : Cond.code yX8_isBrother cX8_isBrother 2 (some .boolean) ∈ TBL := xc12 _ (List.mem_of_getElem? (i := 2) rfl)
theorem m291 : Cond.methodLink RX8 81 yX8_of ∈ TBL := xc12 _ (List.mem_of_getElem? (i := 3) rfl)
theorem m292 : Cond.instanceMethod yX8_of ∈ TBL := xc12 _ (List.mem_of_getElem? (i := 4) rfl)
theorem m293 : Cond.selects RX8 yX8_of yX8_of ∈ TBL := xc12 _ (List.mem_of_getElem? (i := 5) rfl)
theorem m294 : Cond.code yX8_of cX8_of 3 (some .int) ∈ TBL := xc12 _ (List.mem_of_getElem? (i := 6) rfl)
theorem m295 : Cond.methodLink RX8 117 yX8_avoided ∈ TBL := xc12 _ (List.mem_of_getElem? (i := 7) rfl)
theorem m296 : Cond.instanceMethod yX8_avoided ∈ TBL := xc12 _ (List.mem_of_getElem? (i := 8) rfl)
theorem m297 : Cond.selects RX8 yX8_avoided yX8_avoided ∈ TBL := xc12 _ (List.mem_of_getElem? (i := 9) rfl)
theorem m298 : Cond.code yX8_avoided cX8_avoided 4 (some .int) ∈ TBL := xc12 _ (List.mem_of_getElem? (i := 10) rfl)
theorem m299 : Cond.methodLink RX8 111 yX8_doesAvoid ∈ TBL := xc12 _ (List.mem_of_getElem? (i := 11) rfl)
theorem m300 : Cond.instanceMethod yX8_doesAvoid ∈ TBL := xc12 _ (List.mem_of_getElem? (i := 12) rfl)
theorem m301 : Cond.selects RX8 yX8_doesAvoid yX8_doesAvoid ∈ TBL := xc12 _ (List.mem_of_getElem? (i := 13) rfl)
theorem m302 : Cond.code yX8_doesAvoid cX8_doesAvoid 4 (some .boolean) ∈ TBL := xc12 _ (List.mem_of_getElem? (i := 14) rfl)
theorem m303 : Cond.fieldLink RX8 70 "ParrotVowModel" "fitting" "I" ∈ TBL := xc12 _ (List.mem_of_getElem? (i := 15) rfl)
theorem m304 : Cond.methodLink RX8 93 yX8_doesShun ∈ TBL := xc12 _ (List.mem_of_getElem? (i := 16) rfl)
theorem m305 : Cond.instanceMethod yX8_doesShun ∈ TBL := xc12 _ (List.mem_of_getElem? (i := 17) rfl)
theorem m306 : Cond.selects RX8 yX8_doesShun yX8_doesShun ∈ TBL := xc12 _ (List.mem_of_getElem? (i := 18) rfl)
theorem m307 : Cond.code yX8_doesShun cX8_doesShun 7 (some .boolean) ∈ TBL := xc12 _ (List.mem_of_getElem? (i := 19) rfl)
theorem m308 : Cond.methodLink RX8 85 yX8_breaksBy ∈ TBL := xc12 _ (List.mem_of_getElem? (i := 20) rfl)
theorem m309 : Cond.instanceMethod yX8_breaksBy ∈ TBL := xc12 _ (List.mem_of_getElem? (i := 21) rfl)
theorem m310 : Cond.selects RX8 yX8_breaksBy yX8_breaksBy ∈ TBL := xc12 _ (List.mem_of_getElem? (i := 22) rfl)
theorem m311 : Cond.code yX8_breaksBy cX8_breaksBy 2 (some .int) ∈ TBL := xc12 _ (List.mem_of_getElem? (i := 23) rfl)
theorem m312 : Cond.methodLink RX8 78 yX8_findVows ∈ TBL := xc13 _ (List.mem_of_getElem? (i := 0) rfl)
theorem m313 : Cond.instanceMethod yX8_findVows ∈ TBL := xc13 _ (List.mem_of_getElem? (i := 1) rfl)
theorem m314 : Cond.selects RX8 yX8_findVows yX8_findVows ∈ TBL := xc13 _ (List.mem_of_getElem? (i := 2) rfl)
theorem m315 : Cond.code yX8_findVows cX8_findVows 3 none ∈ TBL := xc13 _ (List.mem_of_getElem? (i := 3) rfl)
theorem m316 : Cond.fieldLink RX8 66 "ParrotVowModel" "isKnown" "Z" ∈ TBL := xc13 _ (List.mem_of_getElem? (i := 4) rfl)
theorem m317 : Cond.methodLink RX8 74 yX8_doesFit ∈ TBL := xc13 _ (List.mem_of_getElem? (i := 5) rfl)
theorem m318 : Cond.instanceMethod yX8_doesFit ∈ TBL := xc13 _ (List.mem_of_getElem? (i := 6) rfl)
theorem m319 : Cond.selects RX8 yX8_doesFit yX8_doesFit ∈ TBL := xc13 _ (List.mem_of_getElem? (i := 7) rfl)
theorem m320 : Cond.code yX8_doesFit cX8_doesFit 4 (some .boolean) ∈ TBL := xc13 _ (List.mem_of_getElem? (i := 8) rfl)
theorem m321 : Cond.methodLink RX8 63 yX8_doesBreak ∈ TBL := xc13 _ (List.mem_of_getElem? (i := 9) rfl)
theorem m322 : Cond.instanceMethod yX8_doesBreak ∈ TBL := xc13 _ (List.mem_of_getElem? (i := 10) rfl)
theorem m323 : Cond.selects RX8 yX8_doesBreak yX8_doesBreak ∈ TBL := xc13 _ (List.mem_of_getElem? (i := 11) rfl)
theorem m324 : Cond.code yX8_doesBreak cX8_doesBreak 3 (some .boolean) ∈ TBL := xc13 _ (List.mem_of_getElem? (i := 12) rfl)
theorem m325 : Cond.methodLink RX8 96 yX8_gives ∈ TBL := xc13 _ (List.mem_of_getElem? (i := 13) rfl)
theorem m326 : Cond.instanceMethod yX8_gives ∈ TBL := xc13 _ (List.mem_of_getElem? (i := 14) rfl)
theorem m327 : Cond.selects RX8 yX8_gives yX8_gives ∈ TBL := xc13 _ (List.mem_of_getElem? (i := 15) rfl)
theorem m328 : Cond.code yX8_gives cX8_gives 7 (some .int) ∈ TBL := xc13 _ (List.mem_of_getElem? (i := 16) rfl)
theorem m329 : Cond.methodLink RX8 202 yX8_works ∈ TBL := xc13 _ (List.mem_of_getElem? (i := 17) rfl)
theorem m330 : Cond.instanceMethod yX8_works ∈ TBL := xc13 _ (List.mem_of_getElem? (i := 18) rfl)
theorem m331 : Cond.selects RX8 yX8_works yX8_works ∈ TBL := xc13 _ (List.mem_of_getElem? (i := 19) rfl)
theorem m332 : Cond.code yX8_works cX8_works 5 (some .int) ∈ TBL := xc13 _ (List.mem_of_getElem? (i := 20) rfl)
theorem m333 : Cond.methodLink RX8 199 yX8_twoOf ∈ TBL := xc13 _ (List.mem_of_getElem? (i := 21) rfl)
theorem m334 : Cond.static yX8_twoOf ∈ TBL := xc13 _ (List.mem_of_getElem? (i := 22) rfl)
theorem m335 : Cond.code yX8_twoOf cX8_twoOf 3 (some .int) ∈ TBL := xc13 _ (List.mem_of_getElem? (i := 23) rfl)
theorem m336 : Cond.methodLink RX8 139 yX8_held ∈ TBL := xc14 _ (List.mem_of_getElem? (i := 0) rfl)
theorem m337 : Cond.static yX8_held ∈ TBL := xc14 _ (List.mem_of_getElem? (i := 1) rfl)
theorem m338 : Cond.code yX8_held cX8_held 3 (some .int) ∈ TBL := xc14 _ (List.mem_of_getElem? (i := 2) rfl)
theorem m339 : Cond.methodLink RL 23 yX7_become ∈ TBL := xc14 _ (List.mem_of_getElem? (i := 3) rfl)
theorem m340 : Cond.instanceMethod yX7_become ∈ TBL := xc14 _ (List.mem_of_getElem? (i := 4) rfl)
theorem m341 : Cond.selects RX7 yX7_become yX7_become ∈ TBL := xc14 _ (List.mem_of_getElem? (i := 5) rfl)
theorem m342 : Cond.code yX7_become cX7_become 4 (some .int) ∈ TBL := xc14 _ (List.mem_of_getElem? (i := 6) rfl)
theorem m343 : Cond.methodLink RX7 125 yX1_set ∈ TBL := xc14 _ (List.mem_of_getElem? (i := 7) rfl)
theorem m344 : Cond.instanceMethod yX1_set ∈ TBL := xc14 _ (List.mem_of_getElem? (i := 8) rfl)
theorem m345 : Cond.selects RX1 yX1_set yX1_set ∈ TBL := xc14 _ (List.mem_of_getElem? (i := 9) rfl)
theorem m346 : Cond.code yX1_set cX1_set 3 none ∈ TBL := xc14 _ (List.mem_of_getElem? (i := 10) rfl)
theorem m347 : Cond.methodLink RL 26 yX8_become ∈ TBL := xc14 _ (List.mem_of_getElem? (i := 11) rfl)
theorem m348 : Cond.instanceMethod yX8_become ∈ TBL := xc14 _ (List.mem_of_getElem? (i := 12) rfl)
theorem m349 : Cond.selects RX8 yX8_become yX8_become ∈ TBL := xc14 _ (List.mem_of_getElem? (i := 13) rfl)
theorem m350 : Cond.code yX8_become cX8_become 3 (some .int) ∈ TBL := xc14 _ (List.mem_of_getElem? (i := 14) rfl)
theorem m351 : Cond.methodLink RX8 120 yX8_becomes ∈ TBL := xc14 _ (List.mem_of_getElem? (i := 15) rfl)
theorem m352 : Cond.instanceMethod yX8_becomes ∈ TBL := xc14 _ (List.mem_of_getElem? (i := 16) rfl)
theorem m353 : Cond.selects RX8 yX8_becomes yX8_becomes ∈ TBL := xc14 _ (List.mem_of_getElem? (i := 17) rfl)
theorem m354 : Cond.code yX8_becomes cX8_becomes 4 (some .int) ∈ TBL := xc14 _ (List.mem_of_getElem? (i := 18) rfl)
theorem m355 : Cond.methodLink RL 27 yX7_as ∈ TBL := xc14 _ (List.mem_of_getElem? (i := 19) rfl)
theorem m356 : Cond.instanceMethod yX7_as ∈ TBL := xc14 _ (List.mem_of_getElem? (i := 20) rfl)
theorem m357 : Cond.selects RX7 yX7_as yX7_as ∈ TBL := xc14 _ (List.mem_of_getElem? (i := 21) rfl)
theorem m358 : Cond.code yX7_as cX7_as 3 (some .int) ∈ TBL := xc14 _ (List.mem_of_getElem? (i := 22) rfl)
theorem m359 : Cond.methodLink RX7 129 yX7_isUnder ∈ TBL := xc14 _ (List.mem_of_getElem? (i := 23) rfl)
theorem m360 : Cond.static yX7_isUnder ∈ TBL := xc15 _ (List.mem_of_getElem? (i := 0) rfl)
theorem m361 : Cond.code yX7_isUnder cX7_isUnder 4 (some .boolean) ∈ TBL := xc15 _ (List.mem_of_getElem? (i := 1) rfl)
theorem m362 : Cond.methodLink RX7 293 yX7_kindAbove ∈ TBL := xc15 _ (List.mem_of_getElem? (i := 2) rfl)
theorem m363 : Cond.static yX7_kindAbove ∈ TBL := xc15 _ (List.mem_of_getElem? (i := 3) rfl)
theorem m364 : Cond.code yX7_kindAbove cX7_kindAbove 1 (some .int) ∈ TBL := xc15 _ (List.mem_of_getElem? (i := 4) rfl)
theorem m365 : Cond.fieldLink RX7 290 "ParrotVow" "ABOVE" "[I" ∈ TBL := xc15 _ (List.mem_of_getElem? (i := 5) rfl)
theorem m366 : Cond.methodLink RL 30 yX8_as ∈ TBL := xc15 _ (List.mem_of_getElem? (i := 6) rfl)
theorem m367 : Cond.instanceMethod yX8_as ∈ TBL := xc15 _ (List.mem_of_getElem? (i := 7) rfl)
theorem m368 : Cond.selects RX8 yX8_as yX8_as ∈ TBL := xc15 _ (List.mem_of_getElem? (i := 8) rfl)
theorem m369 : Cond.code yX8_as cX8_as 5 (some .int) ∈ TBL := xc15 _ (List.mem_of_getElem? (i := 9) rfl)
theorem m370 : Cond.constant RX8 123 (-1000000005) ∈ TBL := xc15 _ (List.mem_of_getElem? (i := 10) rfl)
theorem m371 : Cond.methodLink RL 31 yX7_avoids ∈ TBL := xc15 _ (List.mem_of_getElem? (i := 11) rfl)
theorem m372 : Cond.instanceMethod yX7_avoids ∈ TBL := xc15 _ (List.mem_of_getElem? (i := 12) rfl)
theorem m373 : Cond.selects RX7 yX7_avoids yX7_avoids ∈ TBL := xc15 _ (List.mem_of_getElem? (i := 13) rfl)
theorem m374 : Cond.code yX7_avoids cX7_avoids 3 (some .int) ∈ TBL := xc15 _ (List.mem_of_getElem? (i := 14) rfl)
theorem m375 : Cond.methodLink RX7 133 yX7_isSaying ∈ TBL := xc15 _ (List.mem_of_getElem? (i := 15) rfl)
theorem m376 : Cond.methodLink RL 34 yX8_avoids ∈ TBL := xc15 _ (List.mem_of_getElem? (i := 16) rfl)
theorem m377 : Cond.instanceMethod yX8_avoids ∈ TBL := xc15 _ (List.mem_of_getElem? (i := 17) rfl)
theorem m378 : Cond.selects RX8 yX8_avoids yX8_avoids ∈ TBL := xc15 _ (List.mem_of_getElem? (i := 18) rfl)
theorem m379 : Cond.code yX8_avoids cX8_avoids 3 (some .int) ∈ TBL := xc15 _ (List.mem_of_getElem? (i := 19) rfl)
theorem m380 : Cond.methodLink RX8 124 yX8_isSaying ∈ TBL := xc15 _ (List.mem_of_getElem? (i := 20) rfl)
theorem m381 : Cond.static yX8_isSaying ∈ TBL := xc15 _ (List.mem_of_getElem? (i := 21) rfl)
theorem m382 : Cond.code yX8_isSaying cX8_isSaying 1 (some .boolean) ∈ TBL := xc15 _ (List.mem_of_getElem? (i := 22) rfl)
theorem m383 : Cond.methodLink RL 35 yX7_talk ∈ TBL := xc15 _ (List.mem_of_getElem? (i := 23) rfl)
theorem m384 : Cond.instanceMethod yX7_talk ∈ TBL := xc16 _ (List.mem_of_getElem? (i := 0) rfl)
theorem m385 : Cond.selects RX7 yX7_talk yX7_talk ∈ TBL := xc16 _ (List.mem_of_getElem? (i := 1) rfl)
theorem m386 : Cond.code yX7_talk cX7_talk 3 (some .int) ∈ TBL := xc16 _ (List.mem_of_getElem? (i := 2) rfl)
theorem m387 : Cond.methodLink RX7 139 yX7_talkOf ∈ TBL := xc16 _ (List.mem_of_getElem? (i := 3) rfl)
theorem m388 : Cond.instanceMethod yX7_talkOf ∈ TBL := xc16 _ (List.mem_of_getElem? (i := 4) rfl)
theorem m389 : Cond.selects RX7 yX7_talkOf yX7_talkOf ∈ TBL := xc16 _ (List.mem_of_getElem? (i := 5) rfl)
theorem m390 : Cond.code yX7_talkOf cX7_talkOf 3 (some .int) ∈ TBL := xc16 _ (List.mem_of_getElem? (i := 6) rfl)
theorem m391 : Cond.methodLink RX7 303 yX7_tells ∈ TBL := xc16 _ (List.mem_of_getElem? (i := 7) rfl)
theorem m392 : Cond.instanceMethod yX7_tells ∈ TBL := xc16 _ (List.mem_of_getElem? (i := 8) rfl)
theorem m393 : Cond.selects RX7 yX7_tells yX7_tells ∈ TBL := xc16 _ (List.mem_of_getElem? (i := 9) rfl)
theorem m394 : Cond.code yX7_tells cX7_tells 4 (some .int) ∈ TBL := xc16 _ (List.mem_of_getElem? (i := 10) rfl)
theorem m395 : Cond.methodLink RX7 296 yJ6_bitCount_0f7a4 ∈ TBL := xc16 _ (List.mem_of_getElem? (i := 11) rfl)
theorem m396 : Cond.static yJ6_bitCount_0f7a4 ∈ TBL := xc16 _ (List.mem_of_getElem? (i := 12) rfl)
theorem m397 : Cond.initialized RJ6 ∈ TBL := xc16 _ (List.mem_of_getElem? (i := 13) rfl)
theorem m398 : Cond.code yJ6_bitCount_0f7a4 cJ6_bitCount_0f7a4 1 (some .int) ∈ TBL := xc16 _ (List.mem_of_getElem? (i := 14) rfl)
theorem m399 : Cond.constant RJ6 265 (1431655765) ∈ TBL := xc16 _ (List.mem_of_getElem? (i := 15) rfl)
theorem m400 : Cond.constant RJ6 266 (858993459) ∈ TBL := xc16 _ (List.mem_of_getElem? (i := 16) rfl)
theorem m401 : Cond.constant RJ6 267 (252645135) ∈ TBL := xc16 _ (List.mem_of_getElem? (i := 17) rfl)
theorem m402 : Cond.methodLink RL 38 yX8_talk ∈ TBL := xc16 _ (List.mem_of_getElem? (i := 18) rfl)
theorem m403 : Cond.instanceMethod yX8_talk ∈ TBL := xc16 _ (List.mem_of_getElem? (i := 19) rfl)
theorem m404 : Cond.selects RX8 yX8_talk yX8_talk ∈ TBL := xc16 _ (List.mem_of_getElem? (i := 20) rfl)
theorem m405 : Cond.code yX8_talk cX8_talk 3 (some .int) ∈ TBL := xc16 _ (List.mem_of_getElem? (i := 21) rfl)
theorem m406 : Cond.methodLink RX8 127 yX8_talkOf ∈ TBL := xc16 _ (List.mem_of_getElem? (i := 22) rfl)
theorem m407 : Cond.instanceMethod yX8_talkOf ∈ TBL := xc16 _ (List.mem_of_getElem? (i := 23) rfl)
theorem m408 : Cond.selects RX8 yX8_talkOf yX8_talkOf ∈ TBL := xc17 _ (List.mem_of_getElem? (i := 0) rfl)
theorem m409 : Cond.code yX8_talkOf cX8_talkOf 3 (some .int) ∈ TBL := xc17 _ (List.mem_of_getElem? (i := 1) rfl)
theorem m410 : Cond.methodLink RX8 100 yX8_tellsOf ∈ TBL := xc17 _ (List.mem_of_getElem? (i := 2) rfl)
theorem m411 : Cond.instanceMethod yX8_tellsOf ∈ TBL := xc17 _ (List.mem_of_getElem? (i := 3) rfl)
theorem m412 : Cond.selects RX8 yX8_tellsOf yX8_tellsOf ∈ TBL := xc17 _ (List.mem_of_getElem? (i := 4) rfl)
theorem m413 : Cond.code yX8_tellsOf cX8_tellsOf 4 (some .int) ∈ TBL := xc17 _ (List.mem_of_getElem? (i := 5) rfl)
theorem m414 : Cond.methodLink RX8 89 yX8_bits ∈ TBL := xc17 _ (List.mem_of_getElem? (i := 6) rfl)
theorem m415 : Cond.static yX8_bits ∈ TBL := xc17 _ (List.mem_of_getElem? (i := 7) rfl)
theorem m416 : Cond.code yX8_bits cX8_bits 5 (some .int) ∈ TBL := xc17 _ (List.mem_of_getElem? (i := 8) rfl)
theorem m417 : Cond.methodLink RL 39 yX7_vow ∈ TBL := xc17 _ (List.mem_of_getElem? (i := 9) rfl)
theorem m418 : Cond.instanceMethod yX7_vow ∈ TBL := xc17 _ (List.mem_of_getElem? (i := 10) rfl)
theorem m419 : Cond.selects RX7 yX7_vow yX7_vow ∈ TBL := xc17 _ (List.mem_of_getElem? (i := 11) rfl)
theorem m420 : Cond.code yX7_vow cX7_vow 3 (some .int) ∈ TBL := xc17 _ (List.mem_of_getElem? (i := 12) rfl)
theorem m421 : Cond.fieldLink RX7 143 "ParrotVow$State" "vow" "I" ∈ TBL := xc17 _ (List.mem_of_getElem? (i := 13) rfl)
theorem m422 : Cond.methodLink RL 42 yX8_vow ∈ TBL := xc17 _ (List.mem_of_getElem? (i := 14) rfl)
theorem m423 : Cond.instanceMethod yX8_vow ∈ TBL := xc17 _ (List.mem_of_getElem? (i := 15) rfl)
theorem m424 : Cond.selects RX8 yX8_vow yX8_vow ∈ TBL := xc17 _ (List.mem_of_getElem? (i := 16) rfl)
theorem m425 : Cond.code yX8_vow cX8_vow 2 (some .int) ∈ TBL := xc17 _ (List.mem_of_getElem? (i := 17) rfl)
theorem m426 : Cond.methodLink RL 43 yX7_sign ∈ TBL := xc17 _ (List.mem_of_getElem? (i := 18) rfl)
theorem m427 : Cond.instanceMethod yX7_sign ∈ TBL := xc17 _ (List.mem_of_getElem? (i := 19) rfl)
theorem m428 : Cond.selects RX7 yX7_sign yX7_sign ∈ TBL := xc17 _ (List.mem_of_getElem? (i := 20) rfl)
theorem m429 : Cond.code yX7_sign cX7_sign 3 (some .int) ∈ TBL := xc17 _ (List.mem_of_getElem? (i := 21) rfl)
theorem m430 : Cond.methodLink RX7 149 yX3_addSign ∈ TBL := xc17 _ (List.mem_of_getElem? (i := 22) rfl)
theorem m431 : Cond.instanceMethod yX3_addSign ∈ TBL := xc17 _ (List.mem_of_getElem? (i := 23) rfl)
theorem m432 : Cond.selects RX3 yX3_addSign yX3_addSign ∈ TBL := xc18 _ (List.mem_of_getElem? (i := 0) rfl)
theorem m433 : Cond.code yX3_addSign cX3_addSign 3 none ∈ TBL := xc18 _ (List.mem_of_getElem? (i := 1) rfl)
theorem m434 : Cond.methodLink RX3 58 yX1_add ∈ TBL := xc18 _ (List.mem_of_getElem? (i := 2) rfl)
theorem m435 : Cond.methodLink RL 46 yX8_sign ∈ TBL := xc18 _ (List.mem_of_getElem? (i := 3) rfl)
theorem m436 : Cond.instanceMethod yX8_sign ∈ TBL := xc18 _ (List.mem_of_getElem? (i := 4) rfl)
theorem m437 : Cond.selects RX8 yX8_sign yX8_sign ∈ TBL := xc18 _ (List.mem_of_getElem? (i := 5) rfl)
theorem m438 : Cond.code yX8_sign cX8_sign 3 (some .int) ∈ TBL := xc18 _ (List.mem_of_getElem? (i := 6) rfl)
theorem m439 : Cond.methodLink RX8 130 yX8_comes ∈ TBL := xc18 _ (List.mem_of_getElem? (i := 7) rfl)
theorem m440 : Cond.instanceMethod yX8_comes ∈ TBL := xc18 _ (List.mem_of_getElem? (i := 8) rfl)
theorem m441 : Cond.selects RX8 yX8_comes yX8_comes ∈ TBL := xc18 _ (List.mem_of_getElem? (i := 9) rfl)
theorem m442 : Cond.code yX8_comes cX8_comes 4 none ∈ TBL := xc18 _ (List.mem_of_getElem? (i := 10) rfl)
theorem m443 : Cond.methodLink RX8 134 yX8_fittingNow ∈ TBL := xc18 _ (List.mem_of_getElem? (i := 11) rfl)
theorem m444 : Cond.instanceMethod yX8_fittingNow ∈ TBL := xc18 _ (List.mem_of_getElem? (i := 12) rfl)
theorem m445 : Cond.selects RX8 yX8_fittingNow yX8_fittingNow ∈ TBL := xc18 _ (List.mem_of_getElem? (i := 13) rfl)
theorem m446 : Cond.code yX8_fittingNow cX8_fittingNow 1 (some .int) ∈ TBL := xc18 _ (List.mem_of_getElem? (i := 14) rfl)
theorem m447 : Cond.methodLink RL 47 yX7_forget ∈ TBL := xc18 _ (List.mem_of_getElem? (i := 15) rfl)
theorem m448 : Cond.instanceMethod yX7_forget ∈ TBL := xc18 _ (List.mem_of_getElem? (i := 16) rfl)
theorem m449 : Cond.selects RX7 yX7_forget yX7_forget ∈ TBL := xc18 _ (List.mem_of_getElem? (i := 17) rfl)
theorem m450 : Cond.code yX7_forget cX7_forget 2 (some .int) ∈ TBL := xc18 _ (List.mem_of_getElem? (i := 18) rfl)
theorem m451 : Cond.methodLink RX7 155 yX1_drop ∈ TBL := xc18 _ (List.mem_of_getElem? (i := 19) rfl)
theorem m452 : Cond.instanceMethod yX1_drop ∈ TBL := xc18 _ (List.mem_of_getElem? (i := 20) rfl)
theorem m453 : Cond.selects RX1 yX1_drop yX1_drop ∈ TBL := xc18 _ (List.mem_of_getElem? (i := 21) rfl)
theorem m454 : Cond.code yX1_drop cX1_drop 2 none ∈ TBL := xc18 _ (List.mem_of_getElem? (i := 22) rfl)
theorem m455 : Cond.methodLink RL 50 yX8_forget ∈ TBL := xc18 _ (List.mem_of_getElem? (i := 23) rfl)
theorem m456 : Cond.instanceMethod yX8_forget ∈ TBL := xc19 _ (List.mem_of_getElem? (i := 0) rfl)
theorem m457 : Cond.selects RX8 yX8_forget yX8_forget ∈ TBL := xc19 _ (List.mem_of_getElem? (i := 1) rfl)
theorem m458 : Cond.code yX8_forget cX8_forget 2 (some .int) ∈ TBL := xc19 _ (List.mem_of_getElem? (i := 2) rfl)
theorem m459 : Cond.methodLink RL 51 yX7_say ∈ TBL := xc19 _ (List.mem_of_getElem? (i := 3) rfl)
theorem m460 : Cond.instanceMethod yX7_say ∈ TBL := xc19 _ (List.mem_of_getElem? (i := 4) rfl)
theorem m461 : Cond.selects RX7 yX7_say yX7_say ∈ TBL := xc19 _ (List.mem_of_getElem? (i := 5) rfl)
theorem m462 : Cond.code yX7_say cX7_say 3 (some .int) ∈ TBL := xc19 _ (List.mem_of_getElem? (i := 6) rfl)
theorem m463 : Cond.methodLink RX7 158 yX7_says ∈ TBL := xc19 _ (List.mem_of_getElem? (i := 7) rfl)
theorem m464 : Cond.instanceMethod yX7_says ∈ TBL := xc19 _ (List.mem_of_getElem? (i := 8) rfl)
theorem m465 : Cond.selects RX7 yX7_says yX7_says ∈ TBL := xc19 _ (List.mem_of_getElem? (i := 9) rfl)
theorem m466 : Cond.code yX7_says cX7_says 6 (some .int) ∈ TBL := xc19 _ (List.mem_of_getElem? (i := 10) rfl)
theorem m467 : Cond.constant RX7 314 (99999) ∈ TBL := xc19 _ (List.mem_of_getElem? (i := 11) rfl)
theorem m468 : Cond.fieldLink RX7 278 "ParrotVow$State" "worth" "I" ∈ TBL := xc19 _ (List.mem_of_getElem? (i := 12) rfl)
theorem m469 : Cond.methodLink RX7 269 yX5_breaks ∈ TBL := xc19 _ (List.mem_of_getElem? (i := 13) rfl)
theorem m470 : Cond.instanceMethod yX5_breaks ∈ TBL := xc19 _ (List.mem_of_getElem? (i := 14) rfl)
theorem m471 : Cond.selects RX5 yX5_breaks yX5_breaks ∈ TBL := xc19 _ (List.mem_of_getElem? (i := 15) rfl)
theorem m472 : Cond.code yX5_breaks cX5_breaks 3 (some .boolean) ∈ TBL := xc19 _ (List.mem_of_getElem? (i := 16) rfl)
theorem m473 : Cond.methodLink RL 54 yX8_say ∈ TBL := xc19 _ (List.mem_of_getElem? (i := 17) rfl)
theorem m474 : Cond.instanceMethod yX8_say ∈ TBL := xc19 _ (List.mem_of_getElem? (i := 18) rfl)
theorem m475 : Cond.selects RX8 yX8_say yX8_say ∈ TBL := xc19 _ (List.mem_of_getElem? (i := 19) rfl)
theorem m476 : Cond.code yX8_say cX8_say 3 (some .int) ∈ TBL := xc19 _ (List.mem_of_getElem? (i := 20) rfl)
theorem m477 : Cond.constant RX8 143 (-1000000003) ∈ TBL := xc19 _ (List.mem_of_getElem? (i := 21) rfl)
theorem m478 : Cond.methodLink RX8 144 yX8_says ∈ TBL := xc19 _ (List.mem_of_getElem? (i := 22) rfl)
theorem m479 : Cond.instanceMethod yX8_says ∈ TBL := xc19 _ (List.mem_of_getElem? (i := 23) rfl)
theorem m480 : Cond.selects RX8 yX8_says yX8_says ∈ TBL := xc20 _ (List.mem_of_getElem? (i := 0) rfl)
theorem m481 : Cond.code yX8_says cX8_says 6 (some .int) ∈ TBL := xc20 _ (List.mem_of_getElem? (i := 1) rfl)
theorem m482 : Cond.constant RX8 138 (99999) ∈ TBL := xc20 _ (List.mem_of_getElem? (i := 2) rfl)
theorem m483 : Cond.methodLink RL 57 yX7_feed ∈ TBL := xc20 _ (List.mem_of_getElem? (i := 3) rfl)
theorem m484 : Cond.instanceMethod yX7_feed ∈ TBL := xc20 _ (List.mem_of_getElem? (i := 4) rfl)
theorem m485 : Cond.selects RX7 yX7_feed yX7_feed ∈ TBL := xc20 _ (List.mem_of_getElem? (i := 5) rfl)
theorem m486 : Cond.code yX7_feed cX7_feed 5 (some .int) ∈ TBL := xc20 _ (List.mem_of_getElem? (i := 6) rfl)
theorem m487 : Cond.methodLink RL 61 yX8_feed ∈ TBL := xc20 _ (List.mem_of_getElem? (i := 7) rfl)
theorem m488 : Cond.instanceMethod yX8_feed ∈ TBL := xc20 _ (List.mem_of_getElem? (i := 8) rfl)
theorem m489 : Cond.selects RX8 yX8_feed yX8_feed ∈ TBL := xc20 _ (List.mem_of_getElem? (i := 9) rfl)
theorem m490 : Cond.code yX8_feed cX8_feed 5 (some .int) ∈ TBL := xc20 _ (List.mem_of_getElem? (i := 10) rfl)
theorem m491 : Cond.constantLong RX8 148 (255) ∈ TBL := xc20 _ (List.mem_of_getElem? (i := 11) rfl)
theorem m492 : Cond.methodLink RL 62 yX7_text ∈ TBL := xc20 _ (List.mem_of_getElem? (i := 12) rfl)
theorem m493 : Cond.instanceMethod yX7_text ∈ TBL := xc20 _ (List.mem_of_getElem? (i := 13) rfl)
theorem m494 : Cond.selects RX7 yX7_text yX7_text ∈ TBL := xc20 _ (List.mem_of_getElem? (i := 14) rfl)
theorem m495 : Cond.code yX7_text cX7_text 4 (some .int) ∈ TBL := xc20 _ (List.mem_of_getElem? (i := 15) rfl)
theorem m496 : Cond.fieldLink RX7 177 "ParrotVow$Reader" "codes" "LParrotVow$Row;" ∈ TBL := xc20 _ (List.mem_of_getElem? (i := 16) rfl)
theorem m497 : Cond.methodLink RX7 170 yX0_faultOf ∈ TBL := xc20 _ (List.mem_of_getElem? (i := 17) rfl)
theorem m498 : Cond.instanceMethod yX0_faultOf ∈ TBL := xc20 _ (List.mem_of_getElem? (i := 18) rfl)
theorem m499 : Cond.selects RX0 yX0_faultOf yX0_faultOf ∈ TBL := xc20 _ (List.mem_of_getElem? (i := 19) rfl)
theorem m500 : Cond.code yX0_faultOf cX0_faultOf 2 (some .int) ∈ TBL := xc20 _ (List.mem_of_getElem? (i := 20) rfl)
theorem m501 : Cond.methodLink RX0 37 yX1_clear ∈ TBL := xc20 _ (List.mem_of_getElem? (i := 21) rfl)
theorem m502 : Cond.methodLink RX0 40 yX0_readOr ∈ TBL := xc20 _ (List.mem_of_getElem? (i := 22) rfl)
theorem m503 : Cond.instanceMethod yX0_readOr ∈ TBL := xc20 _ (List.mem_of_getElem? (i := 23) rfl)
theorem m504 : Cond.selects RX0 yX0_readOr yX0_readOr ∈ TBL := xc21 _ (List.mem_of_getElem? (i := 0) rfl)
theorem m505 : Cond.code yX0_readOr cX0_readOr 3 none ∈ TBL := xc21 _ (List.mem_of_getElem? (i := 1) rfl)
theorem m506 : Cond.methodLink RX0 67 yX0_readAnd ∈ TBL := xc21 _ (List.mem_of_getElem? (i := 2) rfl)
theorem m507 : Cond.instanceMethod yX0_readAnd ∈ TBL := xc21 _ (List.mem_of_getElem? (i := 3) rfl)
theorem m508 : Cond.selects RX0 yX0_readAnd yX0_readAnd ∈ TBL := xc21 _ (List.mem_of_getElem? (i := 4) rfl)
theorem m509 : Cond.methodLink RX0 63 yX0_takes ∈ TBL := xc21 _ (List.mem_of_getElem? (i := 5) rfl)
theorem m510 : Cond.instanceMethod yX0_takes ∈ TBL := xc21 _ (List.mem_of_getElem? (i := 6) rfl)
theorem m511 : Cond.selects RX0 yX0_takes yX0_takes ∈ TBL := xc21 _ (List.mem_of_getElem? (i := 7) rfl)
theorem m512 : Cond.code yX0_takes cX0_takes 2 (some .boolean) ∈ TBL := xc21 _ (List.mem_of_getElem? (i := 8) rfl)
theorem m513 : Cond.methodLink RX0 51 yX0_next ∈ TBL := xc21 _ (List.mem_of_getElem? (i := 9) rfl)
theorem m514 : Cond.instanceMethod yX0_next ∈ TBL := xc21 _ (List.mem_of_getElem? (i := 10) rfl)
theorem m515 : Cond.selects RX0 yX0_next yX0_next ∈ TBL := xc21 _ (List.mem_of_getElem? (i := 11) rfl)
theorem m516 : Cond.code yX0_next cX0_next 1 (some .int) ∈ TBL := xc21 _ (List.mem_of_getElem? (i := 12) rfl)
theorem m517 : Cond.methodLink RX0 47 yX1_get ∈ TBL := xc21 _ (List.mem_of_getElem? (i := 13) rfl)
theorem m518 : Cond.methodLink RX0 70 yX1_add ∈ TBL := xc21 _ (List.mem_of_getElem? (i := 14) rfl)
theorem m519 : Cond.code yX0_readAnd cX0_readAnd 3 none ∈ TBL := xc21 _ (List.mem_of_getElem? (i := 15) rfl)
theorem m520 : Cond.methodLink RX0 73 yX0_readComparison ∈ TBL := xc21 _ (List.mem_of_getElem? (i := 16) rfl)
theorem m521 : Cond.instanceMethod yX0_readComparison ∈ TBL := xc21 _ (List.mem_of_getElem? (i := 17) rfl)
theorem m522 : Cond.selects RX0 yX0_readComparison yX0_readComparison ∈ TBL := xc21 _ (List.mem_of_getElem? (i := 18) rfl)
theorem m523 : Cond.code yX0_readComparison cX0_readComparison 3 none ∈ TBL := xc21 _ (List.mem_of_getElem? (i := 19) rfl)
theorem m524 : Cond.methodLink RX0 76 yX0_readSum ∈ TBL := xc21 _ (List.mem_of_getElem? (i := 20) rfl)
theorem m525 : Cond.instanceMethod yX0_readSum ∈ TBL := xc21 _ (List.mem_of_getElem? (i := 21) rfl)
theorem m526 : Cond.selects RX0 yX0_readSum yX0_readSum ∈ TBL := xc21 _ (List.mem_of_getElem? (i := 22) rfl)
theorem m527 : Cond.methodLink RX0 81 yX0_takesOneOf ∈ TBL := xc21 _ (List.mem_of_getElem? (i := 23) rfl)
theorem m528 : Cond.instanceMethod yX0_takesOneOf ∈ TBL := xc22 _ (List.mem_of_getElem? (i := 0) rfl)
theorem m529 : Cond.selects RX0 yX0_takesOneOf yX0_takesOneOf ∈ TBL := xc22 _ (List.mem_of_getElem? (i := 1) rfl)
theorem m530 : Cond.code yX0_takesOneOf cX0_takesOneOf 3 (some .char) ∈ TBL := xc22 _ (List.mem_of_getElem? (i := 2) rfl)
theorem m531 : Cond.methodLink RX0 54 yJ0_length_8abf5 ∈ TBL := xc22 _ (List.mem_of_getElem? (i := 3) rfl)
theorem m532 : Cond.instanceMethod yJ0_length_8abf5 ∈ TBL := xc22 _ (List.mem_of_getElem? (i := 4) rfl)
theorem m533 : Cond.selects RJ0 yJ0_length_8abf5 yJ0_length_8abf5 ∈ TBL := xc22 _ (List.mem_of_getElem? (i := 5) rfl)
theorem m534 : Cond.initialized RJ0 ∈ TBL := xc22 _ (List.mem_of_getElem? (i := 6) rfl)
theorem m535 : Cond.code yJ0_length_8abf5 cJ0_length_8abf5 1 (some .int) ∈ TBL := xc22 _ (List.mem_of_getElem? (i := 7) rfl)
theorem m536 : Cond.fieldLink RJ0 9 "java/lang/String" "value" "[B" ∈ TBL := xc22 _ (List.mem_of_getElem? (i := 8) rfl)
theorem m537 : Cond.methodLink RJ0 335 yJ0_coder_7d493 ∈ TBL := xc22 _ (List.mem_of_getElem? (i := 9) rfl)
theorem m538 : Cond.instanceMethod yJ0_coder_7d493 ∈ TBL := xc22 _ (List.mem_of_getElem? (i := 10) rfl)
theorem m539 : Cond.selects RJ0 yJ0_coder_7d493 yJ0_coder_7d493 ∈ TBL := xc22 _ (List.mem_of_getElem? (i := 11) rfl)
theorem m540 : Cond.code yJ0_coder_7d493 cJ0_coder_7d493 1 (some .byte) ∈ TBL := xc22 _ (List.mem_of_getElem? (i := 12) rfl)
theorem m541 : Cond.fieldLink RJ0 38 "java/lang/String" "COMPACT_STRINGS" "Z" ∈ TBL := xc22 _ (List.mem_of_getElem? (i := 13) rfl)
theorem m542 : Cond.fieldLink RJ0 15 "java/lang/String" "coder" "B" ∈ TBL := xc22 _ (List.mem_of_getElem? (i := 14) rfl)
theorem m543 : Cond.methodLink RX0 59 yJ0_charAt_5068e ∈ TBL := xc22 _ (List.mem_of_getElem? (i := 15) rfl)
theorem m544 : Cond.instanceMethod yJ0_charAt_5068e ∈ TBL := xc22 _ (List.mem_of_getElem? (i := 16) rfl)
theorem m545 : Cond.selects RJ0 yJ0_charAt_5068e yJ0_charAt_5068e ∈ TBL := xc22 _ (List.mem_of_getElem? (i := 17) rfl)
theorem m546 : Cond.code yJ0_charAt_5068e cJ0_charAt_5068e 2 (some .char) ∈ TBL := xc22 _ (List.mem_of_getElem? (i := 18) rfl)
theorem m547 : Cond.methodLink RJ0 492 yJ0_isLatin1_aae02 ∈ TBL := xc22 _ (List.mem_of_getElem? (i := 19) rfl)
theorem m548 : Cond.instanceMethod yJ0_isLatin1_aae02 ∈ TBL := xc22 _ (List.mem_of_getElem? (i := 20) rfl)
theorem m549 : Cond.selects RJ0 yJ0_isLatin1_aae02 yJ0_isLatin1_aae02 ∈ TBL := xc22 _ (List.mem_of_getElem? (i := 21) rfl)
theorem m550 : Cond.code yJ0_isLatin1_aae02 cJ0_isLatin1_aae02 1 (some .boolean) ∈ TBL := xc22 _ (List.mem_of_getElem? (i := 22) rfl)
theorem m551 : Cond.methodLink RJ0 495 yJ1_charAt_3b067 ∈ TBL := xc22 _ (List.mem_of_getElem? (i := 23) rfl)
theorem m552 : Cond.static yJ1_charAt_3b067 ∈ TBL := xc23 _ (List.mem_of_getElem? (i := 0) rfl)
theorem m553 : Cond.initialized RJ1 ∈ TBL := xc23 _ (List.mem_of_getElem? (i := 1) rfl)
theorem m554 : Cond.code yJ1_charAt_3b067 cJ1_charAt_3b067 2 (some .char) ∈ TBL := xc23 _ (List.mem_of_getElem? (i := 2) rfl)
theorem m555 : Cond.methodLink RJ1 9 yJ0_checkIndex_df160 ∈ TBL := xc23 _ (List.mem_of_getElem? (i := 3) rfl)
theorem m556 : Cond.static yJ0_checkIndex_df160 ∈ TBL := xc23 _ (List.mem_of_getElem? (i := 4) rfl)
theorem m557 : Cond.code yJ0_checkIndex_df160 cJ0_checkIndex_df160 2 none ∈ TBL := xc23 _ (List.mem_of_getElem? (i := 5) rfl)
theorem m558 : Cond.fieldLink RJ0 1053 "jdk/internal/util/Preconditions" "SIOOBE_FORMATTER" "Ljava/util/function/BiFunction;" ∈ TBL := xc23 _ (List.mem_of_getElem? (i := 6) rfl)
theorem m559 : Cond.methodLink RJ0 1059 yJ3_checkIndex_8e157 ∈ TBL := xc23 _ (List.mem_of_getElem? (i := 7) rfl)
theorem m560 : Cond.static yJ3_checkIndex_8e157 ∈ TBL := xc23 _ (List.mem_of_getElem? (i := 8) rfl)
theorem m561 : Cond.initialized RJ3 ∈ TBL := xc23 _ (List.mem_of_getElem? (i := 9) rfl)
theorem m562 : Cond.code yJ3_checkIndex_8e157 cJ3_checkIndex_8e157 3 (some .int) ∈ TBL := xc23 _ (List.mem_of_getElem? (i := 10) rfl)
theorem m563 : Cond.methodLink RJ0 498 yJ2_charAt_3b067 ∈ TBL := xc23 _ (List.mem_of_getElem? (i := 11) rfl)
theorem m564 : Cond.static yJ2_charAt_3b067 ∈ TBL := xc23 _ (List.mem_of_getElem? (i := 12) rfl)
theorem m565 : Cond.initialized RJ2 ∈ TBL := xc23 _ (List.mem_of_getElem? (i := 13) rfl)
theorem m566 : Cond.code yJ2_charAt_3b067 cJ2_charAt_3b067 2 (some .char) ∈ TBL := xc23 _ (List.mem_of_getElem? (i := 14) rfl)
theorem m567 : Cond.methodLink RJ2 67 yJ2_checkIndex_2214a ∈ TBL := xc23 _ (List.mem_of_getElem? (i := 15) rfl)
theorem m568 : Cond.static yJ2_checkIndex_2214a ∈ TBL := xc23 _ (List.mem_of_getElem? (i := 16) rfl)
theorem m569 : Cond.code yJ2_checkIndex_2214a cJ2_checkIndex_2214a 2 none ∈ TBL := xc23 _ (List.mem_of_getElem? (i := 17) rfl)
theorem m570 : Cond.methodLink RJ2 48 yJ2_length_9d52b ∈ TBL := xc23 _ (List.mem_of_getElem? (i := 18) rfl)
theorem m571 : Cond.static yJ2_length_9d52b ∈ TBL := xc23 _ (List.mem_of_getElem? (i := 19) rfl)
theorem m572 : Cond.code yJ2_length_9d52b cJ2_length_9d52b 1 (some .int) ∈ TBL := xc23 _ (List.mem_of_getElem? (i := 20) rfl)
theorem m573 : Cond.methodLink RJ2 414 yJ0_checkIndex_df160 ∈ TBL := xc23 _ (List.mem_of_getElem? (i := 21) rfl)
theorem m574 : Cond.methodLink RJ2 71 yJ2_getChar_3b067 ∈ TBL := xc23 _ (List.mem_of_getElem? (i := 22) rfl)
theorem m575 : Cond.static yJ2_getChar_3b067 ∈ TBL := xc23 _ (List.mem_of_getElem? (i := 23) rfl)
theorem m576 : Cond.code yJ2_getChar_3b067 cJ2_getChar_3b067 2 (some .char) ∈ TBL := xc24 _ (List.mem_of_getElem? (i := 0) rfl)
theorem m577 : Cond.fieldLink RJ2 44 "java/lang/StringUTF16" "$assertionsDisabled" "Z" ∈ TBL := xc24 _ (List.mem_of_getElem? (i := 1) rfl)
theorem m578 : Cond.fieldLink RJ2 59 "java/lang/StringUTF16" "HI_BYTE_SHIFT" "I" ∈ TBL := xc24 _ (List.mem_of_getElem? (i := 2) rfl)
theorem m579 : Cond.fieldLink RJ2 63 "java/lang/StringUTF16" "LO_BYTE_SHIFT" "I" ∈ TBL := xc24 _ (List.mem_of_getElem? (i := 3) rfl)
theorem m580 : Cond.code yX0_readFactor cX0_readFactor 3 none ∈ TBL := xc24 _ (List.mem_of_getElem? (i := 4) rfl)
theorem m581 : Cond.methodLink RX0 95 yJ0_indexOf_0f7a4 ∈ TBL := xc24 _ (List.mem_of_getElem? (i := 5) rfl)
theorem m582 : Cond.instanceMethod yJ0_indexOf_0f7a4 ∈ TBL := xc24 _ (List.mem_of_getElem? (i := 6) rfl)
theorem m583 : Cond.selects RJ0 yJ0_indexOf_0f7a4 yJ0_indexOf_0f7a4 ∈ TBL := xc24 _ (List.mem_of_getElem? (i := 7) rfl)
theorem m584 : Cond.code yJ0_indexOf_0f7a4 cJ0_indexOf_0f7a4 2 (some .int) ∈ TBL := xc24 _ (List.mem_of_getElem? (i := 8) rfl)
theorem m585 : Cond.methodLink RJ0 633 yJ0_indexOf_7cf53 ∈ TBL := xc24 _ (List.mem_of_getElem? (i := 9) rfl)
theorem m586 : Cond.instanceMethod yJ0_indexOf_7cf53 ∈ TBL := xc24 _ (List.mem_of_getElem? (i := 10) rfl)
theorem m587 : Cond.selects RJ0 yJ0_indexOf_7cf53 yJ0_indexOf_7cf53 ∈ TBL := xc24 _ (List.mem_of_getElem? (i := 11) rfl)
theorem m588 : Cond.code yJ0_indexOf_7cf53 cJ0_indexOf_7cf53 3 (some .int) ∈ TBL := xc24 _ (List.mem_of_getElem? (i := 12) rfl)
theorem m589 : Cond.methodLink RJ0 505 yJ0_length_8abf5 ∈ TBL := xc24 _ (List.mem_of_getElem? (i := 13) rfl)
theorem m590 : Cond.methodLink RJ0 637 yJ1_indexOf_4cfef ∈ TBL := xc24 _ (List.mem_of_getElem? (i := 14) rfl)
theorem m591 : Cond.static yJ1_indexOf_4cfef ∈ TBL := xc24 _ (List.mem_of_getElem? (i := 15) rfl)
theorem m592 : Cond.code yJ1_indexOf_4cfef cJ1_indexOf_4cfef 4 (some .int) ∈ TBL := xc24 _ (List.mem_of_getElem? (i := 16) rfl)
theorem m593 : Cond.methodLink RJ1 92 Lib.Math.max.name ∈ TBL := xc24 _ (List.mem_of_getElem? (i := 17) rfl)
theorem m594 : Cond.methodLink RJ1 38 Lib.Math.min.name ∈ TBL := xc24 _ (List.mem_of_getElem? (i := 18) rfl)
theorem m595 : Cond.methodLink RJ1 88 yJ1_canEncode_9a6ad ∈ TBL := xc24 _ (List.mem_of_getElem? (i := 19) rfl)
theorem m596 : Cond.static yJ1_canEncode_9a6ad ∈ TBL := xc24 _ (List.mem_of_getElem? (i := 20) rfl)
theorem m597 : Cond.code yJ1_canEncode_9a6ad cJ1_canEncode_9a6ad 1 (some .boolean) ∈ TBL := xc24 _ (List.mem_of_getElem? (i := 21) rfl)
theorem m598 : Cond.methodLink RJ1 95 yJ1_indexOfChar_4cfef ∈ TBL := xc24 _ (List.mem_of_getElem? (i := 22) rfl)
theorem m599 : Cond.static yJ1_indexOfChar_4cfef ∈ TBL := xc24 _ (List.mem_of_getElem? (i := 23) rfl)
theorem m600 : Cond.code yJ1_indexOfChar_4cfef cJ1_indexOfChar_4cfef 6 (some .int) ∈ TBL := xc25 _ (List.mem_of_getElem? (i := 0) rfl)
theorem m601 : Cond.methodLink RJ0 640 yJ2_indexOf_4cfef ∈ TBL := xc25 _ (List.mem_of_getElem? (i := 1) rfl)
theorem m602 : Cond.static yJ2_indexOf_4cfef ∈ TBL := xc25 _ (List.mem_of_getElem? (i := 2) rfl)
theorem m603 : Cond.code yJ2_indexOf_4cfef cJ2_indexOf_4cfef 4 (some .int) ∈ TBL := xc25 _ (List.mem_of_getElem? (i := 3) rfl)
theorem m604 : Cond.methodLink RJ2 224 Lib.Math.max.name ∈ TBL := xc25 _ (List.mem_of_getElem? (i := 4) rfl)
theorem m605 : Cond.methodLink RJ2 183 Lib.Math.min.name ∈ TBL := xc25 _ (List.mem_of_getElem? (i := 5) rfl)
theorem m606 : Cond.constant RJ2 227 (65536) ∈ TBL := xc25 _ (List.mem_of_getElem? (i := 6) rfl)
theorem m607 : Cond.methodLink RJ2 228 yJ2_indexOfChar_4cfef ∈ TBL := xc25 _ (List.mem_of_getElem? (i := 7) rfl)
theorem m608 : Cond.static yJ2_indexOfChar_4cfef ∈ TBL := xc25 _ (List.mem_of_getElem? (i := 8) rfl)
theorem m609 : Cond.code yJ2_indexOfChar_4cfef cJ2_indexOfChar_4cfef 4 (some .int) ∈ TBL := xc25 _ (List.mem_of_getElem? (i := 9) rfl)
theorem m610 : Cond.methodLink RJ2 96 yJ2_checkBoundsBeginEnd_d044e ∈ TBL := xc25 _ (List.mem_of_getElem? (i := 10) rfl)
theorem m611 : Cond.static yJ2_checkBoundsBeginEnd_d044e ∈ TBL := xc25 _ (List.mem_of_getElem? (i := 11) rfl)
theorem m612 : Cond.code yJ2_checkBoundsBeginEnd_d044e cJ2_checkBoundsBeginEnd_d044e 3 none ∈ TBL := xc25 _ (List.mem_of_getElem? (i := 12) rfl)
theorem m613 : Cond.methodLink RJ2 241 yJ0_checkBoundsBeginEnd_23922 ∈ TBL := xc25 _ (List.mem_of_getElem? (i := 13) rfl)
theorem m614 : Cond.static yJ0_checkBoundsBeginEnd_23922 ∈ TBL := xc25 _ (List.mem_of_getElem? (i := 14) rfl)
theorem m615 : Cond.code yJ0_checkBoundsBeginEnd_23922 cJ0_checkBoundsBeginEnd_23922 3 none ∈ TBL := xc25 _ (List.mem_of_getElem? (i := 15) rfl)
theorem m616 : Cond.methodLink RJ0 1062 yJ3_checkFromToIndex_8c36e ∈ TBL := xc25 _ (List.mem_of_getElem? (i := 16) rfl)
theorem m617 : Cond.static yJ3_checkFromToIndex_8c36e ∈ TBL := xc25 _ (List.mem_of_getElem? (i := 17) rfl)
theorem m618 : Cond.code yJ3_checkFromToIndex_8c36e cJ3_checkFromToIndex_8c36e 4 (some .int) ∈ TBL := xc25 _ (List.mem_of_getElem? (i := 18) rfl)
theorem m619 : Cond.methodLink RJ2 244 yJ2_indexOfCharUnsafe_4cfef ∈ TBL := xc25 _ (List.mem_of_getElem? (i := 19) rfl)
theorem m620 : Cond.static yJ2_indexOfCharUnsafe_4cfef ∈ TBL := xc25 _ (List.mem_of_getElem? (i := 20) rfl)
theorem m621 : Cond.code yJ2_indexOfCharUnsafe_4cfef cJ2_indexOfCharUnsafe_4cfef 5 (some .int) ∈ TBL := xc25 _ (List.mem_of_getElem? (i := 21) rfl)
theorem m622 : Cond.methodLink RJ2 232 yJ2_indexOfSupplementary_4cfef ∈ TBL := xc25 _ (List.mem_of_getElem? (i := 22) rfl)
theorem m623 : Cond.static yJ2_indexOfSupplementary_4cfef ∈ TBL := xc25 _ (List.mem_of_getElem? (i := 23) rfl)
theorem m624 : Cond.code yJ2_indexOfSupplementary_4cfef cJ2_indexOfSupplementary_4cfef 7 (some .int) ∈ TBL := xc26 _ (List.mem_of_getElem? (i := 0) rfl)
theorem m625 : Cond.methodLink RJ2 164 yJ11_isValidCodePoint_9a6ad ∈ TBL := xc26 _ (List.mem_of_getElem? (i := 1) rfl)
theorem m626 : Cond.static yJ11_isValidCodePoint_9a6ad ∈ TBL := xc26 _ (List.mem_of_getElem? (i := 2) rfl)
theorem m627 : Cond.initialized RJ11 ∈ TBL := xc26 _ (List.mem_of_getElem? (i := 3) rfl)
theorem m628 : Cond.code yJ11_isValidCodePoint_9a6ad cJ11_isValidCodePoint_9a6ad 2 (some .boolean) ∈ TBL := xc26 _ (List.mem_of_getElem? (i := 4) rfl)
theorem m629 : Cond.methodLink RJ2 157 yJ11_highSurrogate_5068e ∈ TBL := xc26 _ (List.mem_of_getElem? (i := 5) rfl)
theorem m630 : Cond.static yJ11_highSurrogate_5068e ∈ TBL := xc26 _ (List.mem_of_getElem? (i := 6) rfl)
theorem m631 : Cond.code yJ11_highSurrogate_5068e cJ11_highSurrogate_5068e 1 (some .char) ∈ TBL := xc26 _ (List.mem_of_getElem? (i := 7) rfl)
theorem m632 : Cond.constant RJ11 110 (55232) ∈ TBL := xc26 _ (List.mem_of_getElem? (i := 8) rfl)
theorem m633 : Cond.methodLink RJ2 161 yJ11_lowSurrogate_5068e ∈ TBL := xc26 _ (List.mem_of_getElem? (i := 9) rfl)
theorem m634 : Cond.static yJ11_lowSurrogate_5068e ∈ TBL := xc26 _ (List.mem_of_getElem? (i := 10) rfl)
theorem m635 : Cond.code yJ11_lowSurrogate_5068e cJ11_lowSurrogate_5068e 1 (some .char) ∈ TBL := xc26 _ (List.mem_of_getElem? (i := 11) rfl)
theorem m636 : Cond.constant RJ11 76 (56320) ∈ TBL := xc26 _ (List.mem_of_getElem? (i := 12) rfl)
theorem m637 : Cond.methodLink RX0 98 yX0_isDigit ∈ TBL := xc26 _ (List.mem_of_getElem? (i := 13) rfl)
theorem m638 : Cond.instanceMethod yX0_isDigit ∈ TBL := xc26 _ (List.mem_of_getElem? (i := 14) rfl)
theorem m639 : Cond.selects RX0 yX0_isDigit yX0_isDigit ∈ TBL := xc26 _ (List.mem_of_getElem? (i := 15) rfl)
theorem m640 : Cond.code yX0_isDigit cX0_isDigit 1 (some .boolean) ∈ TBL := xc26 _ (List.mem_of_getElem? (i := 16) rfl)
theorem m641 : Cond.methodLink RX0 102 yX0_readNumber ∈ TBL := xc26 _ (List.mem_of_getElem? (i := 17) rfl)
theorem m642 : Cond.instanceMethod yX0_readNumber ∈ TBL := xc26 _ (List.mem_of_getElem? (i := 18) rfl)
theorem m643 : Cond.selects RX0 yX0_readNumber yX0_readNumber ∈ TBL := xc26 _ (List.mem_of_getElem? (i := 19) rfl)
theorem m644 : Cond.code yX0_readNumber cX0_readNumber 3 none ∈ TBL := xc26 _ (List.mem_of_getElem? (i := 20) rfl)
theorem m645 : Cond.methodLink RX0 90 yX0_readFactor ∈ TBL := xc26 _ (List.mem_of_getElem? (i := 21) rfl)
theorem m646 : Cond.instanceMethod yX0_readFactor ∈ TBL := xc26 _ (List.mem_of_getElem? (i := 22) rfl)
theorem m647 : Cond.selects RX0 yX0_readFactor yX0_readFactor ∈ TBL := xc26 _ (List.mem_of_getElem? (i := 23) rfl)
theorem m648 : Cond.code yX0_readProduct cX0_readProduct 4 none ∈ TBL := xc27 _ (List.mem_of_getElem? (i := 0) rfl)
theorem m649 : Cond.code yX0_readSum cX0_readSum 4 none ∈ TBL := xc27 _ (List.mem_of_getElem? (i := 1) rfl)
theorem m650 : Cond.methodLink RX0 85 yX0_readProduct ∈ TBL := xc27 _ (List.mem_of_getElem? (i := 2) rfl)
theorem m651 : Cond.instanceMethod yX0_readProduct ∈ TBL := xc27 _ (List.mem_of_getElem? (i := 3) rfl)
theorem m652 : Cond.selects RX0 yX0_readProduct yX0_readProduct ∈ TBL := xc27 _ (List.mem_of_getElem? (i := 4) rfl)
theorem m653 : Cond.methodLink RX0 43 yX1_many ∈ TBL := xc27 _ (List.mem_of_getElem? (i := 5) rfl)
theorem m654 : Cond.methodLink RX7 174 yX1_clear ∈ TBL := xc27 _ (List.mem_of_getElem? (i := 6) rfl)
theorem m655 : Cond.methodLink RX7 180 yX1_takeAll ∈ TBL := xc27 _ (List.mem_of_getElem? (i := 7) rfl)
theorem m656 : Cond.instanceMethod yX1_takeAll ∈ TBL := xc27 _ (List.mem_of_getElem? (i := 8) rfl)
theorem m657 : Cond.selects RX1 yX1_takeAll yX1_takeAll ∈ TBL := xc27 _ (List.mem_of_getElem? (i := 9) rfl)
theorem m658 : Cond.code yX1_takeAll cX1_takeAll 2 none ∈ TBL := xc27 _ (List.mem_of_getElem? (i := 10) rfl)
theorem m659 : Cond.methodLink RX1 47 Lib.Math.min.name ∈ TBL := xc27 _ (List.mem_of_getElem? (i := 11) rfl)
theorem m660 : Cond.methodLink RX1 50 yX1_takeRun ∈ TBL := xc27 _ (List.mem_of_getElem? (i := 12) rfl)
theorem m661 : Cond.instanceMethod yX1_takeRun ∈ TBL := xc27 _ (List.mem_of_getElem? (i := 13) rfl)
theorem m662 : Cond.selects RX1 yX1_takeRun yX1_takeRun ∈ TBL := xc27 _ (List.mem_of_getElem? (i := 14) rfl)
theorem m663 : Cond.code yX1_takeRun cX1_takeRun 5 none ∈ TBL := xc27 _ (List.mem_of_getElem? (i := 15) rfl)
theorem m664 : Cond.methodLink RX1 41 arraycopyName ∈ TBL := xc27 _ (List.mem_of_getElem? (i := 16) rfl)
theorem m665 : Cond.native arraycopyName ∈ TBL := xc27 _ (List.mem_of_getElem? (i := 17) rfl)
theorem m666 : Cond.static arraycopyName ∈ TBL := xc27 _ (List.mem_of_getElem? (i := 18) rfl)
theorem m667 : Cond.initialized "java/lang/System" ∈ TBL := xc27 _ (List.mem_of_getElem? (i := 19) rfl)
theorem m668 : Cond.methodLink RX1 37 yX1_hasRun ∈ TBL := xc27 _ (List.mem_of_getElem? (i := 20) rfl)
theorem m669 : Cond.instanceMethod yX1_hasRun ∈ TBL := xc27 _ (List.mem_of_getElem? (i := 21) rfl)
theorem m670 : Cond.selects RX1 yX1_hasRun yX1_hasRun ∈ TBL := xc27 _ (List.mem_of_getElem? (i := 22) rfl)
theorem m671 : Cond.code yX1_hasRun cX1_hasRun 3 (some .boolean) ∈ TBL := xc27 _ (List.mem_of_getElem? (i := 23) rfl)
theorem m672 : Cond.methodLink RL 65 yX8_text ∈ TBL := xc28 _ (List.mem_of_getElem? (i := 0) rfl)
theorem m673 : Cond.instanceMethod yX8_text ∈ TBL := xc28 _ (List.mem_of_getElem? (i := 1) rfl)
theorem m674 : Cond.selects RX8 yX8_text yX8_text ∈ TBL := xc28 _ (List.mem_of_getElem? (i := 2) rfl)
theorem m675 : Cond.code yX8_text cX8_text 4 (some .int) ∈ TBL := xc28 _ (List.mem_of_getElem? (i := 3) rfl)
theorem m676 : Cond.fieldLink RX8 156 "ParrotVowModel" "using" "I" ∈ TBL := xc28 _ (List.mem_of_getElem? (i := 4) rfl)
theorem m677 : Cond.fieldLink RX8 153 "ParrotVowModel" "laid" "I" ∈ TBL := xc28 _ (List.mem_of_getElem? (i := 5) rfl)
theorem m678 : Cond.fieldLink RX8 150 "ParrotVowModel" "here" "I" ∈ TBL := xc28 _ (List.mem_of_getElem? (i := 6) rfl)
theorem m679 : Cond.fieldLink RX8 168 "ParrotVowModel" "opened" "I" ∈ TBL := xc28 _ (List.mem_of_getElem? (i := 7) rfl)
theorem m680 : Cond.fieldLink RX8 162 "ParrotVowModel" "bad" "Z" ∈ TBL := xc28 _ (List.mem_of_getElem? (i := 8) rfl)
theorem m681 : Cond.methodLink RX8 174 yX8_any ∈ TBL := xc28 _ (List.mem_of_getElem? (i := 9) rfl)
theorem m682 : Cond.instanceMethod yX8_any ∈ TBL := xc28 _ (List.mem_of_getElem? (i := 10) rfl)
theorem m683 : Cond.selects RX8 yX8_any yX8_any ∈ TBL := xc28 _ (List.mem_of_getElem? (i := 11) rfl)
theorem m684 : Cond.code yX8_any cX8_any 1 none ∈ TBL := xc28 _ (List.mem_of_getElem? (i := 12) rfl)
theorem m685 : Cond.methodLink RX8 196 yX8_all ∈ TBL := xc28 _ (List.mem_of_getElem? (i := 13) rfl)
theorem m686 : Cond.instanceMethod yX8_all ∈ TBL := xc28 _ (List.mem_of_getElem? (i := 14) rfl)
theorem m687 : Cond.selects RX8 yX8_all yX8_all ∈ TBL := xc28 _ (List.mem_of_getElem? (i := 15) rfl)
theorem m688 : Cond.methodLink RX8 159 yX8_look ∈ TBL := xc28 _ (List.mem_of_getElem? (i := 16) rfl)
theorem m689 : Cond.instanceMethod yX8_look ∈ TBL := xc28 _ (List.mem_of_getElem? (i := 17) rfl)
theorem m690 : Cond.selects RX8 yX8_look yX8_look ∈ TBL := xc28 _ (List.mem_of_getElem? (i := 18) rfl)
theorem m691 : Cond.code yX8_look cX8_look 1 (some .int) ∈ TBL := xc28 _ (List.mem_of_getElem? (i := 19) rfl)
theorem m692 : Cond.methodLink RX8 165 yX8_lays ∈ TBL := xc28 _ (List.mem_of_getElem? (i := 20) rfl)
theorem m693 : Cond.instanceMethod yX8_lays ∈ TBL := xc28 _ (List.mem_of_getElem? (i := 21) rfl)
theorem m694 : Cond.selects RX8 yX8_lays yX8_lays ∈ TBL := xc28 _ (List.mem_of_getElem? (i := 22) rfl)
theorem m695 : Cond.code yX8_lays cX8_lays 3 none ∈ TBL := xc28 _ (List.mem_of_getElem? (i := 23) rfl)
theorem m696 : Cond.code yX8_all cX8_all 1 none ∈ TBL := xc29 _ (List.mem_of_getElem? (i := 0) rfl)
theorem m697 : Cond.methodLink RX8 193 yX8_compares ∈ TBL := xc29 _ (List.mem_of_getElem? (i := 1) rfl)
theorem m698 : Cond.instanceMethod yX8_compares ∈ TBL := xc29 _ (List.mem_of_getElem? (i := 2) rfl)
theorem m699 : Cond.selects RX8 yX8_compares yX8_compares ∈ TBL := xc29 _ (List.mem_of_getElem? (i := 3) rfl)
theorem m700 : Cond.code yX8_compares cX8_compares 2 none ∈ TBL := xc29 _ (List.mem_of_getElem? (i := 4) rfl)
theorem m701 : Cond.methodLink RX8 190 yX8_sum ∈ TBL := xc29 _ (List.mem_of_getElem? (i := 5) rfl)
theorem m702 : Cond.instanceMethod yX8_sum ∈ TBL := xc29 _ (List.mem_of_getElem? (i := 6) rfl)
theorem m703 : Cond.selects RX8 yX8_sum yX8_sum ∈ TBL := xc29 _ (List.mem_of_getElem? (i := 7) rfl)
theorem m704 : Cond.code yX8_one cX8_one 3 none ∈ TBL := xc29 _ (List.mem_of_getElem? (i := 8) rfl)
theorem m705 : Cond.methodLink RX8 177 yX8_nameOf ∈ TBL := xc29 _ (List.mem_of_getElem? (i := 9) rfl)
theorem m706 : Cond.instanceMethod yX8_nameOf ∈ TBL := xc29 _ (List.mem_of_getElem? (i := 10) rfl)
theorem m707 : Cond.selects RX8 yX8_nameOf yX8_nameOf ∈ TBL := xc29 _ (List.mem_of_getElem? (i := 11) rfl)
theorem m708 : Cond.code yX8_nameOf cX8_nameOf 2 (some .int) ∈ TBL := xc29 _ (List.mem_of_getElem? (i := 12) rfl)
theorem m709 : Cond.methodLink RX8 180 yX8_opens ∈ TBL := xc29 _ (List.mem_of_getElem? (i := 13) rfl)
theorem m710 : Cond.instanceMethod yX8_opens ∈ TBL := xc29 _ (List.mem_of_getElem? (i := 14) rfl)
theorem m711 : Cond.selects RX8 yX8_opens yX8_opens ∈ TBL := xc29 _ (List.mem_of_getElem? (i := 15) rfl)
theorem m712 : Cond.methodLink RX8 184 yX8_number ∈ TBL := xc29 _ (List.mem_of_getElem? (i := 16) rfl)
theorem m713 : Cond.instanceMethod yX8_number ∈ TBL := xc29 _ (List.mem_of_getElem? (i := 17) rfl)
theorem m714 : Cond.selects RX8 yX8_number yX8_number ∈ TBL := xc29 _ (List.mem_of_getElem? (i := 18) rfl)
theorem m715 : Cond.code yX8_number cX8_number 3 none ∈ TBL := xc29 _ (List.mem_of_getElem? (i := 19) rfl)
theorem m716 : Cond.code yX8_opens cX8_opens 2 none ∈ TBL := xc29 _ (List.mem_of_getElem? (i := 20) rfl)
theorem m717 : Cond.methodLink RX8 171 yX8_one ∈ TBL := xc29 _ (List.mem_of_getElem? (i := 21) rfl)
theorem m718 : Cond.instanceMethod yX8_one ∈ TBL := xc29 _ (List.mem_of_getElem? (i := 22) rfl)
theorem m719 : Cond.selects RX8 yX8_one yX8_one ∈ TBL := xc29 _ (List.mem_of_getElem? (i := 23) rfl)
theorem m720 : Cond.code yX8_sum cX8_sum 2 none ∈ TBL := xc30 _ (List.mem_of_getElem? (i := 0) rfl)
theorem m721 : Cond.methodLink RX8 187 yX8_times ∈ TBL := xc30 _ (List.mem_of_getElem? (i := 1) rfl)
theorem m722 : Cond.instanceMethod yX8_times ∈ TBL := xc30 _ (List.mem_of_getElem? (i := 2) rfl)
theorem m723 : Cond.selects RX8 yX8_times yX8_times ∈ TBL := xc30 _ (List.mem_of_getElem? (i := 3) rfl)
theorem m724 : Cond.code yX8_times cX8_times 2 none ∈ TBL := xc30 _ (List.mem_of_getElem? (i := 4) rfl)
theorem m725 : Cond.methodLink RL 66 yX7_untell ∈ TBL := xc30 _ (List.mem_of_getElem? (i := 5) rfl)
theorem m726 : Cond.instanceMethod yX7_untell ∈ TBL := xc30 _ (List.mem_of_getElem? (i := 6) rfl)
theorem m727 : Cond.selects RX7 yX7_untell yX7_untell ∈ TBL := xc30 _ (List.mem_of_getElem? (i := 7) rfl)
theorem m728 : Cond.code yX7_untell cX7_untell 4 (some .int) ∈ TBL := xc30 _ (List.mem_of_getElem? (i := 8) rfl)
theorem m729 : Cond.methodLink RL 69 yX8_untell ∈ TBL := xc30 _ (List.mem_of_getElem? (i := 9) rfl)
theorem m730 : Cond.instanceMethod yX8_untell ∈ TBL := xc30 _ (List.mem_of_getElem? (i := 10) rfl)
theorem m731 : Cond.selects RX8 yX8_untell yX8_untell ∈ TBL := xc30 _ (List.mem_of_getElem? (i := 11) rfl)
theorem m732 : Cond.code yX8_untell cX8_untell 2 (some .int) ∈ TBL := xc30 _ (List.mem_of_getElem? (i := 12) rfl)
theorem m733 : Cond.methodLink RL 70 yX7_law ∈ TBL := xc30 _ (List.mem_of_getElem? (i := 13) rfl)
theorem m734 : Cond.instanceMethod yX7_law ∈ TBL := xc30 _ (List.mem_of_getElem? (i := 14) rfl)
theorem m735 : Cond.selects RX7 yX7_law yX7_law ∈ TBL := xc30 _ (List.mem_of_getElem? (i := 15) rfl)
theorem m736 : Cond.code yX7_law cX7_law 5 (some .int) ∈ TBL := xc30 _ (List.mem_of_getElem? (i := 16) rfl)
theorem m737 : Cond.methodLink RL 74 yX8_law ∈ TBL := xc30 _ (List.mem_of_getElem? (i := 17) rfl)
theorem m738 : Cond.instanceMethod yX8_law ∈ TBL := xc30 _ (List.mem_of_getElem? (i := 18) rfl)
theorem m739 : Cond.selects RX8 yX8_law yX8_law ∈ TBL := xc30 _ (List.mem_of_getElem? (i := 19) rfl)
theorem m740 : Cond.code yX8_law cX8_law 5 (some .int) ∈ TBL := xc30 _ (List.mem_of_getElem? (i := 20) rfl)
theorem m741 : Cond.methodLink RL 75 yX7_loose ∈ TBL := xc30 _ (List.mem_of_getElem? (i := 21) rfl)
theorem m742 : Cond.instanceMethod yX7_loose ∈ TBL := xc30 _ (List.mem_of_getElem? (i := 22) rfl)
theorem m743 : Cond.selects RX7 yX7_loose yX7_loose ∈ TBL := xc30 _ (List.mem_of_getElem? (i := 23) rfl)
theorem m744 : Cond.code yX7_loose cX7_loose 4 (some .int) ∈ TBL := xc31 _ (List.mem_of_getElem? (i := 0) rfl)
theorem m745 : Cond.methodLink RX7 190 yX7_looseDay ∈ TBL := xc31 _ (List.mem_of_getElem? (i := 1) rfl)
theorem m746 : Cond.instanceMethod yX7_looseDay ∈ TBL := xc31 _ (List.mem_of_getElem? (i := 2) rfl)
theorem m747 : Cond.selects RX7 yX7_looseDay yX7_looseDay ∈ TBL := xc31 _ (List.mem_of_getElem? (i := 3) rfl)
theorem m748 : Cond.code yX7_looseDay cX7_looseDay 6 (some .int) ∈ TBL := xc31 _ (List.mem_of_getElem? (i := 4) rfl)
theorem m749 : Cond.methodLink RX7 315 yX3_draw ∈ TBL := xc31 _ (List.mem_of_getElem? (i := 5) rfl)
theorem m750 : Cond.instanceMethod yX3_draw ∈ TBL := xc31 _ (List.mem_of_getElem? (i := 6) rfl)
theorem m751 : Cond.selects RX3 yX3_draw yX3_draw ∈ TBL := xc31 _ (List.mem_of_getElem? (i := 7) rfl)
theorem m752 : Cond.code yX3_draw cX3_draw 1 (some .int) ∈ TBL := xc31 _ (List.mem_of_getElem? (i := 8) rfl)
theorem m753 : Cond.constant RX3 61 (1103515245) ∈ TBL := xc31 _ (List.mem_of_getElem? (i := 9) rfl)
theorem m754 : Cond.methodLink RL 78 yX8_loose ∈ TBL := xc31 _ (List.mem_of_getElem? (i := 10) rfl)
theorem m755 : Cond.instanceMethod yX8_loose ∈ TBL := xc31 _ (List.mem_of_getElem? (i := 11) rfl)
theorem m756 : Cond.selects RX8 yX8_loose yX8_loose ∈ TBL := xc31 _ (List.mem_of_getElem? (i := 12) rfl)
theorem m757 : Cond.code yX8_loose cX8_loose 4 (some .int) ∈ TBL := xc31 _ (List.mem_of_getElem? (i := 13) rfl)
theorem m758 : Cond.methodLink RX8 209 yX8_drawn ∈ TBL := xc31 _ (List.mem_of_getElem? (i := 14) rfl)
theorem m759 : Cond.instanceMethod yX8_drawn ∈ TBL := xc31 _ (List.mem_of_getElem? (i := 15) rfl)
theorem m760 : Cond.selects RX8 yX8_drawn yX8_drawn ∈ TBL := xc31 _ (List.mem_of_getElem? (i := 16) rfl)
theorem m761 : Cond.code yX8_drawn cX8_drawn 5 (some .int) ∈ TBL := xc31 _ (List.mem_of_getElem? (i := 17) rfl)
theorem m762 : Cond.methodLink RX8 206 yX8_draw ∈ TBL := xc31 _ (List.mem_of_getElem? (i := 18) rfl)
theorem m763 : Cond.instanceMethod yX8_draw ∈ TBL := xc31 _ (List.mem_of_getElem? (i := 19) rfl)
theorem m764 : Cond.selects RX8 yX8_draw yX8_draw ∈ TBL := xc31 _ (List.mem_of_getElem? (i := 20) rfl)
theorem m765 : Cond.code yX8_draw cX8_draw 1 (some .int) ∈ TBL := xc31 _ (List.mem_of_getElem? (i := 21) rfl)
theorem m766 : Cond.constant RX8 205 (1103515245) ∈ TBL := xc31 _ (List.mem_of_getElem? (i := 22) rfl)
theorem m767 : Cond.methodLink RL 79 yX7_day ∈ TBL := xc31 _ (List.mem_of_getElem? (i := 23) rfl)
theorem m768 : Cond.instanceMethod yX7_day ∈ TBL := xc32 _ (List.mem_of_getElem? (i := 0) rfl)
theorem m769 : Cond.selects RX7 yX7_day yX7_day ∈ TBL := xc32 _ (List.mem_of_getElem? (i := 1) rfl)
theorem m770 : Cond.code yX7_day cX7_day 3 (some .int) ∈ TBL := xc32 _ (List.mem_of_getElem? (i := 2) rfl)
theorem m771 : Cond.methodLink RL 82 yX8_day ∈ TBL := xc32 _ (List.mem_of_getElem? (i := 3) rfl)
theorem m772 : Cond.instanceMethod yX8_day ∈ TBL := xc32 _ (List.mem_of_getElem? (i := 4) rfl)
theorem m773 : Cond.selects RX8 yX8_day yX8_day ∈ TBL := xc32 _ (List.mem_of_getElem? (i := 5) rfl)
theorem m774 : Cond.code yX8_day cX8_day 2 (some .int) ∈ TBL := xc32 _ (List.mem_of_getElem? (i := 6) rfl)
theorem m775 : Cond.methodLink RL 83 yX7_seed ∈ TBL := xc32 _ (List.mem_of_getElem? (i := 7) rfl)
theorem m776 : Cond.instanceMethod yX7_seed ∈ TBL := xc32 _ (List.mem_of_getElem? (i := 8) rfl)
theorem m777 : Cond.selects RX7 yX7_seed yX7_seed ∈ TBL := xc32 _ (List.mem_of_getElem? (i := 9) rfl)
theorem m778 : Cond.code yX7_seed cX7_seed 3 (some .int) ∈ TBL := xc32 _ (List.mem_of_getElem? (i := 10) rfl)
theorem m779 : Cond.fieldLink RX7 193 "ParrotVow$State" "z" "I" ∈ TBL := xc32 _ (List.mem_of_getElem? (i := 11) rfl)
theorem m780 : Cond.methodLink RL 86 yX8_seed ∈ TBL := xc32 _ (List.mem_of_getElem? (i := 12) rfl)
theorem m781 : Cond.instanceMethod yX8_seed ∈ TBL := xc32 _ (List.mem_of_getElem? (i := 13) rfl)
theorem m782 : Cond.selects RX8 yX8_seed yX8_seed ∈ TBL := xc32 _ (List.mem_of_getElem? (i := 14) rfl)
theorem m783 : Cond.code yX8_seed cX8_seed 2 (some .int) ∈ TBL := xc32 _ (List.mem_of_getElem? (i := 15) rfl)
theorem m784 : Cond.methodLink RL 87 yX7_vows ∈ TBL := xc32 _ (List.mem_of_getElem? (i := 16) rfl)
theorem m785 : Cond.instanceMethod yX7_vows ∈ TBL := xc32 _ (List.mem_of_getElem? (i := 17) rfl)
theorem m786 : Cond.selects RX7 yX7_vows yX7_vows ∈ TBL := xc32 _ (List.mem_of_getElem? (i := 18) rfl)
theorem m787 : Cond.code yX7_vows cX7_vows 3 (some .int) ∈ TBL := xc32 _ (List.mem_of_getElem? (i := 19) rfl)
theorem m788 : Cond.methodLink RX7 196 yX5_least ∈ TBL := xc32 _ (List.mem_of_getElem? (i := 20) rfl)
theorem m789 : Cond.instanceMethod yX5_least ∈ TBL := xc32 _ (List.mem_of_getElem? (i := 21) rfl)
theorem m790 : Cond.selects RX5 yX5_least yX5_least ∈ TBL := xc32 _ (List.mem_of_getElem? (i := 22) rfl)
theorem m791 : Cond.code yX5_least cX5_least 2 (some .int) ∈ TBL := xc32 _ (List.mem_of_getElem? (i := 23) rfl)
theorem m792 : Cond.methodLink RX7 199 yX5_simplest ∈ TBL := xc33 _ (List.mem_of_getElem? (i := 0) rfl)
theorem m793 : Cond.instanceMethod yX5_simplest ∈ TBL := xc33 _ (List.mem_of_getElem? (i := 1) rfl)
theorem m794 : Cond.selects RX5 yX5_simplest yX5_simplest ∈ TBL := xc33 _ (List.mem_of_getElem? (i := 2) rfl)
theorem m795 : Cond.code yX5_simplest cX5_simplest 4 (some .int) ∈ TBL := xc33 _ (List.mem_of_getElem? (i := 3) rfl)
theorem m796 : Cond.methodLink RX5 55 yX5_settled ∈ TBL := xc33 _ (List.mem_of_getElem? (i := 4) rfl)
theorem m797 : Cond.instanceMethod yX5_settled ∈ TBL := xc33 _ (List.mem_of_getElem? (i := 5) rfl)
theorem m798 : Cond.selects RX5 yX5_settled yX5_settled ∈ TBL := xc33 _ (List.mem_of_getElem? (i := 6) rfl)
theorem m799 : Cond.code yX5_settled cX5_settled 5 (some .int) ∈ TBL := xc33 _ (List.mem_of_getElem? (i := 7) rfl)
theorem m800 : Cond.methodLink RX7 202 yX5_settled ∈ TBL := xc33 _ (List.mem_of_getElem? (i := 8) rfl)
theorem m801 : Cond.methodLink RL 90 yX8_vows ∈ TBL := xc33 _ (List.mem_of_getElem? (i := 9) rfl)
theorem m802 : Cond.instanceMethod yX8_vows ∈ TBL := xc33 _ (List.mem_of_getElem? (i := 10) rfl)
theorem m803 : Cond.selects RX8 yX8_vows yX8_vows ∈ TBL := xc33 _ (List.mem_of_getElem? (i := 11) rfl)
theorem m804 : Cond.code yX8_vows cX8_vows 6 (some .int) ∈ TBL := xc33 _ (List.mem_of_getElem? (i := 12) rfl)
theorem m805 : Cond.constant RX8 215 (-1000000002) ∈ TBL := xc33 _ (List.mem_of_getElem? (i := 13) rfl)
theorem m806 : Cond.methodLink RX8 212 yX8_figuresOf ∈ TBL := xc33 _ (List.mem_of_getElem? (i := 14) rfl)
theorem m807 : Cond.static yX8_figuresOf ∈ TBL := xc33 _ (List.mem_of_getElem? (i := 15) rfl)
theorem m808 : Cond.code yX8_figuresOf cX8_figuresOf 4 (some .int) ∈ TBL := xc33 _ (List.mem_of_getElem? (i := 16) rfl)
theorem m809 : Cond.methodLink RL 91 yX7_parts ∈ TBL := xc33 _ (List.mem_of_getElem? (i := 17) rfl)
theorem m810 : Cond.instanceMethod yX7_parts ∈ TBL := xc33 _ (List.mem_of_getElem? (i := 18) rfl)
theorem m811 : Cond.selects RX7 yX7_parts yX7_parts ∈ TBL := xc33 _ (List.mem_of_getElem? (i := 19) rfl)
theorem m812 : Cond.code yX7_parts cX7_parts 4 (some .int) ∈ TBL := xc33 _ (List.mem_of_getElem? (i := 20) rfl)
theorem m813 : Cond.methodLink RX7 205 yX7_lesserPart ∈ TBL := xc33 _ (List.mem_of_getElem? (i := 21) rfl)
theorem m814 : Cond.instanceMethod yX7_lesserPart ∈ TBL := xc33 _ (List.mem_of_getElem? (i := 22) rfl)
theorem m815 : Cond.selects RX7 yX7_lesserPart yX7_lesserPart ∈ TBL := xc33 _ (List.mem_of_getElem? (i := 23) rfl)
theorem m816 : Cond.code yX7_lesserPart cX7_lesserPart 3 (some .int) ∈ TBL := xc34 _ (List.mem_of_getElem? (i := 0) rfl)
theorem m817 : Cond.methodLink RL 94 yX8_parts ∈ TBL := xc34 _ (List.mem_of_getElem? (i := 1) rfl)
theorem m818 : Cond.instanceMethod yX8_parts ∈ TBL := xc34 _ (List.mem_of_getElem? (i := 2) rfl)
theorem m819 : Cond.selects RX8 yX8_parts yX8_parts ∈ TBL := xc34 _ (List.mem_of_getElem? (i := 3) rfl)
theorem m820 : Cond.code yX8_parts cX8_parts 4 (some .int) ∈ TBL := xc34 _ (List.mem_of_getElem? (i := 4) rfl)
theorem m821 : Cond.methodLink RX8 216 yX8_lesserOf ∈ TBL := xc34 _ (List.mem_of_getElem? (i := 5) rfl)
theorem m822 : Cond.instanceMethod yX8_lesserOf ∈ TBL := xc34 _ (List.mem_of_getElem? (i := 6) rfl)
theorem m823 : Cond.selects RX8 yX8_lesserOf yX8_lesserOf ∈ TBL := xc34 _ (List.mem_of_getElem? (i := 7) rfl)
theorem m824 : Cond.code yX8_lesserOf cX8_lesserOf 2 (some .int) ∈ TBL := xc34 _ (List.mem_of_getElem? (i := 8) rfl)
theorem m825 : Cond.methodLink RL 95 yX7_sure ∈ TBL := xc34 _ (List.mem_of_getElem? (i := 9) rfl)
theorem m826 : Cond.instanceMethod yX7_sure ∈ TBL := xc34 _ (List.mem_of_getElem? (i := 10) rfl)
theorem m827 : Cond.selects RX7 yX7_sure yX7_sure ∈ TBL := xc34 _ (List.mem_of_getElem? (i := 11) rfl)
theorem m828 : Cond.code yX7_sure cX7_sure 3 (some .int) ∈ TBL := xc34 _ (List.mem_of_getElem? (i := 12) rfl)
theorem m829 : Cond.methodLink RL 98 yX8_sure ∈ TBL := xc34 _ (List.mem_of_getElem? (i := 13) rfl)
theorem m830 : Cond.instanceMethod yX8_sure ∈ TBL := xc34 _ (List.mem_of_getElem? (i := 14) rfl)
theorem m831 : Cond.selects RX8 yX8_sure yX8_sure ∈ TBL := xc34 _ (List.mem_of_getElem? (i := 15) rfl)
theorem m832 : Cond.code yX8_sure cX8_sure 3 (some .int) ∈ TBL := xc34 _ (List.mem_of_getElem? (i := 16) rfl)
theorem m833 : Cond.methodLink RL 99 yX7_unsaid ∈ TBL := xc34 _ (List.mem_of_getElem? (i := 17) rfl)
theorem m834 : Cond.instanceMethod yX7_unsaid ∈ TBL := xc34 _ (List.mem_of_getElem? (i := 18) rfl)
theorem m835 : Cond.selects RX7 yX7_unsaid yX7_unsaid ∈ TBL := xc34 _ (List.mem_of_getElem? (i := 19) rfl)
theorem m836 : Cond.code yX7_unsaid cX7_unsaid 5 (some .long) ∈ TBL := xc34 _ (List.mem_of_getElem? (i := 20) rfl)
theorem m837 : Cond.constantLong RX7 211 (-1) ∈ TBL := xc34 _ (List.mem_of_getElem? (i := 21) rfl)
theorem m838 : Cond.methodLink RL 103 yX8_unsaid ∈ TBL := xc34 _ (List.mem_of_getElem? (i := 22) rfl)
theorem m839 : Cond.instanceMethod yX8_unsaid ∈ TBL := xc34 _ (List.mem_of_getElem? (i := 23) rfl)
theorem m840 : Cond.selects RX8 yX8_unsaid yX8_unsaid ∈ TBL := xc35 _ (List.mem_of_getElem? (i := 0) rfl)
theorem m841 : Cond.code yX8_unsaid cX8_unsaid 7 (some .long) ∈ TBL := xc35 _ (List.mem_of_getElem? (i := 1) rfl)
theorem m842 : Cond.methodLink RL 104 yX7_freest ∈ TBL := xc35 _ (List.mem_of_getElem? (i := 2) rfl)
theorem m843 : Cond.instanceMethod yX7_freest ∈ TBL := xc35 _ (List.mem_of_getElem? (i := 3) rfl)
theorem m844 : Cond.selects RX7 yX7_freest yX7_freest ∈ TBL := xc35 _ (List.mem_of_getElem? (i := 4) rfl)
theorem m845 : Cond.code yX7_freest cX7_freest 6 (some .int) ∈ TBL := xc35 _ (List.mem_of_getElem? (i := 5) rfl)
theorem m846 : Cond.methodLink RX7 213 yX7_freedom ∈ TBL := xc35 _ (List.mem_of_getElem? (i := 6) rfl)
theorem m847 : Cond.instanceMethod yX7_freedom ∈ TBL := xc35 _ (List.mem_of_getElem? (i := 7) rfl)
theorem m848 : Cond.selects RX7 yX7_freedom yX7_freedom ∈ TBL := xc35 _ (List.mem_of_getElem? (i := 8) rfl)
theorem m849 : Cond.code yX7_freedom cX7_freedom 4 (some .int) ∈ TBL := xc35 _ (List.mem_of_getElem? (i := 9) rfl)
theorem m850 : Cond.methodLink RL 107 yX8_freest ∈ TBL := xc35 _ (List.mem_of_getElem? (i := 10) rfl)
theorem m851 : Cond.instanceMethod yX8_freest ∈ TBL := xc35 _ (List.mem_of_getElem? (i := 11) rfl)
theorem m852 : Cond.selects RX8 yX8_freest yX8_freest ∈ TBL := xc35 _ (List.mem_of_getElem? (i := 12) rfl)
theorem m853 : Cond.code yX8_freest cX8_freest 6 (some .int) ∈ TBL := xc35 _ (List.mem_of_getElem? (i := 13) rfl)
theorem m854 : Cond.methodLink RX8 219 yX8_freedomOf ∈ TBL := xc35 _ (List.mem_of_getElem? (i := 14) rfl)
theorem m855 : Cond.instanceMethod yX8_freedomOf ∈ TBL := xc35 _ (List.mem_of_getElem? (i := 15) rfl)
theorem m856 : Cond.selects RX8 yX8_freedomOf yX8_freedomOf ∈ TBL := xc35 _ (List.mem_of_getElem? (i := 16) rfl)
theorem m857 : Cond.code yX8_freedomOf cX8_freedomOf 4 (some .int) ∈ TBL := xc35 _ (List.mem_of_getElem? (i := 17) rfl)
theorem m858 : Cond.methodLink RL 108 yX7_odds ∈ TBL := xc35 _ (List.mem_of_getElem? (i := 18) rfl)
theorem m859 : Cond.instanceMethod yX7_odds ∈ TBL := xc35 _ (List.mem_of_getElem? (i := 19) rfl)
theorem m860 : Cond.selects RX7 yX7_odds yX7_odds ∈ TBL := xc35 _ (List.mem_of_getElem? (i := 20) rfl)
theorem m861 : Cond.code yX7_odds cX7_odds 6 (some .int) ∈ TBL := xc35 _ (List.mem_of_getElem? (i := 21) rfl)
theorem m862 : Cond.methodLink RX7 216 yX7_commonDivisor ∈ TBL := xc35 _ (List.mem_of_getElem? (i := 22) rfl)
theorem m863 : Cond.static yX7_commonDivisor ∈ TBL := xc35 _ (List.mem_of_getElem? (i := 23) rfl)
theorem m864 : Cond.code yX7_commonDivisor cX7_commonDivisor 6 (some .int) ∈ TBL := xc36 _ (List.mem_of_getElem? (i := 0) rfl)
theorem m865 : Cond.methodLink RL 111 yX8_odds ∈ TBL := xc36 _ (List.mem_of_getElem? (i := 1) rfl)
theorem m866 : Cond.instanceMethod yX8_odds ∈ TBL := xc36 _ (List.mem_of_getElem? (i := 2) rfl)
theorem m867 : Cond.selects RX8 yX8_odds yX8_odds ∈ TBL := xc36 _ (List.mem_of_getElem? (i := 3) rfl)
theorem m868 : Cond.code yX8_odds cX8_odds 8 (some .int) ∈ TBL := xc36 _ (List.mem_of_getElem? (i := 4) rfl)
theorem m869 : Cond.methodLink RL 112 yX7_fits ∈ TBL := xc36 _ (List.mem_of_getElem? (i := 5) rfl)
theorem m870 : Cond.instanceMethod yX7_fits ∈ TBL := xc36 _ (List.mem_of_getElem? (i := 6) rfl)
theorem m871 : Cond.selects RX7 yX7_fits yX7_fits ∈ TBL := xc36 _ (List.mem_of_getElem? (i := 7) rfl)
theorem m872 : Cond.code yX7_fits cX7_fits 5 (some .int) ∈ TBL := xc36 _ (List.mem_of_getElem? (i := 8) rfl)
theorem m873 : Cond.fieldLink RX7 227 "ParrotVow$Sheet" "numbers" "LParrotVow$Row;" ∈ TBL := xc36 _ (List.mem_of_getElem? (i := 9) rfl)
theorem m874 : Cond.methodLink RX7 219 yX7_sheetOf ∈ TBL := xc36 _ (List.mem_of_getElem? (i := 10) rfl)
theorem m875 : Cond.instanceMethod yX7_sheetOf ∈ TBL := xc36 _ (List.mem_of_getElem? (i := 11) rfl)
theorem m876 : Cond.selects RX7 yX7_sheetOf yX7_sheetOf ∈ TBL := xc36 _ (List.mem_of_getElem? (i := 12) rfl)
theorem m877 : Cond.code yX7_sheetOf cX7_sheetOf 2 (some (.object "ParrotVow$Sheet")) ∈ TBL := xc36 _ (List.mem_of_getElem? (i := 13) rfl)
theorem m878 : Cond.methodLink RX7 223 yX2_isMissing ∈ TBL := xc36 _ (List.mem_of_getElem? (i := 14) rfl)
theorem m879 : Cond.instanceMethod yX2_isMissing ∈ TBL := xc36 _ (List.mem_of_getElem? (i := 15) rfl)
theorem m880 : Cond.selects RX2 yX2_isMissing yX2_isMissing ∈ TBL := xc36 _ (List.mem_of_getElem? (i := 16) rfl)
theorem m881 : Cond.code yX2_isMissing cX2_isMissing 1 (some .boolean) ∈ TBL := xc36 _ (List.mem_of_getElem? (i := 17) rfl)
theorem m882 : Cond.methodLink RX7 230 yX5_fittingAs ∈ TBL := xc36 _ (List.mem_of_getElem? (i := 18) rfl)
theorem m883 : Cond.instanceMethod yX5_fittingAs ∈ TBL := xc36 _ (List.mem_of_getElem? (i := 19) rfl)
theorem m884 : Cond.selects RX5 yX5_fittingAs yX5_fittingAs ∈ TBL := xc36 _ (List.mem_of_getElem? (i := 20) rfl)
theorem m885 : Cond.code yX5_fittingAs cX5_fittingAs 8 (some .int) ∈ TBL := xc36 _ (List.mem_of_getElem? (i := 21) rfl)
theorem m886 : Cond.methodLink RX5 60 yX5_toldBy ∈ TBL := xc36 _ (List.mem_of_getElem? (i := 22) rfl)
theorem m887 : Cond.instanceMethod yX5_toldBy ∈ TBL := xc36 _ (List.mem_of_getElem? (i := 23) rfl)
theorem m888 : Cond.selects RX5 yX5_toldBy yX5_toldBy ∈ TBL := xc37 _ (List.mem_of_getElem? (i := 0) rfl)
theorem m889 : Cond.code yX5_toldBy cX5_toldBy 5 (some .long) ∈ TBL := xc37 _ (List.mem_of_getElem? (i := 1) rfl)
theorem m890 : Cond.constantLong RX5 58 (-1) ∈ TBL := xc37 _ (List.mem_of_getElem? (i := 2) rfl)
theorem m891 : Cond.methodLink RX7 234 yX5_leastAs ∈ TBL := xc37 _ (List.mem_of_getElem? (i := 3) rfl)
theorem m892 : Cond.instanceMethod yX5_leastAs ∈ TBL := xc37 _ (List.mem_of_getElem? (i := 4) rfl)
theorem m893 : Cond.selects RX5 yX5_leastAs yX5_leastAs ∈ TBL := xc37 _ (List.mem_of_getElem? (i := 5) rfl)
theorem m894 : Cond.code yX5_leastAs cX5_leastAs 7 (some .int) ∈ TBL := xc37 _ (List.mem_of_getElem? (i := 6) rfl)
theorem m895 : Cond.methodLink RL 115 yX8_fits ∈ TBL := xc37 _ (List.mem_of_getElem? (i := 7) rfl)
theorem m896 : Cond.instanceMethod yX8_fits ∈ TBL := xc37 _ (List.mem_of_getElem? (i := 8) rfl)
theorem m897 : Cond.selects RX8 yX8_fits yX8_fits ∈ TBL := xc37 _ (List.mem_of_getElem? (i := 9) rfl)
theorem m898 : Cond.code yX8_fits cX8_fits 7 (some .int) ∈ TBL := xc37 _ (List.mem_of_getElem? (i := 10) rfl)
theorem m899 : Cond.methodLink RX8 222 yX8_isSheet ∈ TBL := xc37 _ (List.mem_of_getElem? (i := 11) rfl)
theorem m900 : Cond.static yX8_isSheet ∈ TBL := xc37 _ (List.mem_of_getElem? (i := 12) rfl)
theorem m901 : Cond.code yX8_isSheet cX8_isSheet 1 (some .boolean) ∈ TBL := xc37 _ (List.mem_of_getElem? (i := 13) rfl)
theorem m902 : Cond.methodLink RX8 225 yX8_isSo ∈ TBL := xc37 _ (List.mem_of_getElem? (i := 14) rfl)
theorem m903 : Cond.instanceMethod yX8_isSo ∈ TBL := xc37 _ (List.mem_of_getElem? (i := 15) rfl)
theorem m904 : Cond.selects RX8 yX8_isSo yX8_isSo ∈ TBL := xc37 _ (List.mem_of_getElem? (i := 16) rfl)
theorem m905 : Cond.code yX8_isSo cX8_isSo 5 (some .boolean) ∈ TBL := xc37 _ (List.mem_of_getElem? (i := 17) rfl)
theorem m906 : Cond.methodLink RL 116 yX7_voice ∈ TBL := xc37 _ (List.mem_of_getElem? (i := 18) rfl)
theorem m907 : Cond.instanceMethod yX7_voice ∈ TBL := xc37 _ (List.mem_of_getElem? (i := 19) rfl)
theorem m908 : Cond.selects RX7 yX7_voice yX7_voice ∈ TBL := xc37 _ (List.mem_of_getElem? (i := 20) rfl)
theorem m909 : Cond.code yX7_voice cX7_voice 5 (some .int) ∈ TBL := xc37 _ (List.mem_of_getElem? (i := 21) rfl)
theorem m910 : Cond.fieldLink RX7 241 "ParrotVow$Voices" "parted" "Z" ∈ TBL := xc37 _ (List.mem_of_getElem? (i := 22) rfl)
theorem m911 : Cond.methodLink RX7 237 yX4_hear ∈ TBL := xc37 _ (List.mem_of_getElem? (i := 23) rfl)
theorem m912 : Cond.instanceMethod yX4_hear ∈ TBL := xc38 _ (List.mem_of_getElem? (i := 0) rfl)
theorem m913 : Cond.selects RX4 yX4_hear yX4_hear ∈ TBL := xc38 _ (List.mem_of_getElem? (i := 1) rfl)
theorem m914 : Cond.code yX4_hear cX4_hear 6 (some .int) ∈ TBL := xc38 _ (List.mem_of_getElem? (i := 2) rfl)
theorem m915 : Cond.methodLink RX4 34 yX1_clear ∈ TBL := xc38 _ (List.mem_of_getElem? (i := 3) rfl)
theorem m916 : Cond.methodLink RX4 37 yX4_speak ∈ TBL := xc38 _ (List.mem_of_getElem? (i := 4) rfl)
theorem m917 : Cond.instanceMethod yX4_speak ∈ TBL := xc38 _ (List.mem_of_getElem? (i := 5) rfl)
theorem m918 : Cond.selects RX4 yX4_speak yX4_speak ∈ TBL := xc38 _ (List.mem_of_getElem? (i := 6) rfl)
theorem m919 : Cond.code yX4_speak cX4_speak 7 (some .int) ∈ TBL := xc38 _ (List.mem_of_getElem? (i := 7) rfl)
theorem m920 : Cond.methodLink RX4 41 yX4_bodyOf ∈ TBL := xc38 _ (List.mem_of_getElem? (i := 8) rfl)
theorem m921 : Cond.static yX4_bodyOf ∈ TBL := xc38 _ (List.mem_of_getElem? (i := 9) rfl)
theorem m922 : Cond.code yX4_bodyOf cX4_bodyOf 3 (some .int) ∈ TBL := xc38 _ (List.mem_of_getElem? (i := 10) rfl)
theorem m923 : Cond.methodLink RX4 49 yX1_add ∈ TBL := xc38 _ (List.mem_of_getElem? (i := 11) rfl)
theorem m924 : Cond.methodLink RX4 52 yX4_topmost ∈ TBL := xc38 _ (List.mem_of_getElem? (i := 12) rfl)
theorem m925 : Cond.instanceMethod yX4_topmost ∈ TBL := xc38 _ (List.mem_of_getElem? (i := 13) rfl)
theorem m926 : Cond.selects RX4 yX4_topmost yX4_topmost ∈ TBL := xc38 _ (List.mem_of_getElem? (i := 14) rfl)
theorem m927 : Cond.methodLink RX4 56 yX4_lower ∈ TBL := xc38 _ (List.mem_of_getElem? (i := 15) rfl)
theorem m928 : Cond.instanceMethod yX4_lower ∈ TBL := xc38 _ (List.mem_of_getElem? (i := 16) rfl)
theorem m929 : Cond.selects RX4 yX4_lower yX4_lower ∈ TBL := xc38 _ (List.mem_of_getElem? (i := 17) rfl)
theorem m930 : Cond.code yX4_lower cX4_lower 5 (some .int) ∈ TBL := xc38 _ (List.mem_of_getElem? (i := 18) rfl)
theorem m931 : Cond.code yX4_topmost cX4_topmost 4 (some .int) ∈ TBL := xc38 _ (List.mem_of_getElem? (i := 19) rfl)
theorem m932 : Cond.methodLink RL 120 yX8_voice ∈ TBL := xc38 _ (List.mem_of_getElem? (i := 20) rfl)
theorem m933 : Cond.instanceMethod yX8_voice ∈ TBL := xc38 _ (List.mem_of_getElem? (i := 21) rfl)
theorem m934 : Cond.selects RX8 yX8_voice yX8_voice ∈ TBL := xc38 _ (List.mem_of_getElem? (i := 22) rfl)
theorem m935 : Cond.code yX8_voice cX8_voice 5 (some .int) ∈ TBL := xc38 _ (List.mem_of_getElem? (i := 23) rfl)
theorem m936 : Cond.fieldLink RX8 228 "ParrotVowModel" "traced" "I" ∈ TBL := xc39 _ (List.mem_of_getElem? (i := 0) rfl)
theorem m937 : Cond.fieldLink RX8 255 "ParrotVowModel" "isParted" "Z" ∈ TBL := xc39 _ (List.mem_of_getElem? (i := 1) rfl)
theorem m938 : Cond.constant RX8 267 (-1000000006) ∈ TBL := xc39 _ (List.mem_of_getElem? (i := 2) rfl)
theorem m939 : Cond.methodLink RX8 240 yX8_coughs ∈ TBL := xc39 _ (List.mem_of_getElem? (i := 3) rfl)
theorem m940 : Cond.instanceMethod yX8_coughs ∈ TBL := xc39 _ (List.mem_of_getElem? (i := 4) rfl)
theorem m941 : Cond.selects RX8 yX8_coughs yX8_coughs ∈ TBL := xc39 _ (List.mem_of_getElem? (i := 5) rfl)
theorem m942 : Cond.code yX8_coughs cX8_coughs 3 (some .int) ∈ TBL := xc39 _ (List.mem_of_getElem? (i := 6) rfl)
theorem m943 : Cond.methodLink RX8 237 yX8_carefulCoughs ∈ TBL := xc39 _ (List.mem_of_getElem? (i := 7) rfl)
theorem m944 : Cond.instanceMethod yX8_carefulCoughs ∈ TBL := xc39 _ (List.mem_of_getElem? (i := 8) rfl)
theorem m945 : Cond.selects RX8 yX8_carefulCoughs yX8_carefulCoughs ∈ TBL := xc39 _ (List.mem_of_getElem? (i := 9) rfl)
theorem m946 : Cond.code yX8_carefulCoughs cX8_carefulCoughs 3 (some .int) ∈ TBL := xc39 _ (List.mem_of_getElem? (i := 10) rfl)
theorem m947 : Cond.methodLink RX8 231 yX8_begins ∈ TBL := xc39 _ (List.mem_of_getElem? (i := 11) rfl)
theorem m948 : Cond.instanceMethod yX8_begins ∈ TBL := xc39 _ (List.mem_of_getElem? (i := 12) rfl)
theorem m949 : Cond.selects RX8 yX8_begins yX8_begins ∈ TBL := xc39 _ (List.mem_of_getElem? (i := 13) rfl)
theorem m950 : Cond.code yX8_begins cX8_begins 2 none ∈ TBL := xc39 _ (List.mem_of_getElem? (i := 14) rfl)
theorem m951 : Cond.methodLink RX8 234 yX8_plainCoughs ∈ TBL := xc39 _ (List.mem_of_getElem? (i := 15) rfl)
theorem m952 : Cond.instanceMethod yX8_plainCoughs ∈ TBL := xc39 _ (List.mem_of_getElem? (i := 16) rfl)
theorem m953 : Cond.selects RX8 yX8_plainCoughs yX8_plainCoughs ∈ TBL := xc39 _ (List.mem_of_getElem? (i := 17) rfl)
theorem m954 : Cond.code yX8_plainCoughs cX8_plainCoughs 3 (some .int) ∈ TBL := xc39 _ (List.mem_of_getElem? (i := 18) rfl)
theorem m955 : Cond.methodLink RX8 249 yX8_talks ∈ TBL := xc39 _ (List.mem_of_getElem? (i := 19) rfl)
theorem m956 : Cond.instanceMethod yX8_talks ∈ TBL := xc39 _ (List.mem_of_getElem? (i := 20) rfl)
theorem m957 : Cond.selects RX8 yX8_talks yX8_talks ∈ TBL := xc39 _ (List.mem_of_getElem? (i := 21) rfl)
theorem m958 : Cond.code yX8_talks cX8_talks 3 (some .int) ∈ TBL := xc39 _ (List.mem_of_getElem? (i := 22) rfl)
theorem m959 : Cond.methodLink RX8 246 yX8_boldTalks ∈ TBL := xc39 _ (List.mem_of_getElem? (i := 23) rfl)
theorem m960 : Cond.instanceMethod yX8_boldTalks ∈ TBL := xc40 _ (List.mem_of_getElem? (i := 0) rfl)
theorem m961 : Cond.selects RX8 yX8_boldTalks yX8_boldTalks ∈ TBL := xc40 _ (List.mem_of_getElem? (i := 1) rfl)
theorem m962 : Cond.code yX8_boldTalks cX8_boldTalks 3 (some .int) ∈ TBL := xc40 _ (List.mem_of_getElem? (i := 2) rfl)
theorem m963 : Cond.methodLink RX8 243 yX8_plainTalks ∈ TBL := xc40 _ (List.mem_of_getElem? (i := 3) rfl)
theorem m964 : Cond.instanceMethod yX8_plainTalks ∈ TBL := xc40 _ (List.mem_of_getElem? (i := 4) rfl)
theorem m965 : Cond.selects RX8 yX8_plainTalks yX8_plainTalks ∈ TBL := xc40 _ (List.mem_of_getElem? (i := 5) rfl)
theorem m966 : Cond.code yX8_plainTalks cX8_plainTalks 3 (some .int) ∈ TBL := xc40 _ (List.mem_of_getElem? (i := 6) rfl)
theorem m967 : Cond.methodLink RX8 261 yX8_hushes ∈ TBL := xc40 _ (List.mem_of_getElem? (i := 7) rfl)
theorem m968 : Cond.instanceMethod yX8_hushes ∈ TBL := xc40 _ (List.mem_of_getElem? (i := 8) rfl)
theorem m969 : Cond.selects RX8 yX8_hushes yX8_hushes ∈ TBL := xc40 _ (List.mem_of_getElem? (i := 9) rfl)
theorem m970 : Cond.code yX8_hushes cX8_hushes 3 (some .int) ∈ TBL := xc40 _ (List.mem_of_getElem? (i := 10) rfl)
theorem m971 : Cond.methodLink RX8 252 yX8_plainHushes ∈ TBL := xc40 _ (List.mem_of_getElem? (i := 11) rfl)
theorem m972 : Cond.instanceMethod yX8_plainHushes ∈ TBL := xc40 _ (List.mem_of_getElem? (i := 12) rfl)
theorem m973 : Cond.selects RX8 yX8_plainHushes yX8_plainHushes ∈ TBL := xc40 _ (List.mem_of_getElem? (i := 13) rfl)
theorem m974 : Cond.code yX8_plainHushes cX8_plainHushes 3 (some .int) ∈ TBL := xc40 _ (List.mem_of_getElem? (i := 14) rfl)
theorem m975 : Cond.methodLink RX8 264 yX8_partsBy ∈ TBL := xc40 _ (List.mem_of_getElem? (i := 15) rfl)
theorem m976 : Cond.instanceMethod yX8_partsBy ∈ TBL := xc40 _ (List.mem_of_getElem? (i := 16) rfl)
theorem m977 : Cond.selects RX8 yX8_partsBy yX8_partsBy ∈ TBL := xc40 _ (List.mem_of_getElem? (i := 17) rfl)
theorem m978 : Cond.code yX8_partsBy cX8_partsBy 4 (some .int) ∈ TBL := xc40 _ (List.mem_of_getElem? (i := 18) rfl)
theorem m979 : Cond.methodLink RX8 258 yX8_plainParts ∈ TBL := xc40 _ (List.mem_of_getElem? (i := 19) rfl)
theorem m980 : Cond.instanceMethod yX8_plainParts ∈ TBL := xc40 _ (List.mem_of_getElem? (i := 20) rfl)
theorem m981 : Cond.selects RX8 yX8_plainParts yX8_plainParts ∈ TBL := xc40 _ (List.mem_of_getElem? (i := 21) rfl)
theorem m982 : Cond.code yX8_plainParts cX8_plainParts 4 (some .int) ∈ TBL := xc40 _ (List.mem_of_getElem? (i := 22) rfl)
theorem m983 : Cond.methodLink RL 121 yX7_body ∈ TBL := xc40 _ (List.mem_of_getElem? (i := 23) rfl)
theorem m984 : Cond.instanceMethod yX7_body ∈ TBL := xc41 _ (List.mem_of_getElem? (i := 0) rfl)
theorem m985 : Cond.selects RX7 yX7_body yX7_body ∈ TBL := xc41 _ (List.mem_of_getElem? (i := 1) rfl)
theorem m986 : Cond.code yX7_body cX7_body 2 (some .int) ∈ TBL := xc41 _ (List.mem_of_getElem? (i := 2) rfl)
theorem m987 : Cond.fieldLink RX7 244 "ParrotVow$Voices" "trace" "LParrotVow$Row;" ∈ TBL := xc41 _ (List.mem_of_getElem? (i := 3) rfl)
theorem m988 : Cond.methodLink RL 124 yX8_body ∈ TBL := xc41 _ (List.mem_of_getElem? (i := 4) rfl)
theorem m989 : Cond.instanceMethod yX8_body ∈ TBL := xc41 _ (List.mem_of_getElem? (i := 5) rfl)
theorem m990 : Cond.selects RX8 yX8_body yX8_body ∈ TBL := xc41 _ (List.mem_of_getElem? (i := 6) rfl)
theorem m991 : Cond.code yX8_body cX8_body 2 (some .int) ∈ TBL := xc41 _ (List.mem_of_getElem? (i := 7) rfl)
theorem m992 : Cond.methodLink RL 125 yX7_sheet ∈ TBL := xc41 _ (List.mem_of_getElem? (i := 8) rfl)
theorem m993 : Cond.instanceMethod yX7_sheet ∈ TBL := xc41 _ (List.mem_of_getElem? (i := 9) rfl)
theorem m994 : Cond.selects RX7 yX7_sheet yX7_sheet ∈ TBL := xc41 _ (List.mem_of_getElem? (i := 10) rfl)
theorem m995 : Cond.code yX7_sheet cX7_sheet 5 (some .int) ∈ TBL := xc41 _ (List.mem_of_getElem? (i := 11) rfl)
theorem m996 : Cond.methodLink RX7 250 yX7_isWidth ∈ TBL := xc41 _ (List.mem_of_getElem? (i := 12) rfl)
theorem m997 : Cond.static yX7_isWidth ∈ TBL := xc41 _ (List.mem_of_getElem? (i := 13) rfl)
theorem m998 : Cond.code yX7_isWidth cX7_isWidth 1 (some .boolean) ∈ TBL := xc41 _ (List.mem_of_getElem? (i := 14) rfl)
theorem m999 : Cond.methodLink RX7 253 yX2_remake ∈ TBL := xc41 _ (List.mem_of_getElem? (i := 15) rfl)
theorem m1000 : Cond.instanceMethod yX2_remake ∈ TBL := xc41 _ (List.mem_of_getElem? (i := 16) rfl)
theorem m1001 : Cond.selects RX2 yX2_remake yX2_remake ∈ TBL := xc41 _ (List.mem_of_getElem? (i := 17) rfl)
theorem m1002 : Cond.code yX2_remake cX2_remake 3 none ∈ TBL := xc41 _ (List.mem_of_getElem? (i := 18) rfl)
theorem m1003 : Cond.methodLink RX2 24 yX1_zeros ∈ TBL := xc41 _ (List.mem_of_getElem? (i := 19) rfl)
theorem m1004 : Cond.instanceMethod yX1_zeros ∈ TBL := xc41 _ (List.mem_of_getElem? (i := 20) rfl)
theorem m1005 : Cond.selects RX1 yX1_zeros yX1_zeros ∈ TBL := xc41 _ (List.mem_of_getElem? (i := 21) rfl)
theorem m1006 : Cond.code yX1_zeros cX1_zeros 3 none ∈ TBL := xc41 _ (List.mem_of_getElem? (i := 22) rfl)
theorem m1007 : Cond.methodLink RX1 33 yX1_set ∈ TBL := xc41 _ (List.mem_of_getElem? (i := 23) rfl)
theorem m1008 : Cond.methodLink RL 128 yX8_sheet ∈ TBL := xc42 _ (List.mem_of_getElem? (i := 0) rfl)
theorem m1009 : Cond.instanceMethod yX8_sheet ∈ TBL := xc42 _ (List.mem_of_getElem? (i := 1) rfl)
theorem m1010 : Cond.selects RX8 yX8_sheet yX8_sheet ∈ TBL := xc42 _ (List.mem_of_getElem? (i := 2) rfl)
theorem m1011 : Cond.code yX8_sheet cX8_sheet 5 (some .int) ∈ TBL := xc42 _ (List.mem_of_getElem? (i := 3) rfl)
theorem m1012 : Cond.methodLink RL 129 yX7_put ∈ TBL := xc42 _ (List.mem_of_getElem? (i := 4) rfl)
theorem m1013 : Cond.instanceMethod yX7_put ∈ TBL := xc42 _ (List.mem_of_getElem? (i := 5) rfl)
theorem m1014 : Cond.selects RX7 yX7_put yX7_put ∈ TBL := xc42 _ (List.mem_of_getElem? (i := 6) rfl)
theorem m1015 : Cond.code yX7_put cX7_put 5 (some .int) ∈ TBL := xc42 _ (List.mem_of_getElem? (i := 7) rfl)
theorem m1016 : Cond.methodLink RX7 256 yX2_lowestBits ∈ TBL := xc42 _ (List.mem_of_getElem? (i := 8) rfl)
theorem m1017 : Cond.instanceMethod yX2_lowestBits ∈ TBL := xc42 _ (List.mem_of_getElem? (i := 9) rfl)
theorem m1018 : Cond.selects RX2 yX2_lowestBits yX2_lowestBits ∈ TBL := xc42 _ (List.mem_of_getElem? (i := 10) rfl)
theorem m1019 : Cond.code yX2_lowestBits cX2_lowestBits 2 (some .int) ∈ TBL := xc42 _ (List.mem_of_getElem? (i := 11) rfl)
theorem m1020 : Cond.methodLink RL 132 yX8_put ∈ TBL := xc42 _ (List.mem_of_getElem? (i := 12) rfl)
theorem m1021 : Cond.instanceMethod yX8_put ∈ TBL := xc42 _ (List.mem_of_getElem? (i := 13) rfl)
theorem m1022 : Cond.selects RX8 yX8_put yX8_put ∈ TBL := xc42 _ (List.mem_of_getElem? (i := 14) rfl)
theorem m1023 : Cond.code yX8_put cX8_put 5 (some .int) ∈ TBL := xc42 _ (List.mem_of_getElem? (i := 15) rfl)
theorem m1024 : Cond.methodLink RX8 268 yX8_notThere ∈ TBL := xc42 _ (List.mem_of_getElem? (i := 16) rfl)
theorem m1025 : Cond.instanceMethod yX8_notThere ∈ TBL := xc42 _ (List.mem_of_getElem? (i := 17) rfl)
theorem m1026 : Cond.selects RX8 yX8_notThere yX8_notThere ∈ TBL := xc42 _ (List.mem_of_getElem? (i := 18) rfl)
theorem m1027 : Cond.code yX8_notThere cX8_notThere 2 (some .int) ∈ TBL := xc42 _ (List.mem_of_getElem? (i := 19) rfl)
theorem m1028 : Cond.methodLink RL 133 yX7_move ∈ TBL := xc42 _ (List.mem_of_getElem? (i := 20) rfl)
theorem m1029 : Cond.instanceMethod yX7_move ∈ TBL := xc42 _ (List.mem_of_getElem? (i := 21) rfl)
theorem m1030 : Cond.selects RX7 yX7_move yX7_move ∈ TBL := xc42 _ (List.mem_of_getElem? (i := 22) rfl)
theorem m1031 : Cond.code yX7_move cX7_move 8 (some .int) ∈ TBL := xc42 _ (List.mem_of_getElem? (i := 23) rfl)
theorem m1032 : Cond.fieldLink RX7 259 "ParrotVow$Sheet" "bits" "I" ∈ TBL := xc43 _ (List.mem_of_getElem? (i := 0) rfl)
theorem m1033 : Cond.methodLink RX7 262 yX1_hasRun ∈ TBL := xc43 _ (List.mem_of_getElem? (i := 1) rfl)
theorem m1034 : Cond.methodLink RX7 265 yX1_takeRun ∈ TBL := xc43 _ (List.mem_of_getElem? (i := 2) rfl)
theorem m1035 : Cond.methodLink RL 137 yX8_move ∈ TBL := xc43 _ (List.mem_of_getElem? (i := 3) rfl)
theorem m1036 : Cond.instanceMethod yX8_move ∈ TBL := xc43 _ (List.mem_of_getElem? (i := 4) rfl)
theorem m1037 : Cond.selects RX8 yX8_move yX8_move ∈ TBL := xc43 _ (List.mem_of_getElem? (i := 5) rfl)
theorem m1038 : Cond.code yX8_move cX8_move 9 (some .int) ∈ TBL := xc43 _ (List.mem_of_getElem? (i := 6) rfl)
theorem m1039 : Cond.methodLink RX8 271 yX8_notMoved ∈ TBL := xc43 _ (List.mem_of_getElem? (i := 7) rfl)
theorem m1040 : Cond.instanceMethod yX8_notMoved ∈ TBL := xc43 _ (List.mem_of_getElem? (i := 8) rfl)
theorem m1041 : Cond.selects RX8 yX8_notMoved yX8_notMoved ∈ TBL := xc43 _ (List.mem_of_getElem? (i := 9) rfl)
theorem m1042 : Cond.code yX8_notMoved cX8_notMoved 7 (some .int) ∈ TBL := xc43 _ (List.mem_of_getElem? (i := 10) rfl)
theorem m1043 : Cond.methodLink RL 138 yX7_signs ∈ TBL := xc43 _ (List.mem_of_getElem? (i := 11) rfl)
theorem m1044 : Cond.instanceMethod yX7_signs ∈ TBL := xc43 _ (List.mem_of_getElem? (i := 12) rfl)
theorem m1045 : Cond.selects RX7 yX7_signs yX7_signs ∈ TBL := xc43 _ (List.mem_of_getElem? (i := 13) rfl)
theorem m1046 : Cond.code yX7_signs cX7_signs 5 (some .int) ∈ TBL := xc43 _ (List.mem_of_getElem? (i := 14) rfl)
theorem m1047 : Cond.methodLink RL 141 yX8_signs ∈ TBL := xc43 _ (List.mem_of_getElem? (i := 15) rfl)
theorem m1048 : Cond.instanceMethod yX8_signs ∈ TBL := xc43 _ (List.mem_of_getElem? (i := 16) rfl)
theorem m1049 : Cond.selects RX8 yX8_signs yX8_signs ∈ TBL := xc43 _ (List.mem_of_getElem? (i := 17) rfl)
theorem m1050 : Cond.code yX8_signs cX8_signs 5 (some .int) ∈ TBL := xc43 _ (List.mem_of_getElem? (i := 18) rfl)
theorem m1051 : Cond.methodLink RL 142 yX7_judge ∈ TBL := xc43 _ (List.mem_of_getElem? (i := 19) rfl)
theorem m1052 : Cond.instanceMethod yX7_judge ∈ TBL := xc43 _ (List.mem_of_getElem? (i := 20) rfl)
theorem m1053 : Cond.selects RX7 yX7_judge yX7_judge ∈ TBL := xc43 _ (List.mem_of_getElem? (i := 21) rfl)
theorem m1054 : Cond.code yX7_judge cX7_judge 4 (some .int) ∈ TBL := xc43 _ (List.mem_of_getElem? (i := 22) rfl)
theorem m1055 : Cond.methodLink RL 145 yX8_judge ∈ TBL := xc43 _ (List.mem_of_getElem? (i := 23) rfl)
theorem m1056 : Cond.instanceMethod yX8_judge ∈ TBL := xc44 _ (List.mem_of_getElem? (i := 0) rfl)
theorem m1057 : Cond.selects RX8 yX8_judge yX8_judge ∈ TBL := xc44 _ (List.mem_of_getElem? (i := 1) rfl)
theorem m1058 : Cond.code yX8_judge cX8_judge 4 (some .int) ∈ TBL := xc44 _ (List.mem_of_getElem? (i := 2) rfl)
theorem m1059 : Cond.methodLink RL 146 yX7_image ∈ TBL := xc44 _ (List.mem_of_getElem? (i := 3) rfl)
theorem m1060 : Cond.instanceMethod yX7_image ∈ TBL := xc44 _ (List.mem_of_getElem? (i := 4) rfl)
theorem m1061 : Cond.selects RX7 yX7_image yX7_image ∈ TBL := xc44 _ (List.mem_of_getElem? (i := 5) rfl)
theorem m1062 : Cond.code yX7_image cX7_image 1 (some .int) ∈ TBL := xc44 _ (List.mem_of_getElem? (i := 6) rfl)
theorem m1063 : Cond.methodLink RX7 272 yX3_takeAll ∈ TBL := xc44 _ (List.mem_of_getElem? (i := 7) rfl)
theorem m1064 : Cond.instanceMethod yX3_takeAll ∈ TBL := xc44 _ (List.mem_of_getElem? (i := 8) rfl)
theorem m1065 : Cond.selects RX3 yX3_takeAll yX3_takeAll ∈ TBL := xc44 _ (List.mem_of_getElem? (i := 9) rfl)
theorem m1066 : Cond.code yX3_takeAll cX3_takeAll 2 none ∈ TBL := xc44 _ (List.mem_of_getElem? (i := 10) rfl)
theorem m1067 : Cond.methodLink RX3 62 yX1_takeAll ∈ TBL := xc44 _ (List.mem_of_getElem? (i := 11) rfl)
theorem m1068 : Cond.methodLink RL 150 yX8_image ∈ TBL := xc44 _ (List.mem_of_getElem? (i := 12) rfl)
theorem m1069 : Cond.instanceMethod yX8_image ∈ TBL := xc44 _ (List.mem_of_getElem? (i := 13) rfl)
theorem m1070 : Cond.selects RX8 yX8_image yX8_image ∈ TBL := xc44 _ (List.mem_of_getElem? (i := 14) rfl)
theorem m1071 : Cond.code yX8_image cX8_image 1 (some .int) ∈ TBL := xc44 _ (List.mem_of_getElem? (i := 15) rfl)
theorem m1072 : Cond.fieldLink RX8 279 "ParrotVowModel" "images" "I" ∈ TBL := xc44 _ (List.mem_of_getElem? (i := 16) rfl)
theorem m1073 : Cond.methodLink RX8 275 yX8_copyAll ∈ TBL := xc44 _ (List.mem_of_getElem? (i := 17) rfl)
theorem m1074 : Cond.static yX8_copyAll ∈ TBL := xc44 _ (List.mem_of_getElem? (i := 18) rfl)
theorem m1075 : Cond.code yX8_copyAll cX8_copyAll 3 none ∈ TBL := xc44 _ (List.mem_of_getElem? (i := 19) rfl)
theorem m1076 : Cond.methodLink RL 151 yX7_restore ∈ TBL := xc44 _ (List.mem_of_getElem? (i := 20) rfl)
theorem m1077 : Cond.instanceMethod yX7_restore ∈ TBL := xc44 _ (List.mem_of_getElem? (i := 21) rfl)
theorem m1078 : Cond.selects RX7 yX7_restore yX7_restore ∈ TBL := xc44 _ (List.mem_of_getElem? (i := 22) rfl)
theorem m1079 : Cond.code yX7_restore cX7_restore 1 (some .int) ∈ TBL := xc44 _ (List.mem_of_getElem? (i := 23) rfl)
theorem m1080 : Cond.methodLink RL 154 yX8_restore ∈ TBL := xc45 _ (List.mem_of_getElem? (i := 0) rfl)
theorem m1081 : Cond.instanceMethod yX8_restore ∈ TBL := xc45 _ (List.mem_of_getElem? (i := 1) rfl)
theorem m1082 : Cond.selects RX8 yX8_restore yX8_restore ∈ TBL := xc45 _ (List.mem_of_getElem? (i := 2) rfl)
theorem m1083 : Cond.code yX8_restore cX8_restore 1 (some .int) ∈ TBL := xc45 _ (List.mem_of_getElem? (i := 3) rfl)
theorem m1084 : Cond.methodLink RL 155 yX7_tell ∈ TBL := xc45 _ (List.mem_of_getElem? (i := 4) rfl)
theorem m1085 : Cond.instanceMethod yX7_tell ∈ TBL := xc45 _ (List.mem_of_getElem? (i := 5) rfl)
theorem m1086 : Cond.selects RX7 yX7_tell yX7_tell ∈ TBL := xc45 _ (List.mem_of_getElem? (i := 6) rfl)
theorem m1087 : Cond.code yX7_tell cX7_tell 2 (some .int) ∈ TBL := xc45 _ (List.mem_of_getElem? (i := 7) rfl)
theorem m1088 : Cond.fieldLink RX7 275 "ParrotVow$State" "waiting" "LParrotVow$Row;" ∈ TBL := xc45 _ (List.mem_of_getElem? (i := 8) rfl)
theorem m1089 : Cond.methodLink RL 158 yX8_tell ∈ TBL := xc45 _ (List.mem_of_getElem? (i := 9) rfl)
theorem m1090 : Cond.instanceMethod yX8_tell ∈ TBL := xc45 _ (List.mem_of_getElem? (i := 10) rfl)
theorem m1091 : Cond.selects RX8 yX8_tell yX8_tell ∈ TBL := xc45 _ (List.mem_of_getElem? (i := 11) rfl)
theorem m1092 : Cond.code yX8_tell cX8_tell 2 (some .int) ∈ TBL := xc45 _ (List.mem_of_getElem? (i := 12) rfl)
theorem m1093 : Cond.methodLink RL 159 yX7_check ∈ TBL := xc45 _ (List.mem_of_getElem? (i := 13) rfl)
theorem m1094 : Cond.instanceMethod yX7_check ∈ TBL := xc45 _ (List.mem_of_getElem? (i := 14) rfl)
theorem m1095 : Cond.selects RX7 yX7_check yX7_check ∈ TBL := xc45 _ (List.mem_of_getElem? (i := 15) rfl)
theorem m1096 : Cond.code yX7_check cX7_check 3 (some .int) ∈ TBL := xc45 _ (List.mem_of_getElem? (i := 16) rfl)
theorem m1097 : Cond.methodLink RL 162 yX8_check ∈ TBL := xc45 _ (List.mem_of_getElem? (i := 17) rfl)
theorem m1098 : Cond.instanceMethod yX8_check ∈ TBL := xc45 _ (List.mem_of_getElem? (i := 18) rfl)
theorem m1099 : Cond.selects RX8 yX8_check yX8_check ∈ TBL := xc45 _ (List.mem_of_getElem? (i := 19) rfl)
theorem m1100 : Cond.code yX8_check cX8_check 3 (some .int) ∈ TBL := xc45 _ (List.mem_of_getElem? (i := 20) rfl)
theorem m1101 : Cond.methodLink RL 163 yX7_count ∈ TBL := xc45 _ (List.mem_of_getElem? (i := 21) rfl)
theorem m1102 : Cond.instanceMethod yX7_count ∈ TBL := xc45 _ (List.mem_of_getElem? (i := 22) rfl)
theorem m1103 : Cond.selects RX7 yX7_count yX7_count ∈ TBL := xc45 _ (List.mem_of_getElem? (i := 23) rfl)
theorem m1104 : Cond.code yX7_count cX7_count 2 (some .int) ∈ TBL := xc46 _ (List.mem_of_getElem? (i := 0) rfl)
theorem m1105 : Cond.methodLink RL 166 yX8_count ∈ TBL := xc46 _ (List.mem_of_getElem? (i := 1) rfl)
theorem m1106 : Cond.instanceMethod yX8_count ∈ TBL := xc46 _ (List.mem_of_getElem? (i := 2) rfl)
theorem m1107 : Cond.selects RX8 yX8_count yX8_count ∈ TBL := xc46 _ (List.mem_of_getElem? (i := 3) rfl)
theorem m1108 : Cond.code yX8_count cX8_count 2 (some .int) ∈ TBL := xc46 _ (List.mem_of_getElem? (i := 4) rfl)
theorem m1109 : Cond.methodLink RL 167 yX7_told ∈ TBL := xc46 _ (List.mem_of_getElem? (i := 5) rfl)
theorem m1110 : Cond.instanceMethod yX7_told ∈ TBL := xc46 _ (List.mem_of_getElem? (i := 6) rfl)
theorem m1111 : Cond.selects RX7 yX7_told yX7_told ∈ TBL := xc46 _ (List.mem_of_getElem? (i := 7) rfl)
theorem m1112 : Cond.code yX7_told cX7_told 2 (some .int) ∈ TBL := xc46 _ (List.mem_of_getElem? (i := 8) rfl)
theorem m1113 : Cond.methodLink RL 170 yX8_told ∈ TBL := xc46 _ (List.mem_of_getElem? (i := 9) rfl)
theorem m1114 : Cond.instanceMethod yX8_told ∈ TBL := xc46 _ (List.mem_of_getElem? (i := 10) rfl)
theorem m1115 : Cond.selects RX8 yX8_told yX8_told ∈ TBL := xc46 _ (List.mem_of_getElem? (i := 11) rfl)
theorem m1116 : Cond.code yX8_told cX8_told 2 (some .int) ∈ TBL := xc46 _ (List.mem_of_getElem? (i := 12) rfl)
theorem xin0 : ∀ w ∈ wsX00, w ∈ TBL := xc47
theorem xin1 : ∀ w ∈ wsX10, w ∈ TBL := xc48
theorem xin2 : ∀ w ∈ wsX20, w ∈ TBL := xc49
theorem xin3 : ∀ w ∈ wsX30, w ∈ TBL := xc50
theorem xin4 : ∀ w ∈ wsX40, w ∈ TBL := xc51
theorem xin5 : ∀ w ∈ wsX50, w ∈ TBL := xc52
theorem xin6 : ∀ w ∈ wsX60, w ∈ TBL := xc53
theorem xin7 : ∀ w ∈ wsX70, w ∈ TBL := xc54
theorem xin8 : ∀ w ∈ wsX80, w ∈ TBL := xc55
theorem TBL_good : TBL.all goodWord = true := by decide +kernel
