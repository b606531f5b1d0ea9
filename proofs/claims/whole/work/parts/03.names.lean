def RX0 : String := "WhistleJunction$History"
def TX0 : u_T := fun k => match k with
  | 0 => ("WhistleJunction$History", "states", "[LWhistleJunction$State;", true)
  | 1 => ("WhistleJunction$History", "oldest", "I", false)
  | _ => ("WhistleJunction$History", "size", "I", false)
def tyX0 : Nat → FieldType := fun k => match k with
  | 0 => .array (.object "WhistleJunction$State")
  | 1 => .int
  | _ => .int
abbrev wsX00 : List Cond := u_ws RX0 TX0 3
theorem nmX0 : ∀ a, a < 3 → ∀ b, b < 3 → a ≠ b → (TX0 a).2.1 ≠ (TX0 b).2.1 := by decide +kernel
theorem tyX0_ok : ∀ k, k < 3 → parseFieldDescriptor (TX0 k).2.2.1 = some (tyX0 k) := by decide +kernel
abbrev cX0_init : ByteArray := prog_2_method_1_code
def yX0_init : MethodName := ⟨RX0, "<init>", "()V"⟩
abbrev cX0_size : ByteArray := prog_2_method_2_code
def yX0_size : MethodName := ⟨RX0, "size", "()I"⟩
abbrev cX0_forget : ByteArray := prog_2_method_3_code
def yX0_forget : MethodName := ⟨RX0, "forget", "()V"⟩
abbrev cX0_push : ByteArray := prog_2_method_4_code
def yX0_push : MethodName := ⟨RX0, "push", "(LWhistleJunction$State;)V"⟩
abbrev cX0_pop : ByteArray := prog_2_method_5_code
def yX0_pop : MethodName := ⟨RX0, "pop", "(LWhistleJunction$State;)V"⟩
abbrev cX0_slotAt : ByteArray := prog_2_method_6_code
def yX0_slotAt : MethodName := ⟨RX0, "slotAt", "(I)LWhistleJunction$State;"⟩
def RX1 : String := "WhistleJunction$Input"
def TX1 : u_T := fun k => match k with
  | 0 => ("WhistleJunction$Input", "characters", "LWhistleJunction$Row;", true)
  | 1 => ("WhistleJunction$Input", "kinds", "LWhistleJunction$Row;", true)
  | 2 => ("WhistleJunction$Input", "lines", "LWhistleJunction$Row;", true)
  | 3 => ("WhistleJunction$Input", "seconds", "LWhistleJunction$Row;", true)
  | 4 => ("WhistleJunction$Input", "position", "I", false)
  | 5 => ("WhistleJunction$Input", "line", "I", false)
  | _ => ("WhistleJunction$Input", "second", "I", false)
def tyX1 : Nat → FieldType := fun k => match k with
  | 0 => .object "WhistleJunction$Row"
  | 1 => .object "WhistleJunction$Row"
  | 2 => .object "WhistleJunction$Row"
  | 3 => .object "WhistleJunction$Row"
  | 4 => .int
  | 5 => .int
  | _ => .int
abbrev wsX10 : List Cond := u_ws RX1 TX1 7
theorem nmX1 : ∀ a, a < 7 → ∀ b, b < 7 → a ≠ b → (TX1 a).2.1 ≠ (TX1 b).2.1 := by decide +kernel
theorem tyX1_ok : ∀ k, k < 7 → parseFieldDescriptor (TX1 k).2.2.1 = some (tyX1 k) := by decide +kernel
abbrev cX1_init : ByteArray := prog_3_method_1_code
def yX1_init : MethodName := ⟨RX1, "<init>", "()V"⟩
abbrev cX1_size : ByteArray := prog_3_method_2_code
def yX1_size : MethodName := ⟨RX1, "size", "()I"⟩
abbrev cX1_empty : ByteArray := prog_3_method_3_code
def yX1_empty : MethodName := ⟨RX1, "empty", "()V"⟩
abbrev cX1_addAll : ByteArray := prog_3_method_4_code
def yX1_addAll : MethodName := ⟨RX1, "addAll", "(I)V"⟩
abbrev cX1_position : ByteArray := prog_3_method_5_code
def yX1_position : MethodName := ⟨RX1, "position", "()I"⟩
abbrev cX1_orders : ByteArray := prog_3_method_6_code
def yX1_orders : MethodName := ⟨RX1, "orders", "()I"⟩
abbrev cX1_kind : ByteArray := prog_3_method_7_code
def yX1_kind : MethodName := ⟨RX1, "kind", "(I)I"⟩
abbrev cX1_line : ByteArray := prog_3_method_8_code
def yX1_line : MethodName := ⟨RX1, "line", "(I)I"⟩
abbrev cX1_second : ByteArray := prog_3_method_9_code
def yX1_second : MethodName := ⟨RX1, "second", "(I)I"⟩
abbrev cX1_parse : ByteArray := prog_3_method_10_code
def yX1_parse : MethodName := ⟨RX1, "parse", "()Z"⟩
abbrev cX1_parseOrder : ByteArray := prog_3_method_11_code
def yX1_parseOrder : MethodName := ⟨RX1, "parseOrder", "()Z"⟩
abbrev cX1_shapeOf : ByteArray := prog_3_method_12_code
def yX1_shapeOf : MethodName := ⟨RX1, "shapeOf", "(I)Ljava/lang/String;"⟩
abbrev cX1_parsePart : ByteArray := prog_3_method_13_code
def yX1_parsePart : MethodName := ⟨RX1, "parsePart", "(I)Z"⟩
abbrev cX1_parseSign : ByteArray := prog_3_method_14_code
def yX1_parseSign : MethodName := ⟨RX1, "parseSign", "(I)Z"⟩
abbrev cX1_parseDigit : ByteArray := prog_3_method_15_code
def yX1_parseDigit : MethodName := ⟨RX1, "parseDigit", "()Z"⟩
abbrev cX1_parseWord : ByteArray := prog_3_method_16_code
def yX1_parseWord : MethodName := ⟨RX1, "parseWord", "()Z"⟩
abbrev cX1_isLetter : ByteArray := prog_3_method_17_code
def yX1_isLetter : MethodName := ⟨RX1, "isLetter", "(I)Z"⟩
def RX2 : String := "WhistleJunction$Row"
def TX2 : u_T := fun k => match k with
  | 0 => ("WhistleJunction$Row", "items", "[I", true)
  | _ => ("WhistleJunction$Row", "size", "I", false)
def tyX2 : Nat → FieldType := fun k => match k with
  | 0 => .array .int
  | _ => .int
abbrev wsX20 : List Cond := u_ws RX2 TX2 2
theorem nmX2 : ∀ a, a < 2 → ∀ b, b < 2 → a ≠ b → (TX2 a).2.1 ≠ (TX2 b).2.1 := by decide +kernel
theorem tyX2_ok : ∀ k, k < 2 → parseFieldDescriptor (TX2 k).2.2.1 = some (tyX2 k) := by decide +kernel
abbrev cX2_init : ByteArray := prog_4_method_1_code
def yX2_init : MethodName := ⟨RX2, "<init>", "(I)V"⟩
abbrev cX2_size : ByteArray := prog_4_method_2_code
def yX2_size : MethodName := ⟨RX2, "size", "()I"⟩
abbrev cX2_at : ByteArray := prog_4_method_3_code
def yX2_at : MethodName := ⟨RX2, "at", "(I)I"⟩
abbrev cX2_put : ByteArray := prog_4_method_4_code
def yX2_put : MethodName := ⟨RX2, "put", "(II)V"⟩
abbrev cX2_raise : ByteArray := prog_4_method_5_code
def yX2_raise : MethodName := ⟨RX2, "raise", "(II)V"⟩
abbrev cX2_add : ByteArray := prog_4_method_6_code
def yX2_add : MethodName := ⟨RX2, "add", "(I)V"⟩
abbrev cX2_fill : ByteArray := prog_4_method_7_code
def yX2_fill : MethodName := ⟨RX2, "fill", "(II)V"⟩
abbrev cX2_shorten : ByteArray := prog_4_method_8_code
def yX2_shorten : MethodName := ⟨RX2, "shorten", "(I)V"⟩
abbrev cX2_copyFrom : ByteArray := prog_4_method_9_code
def yX2_copyFrom : MethodName := ⟨RX2, "copyFrom", "(LWhistleJunction$Row;)V"⟩
abbrev cX2_total : ByteArray := prog_4_method_10_code
def yX2_total : MethodName := ⟨RX2, "total", "()I"⟩
abbrev cX2_numberAboveZero : ByteArray := prog_4_method_11_code
def yX2_numberAboveZero : MethodName := ⟨RX2, "numberAboveZero", "()I"⟩
def RX3 : String := "WhistleJunction$Signs"
def TX3 : u_T := fun k => match k with
  | _ => ("", "", "", false)
def tyX3 : Nat → FieldType := fun k => match k with
  | _ => .int
abbrev wsX30 : List Cond := u_ws RX3 TX3 0
theorem nmX3 : ∀ a, a < 0 → ∀ b, b < 0 → a ≠ b → (TX3 a).2.1 ≠ (TX3 b).2.1 := by decide +kernel
theorem tyX3_ok : ∀ k, k < 0 → parseFieldDescriptor (TX3 k).2.2.1 = some (tyX3 k) := by decide +kernel
abbrev cX3_number : ByteArray := prog_5_method_2_code
def yX3_number : MethodName := ⟨RX3, "number", "(LWhistleJunction$Row;)I"⟩
abbrev cX3_sumOfLengths : ByteArray := prog_5_method_3_code
def yX3_sumOfLengths : MethodName := ⟨RX3, "sumOfLengths", "(LWhistleJunction$Row;)I"⟩
abbrev cX3_owner : ByteArray := prog_5_method_4_code
def yX3_owner : MethodName := ⟨RX3, "owner", "(LWhistleJunction$Row;I)I"⟩
abbrev cX3_standing : ByteArray := prog_5_method_5_code
def yX3_standing : MethodName := ⟨RX3, "standing", "(LWhistleJunction$Row;II)I"⟩
abbrev cX3_areClear : ByteArray := prog_5_method_6_code
def yX3_areClear : MethodName := ⟨RX3, "areClear", "(LWhistleJunction$Row;)Z"⟩
abbrev cX3_areDistinct : ByteArray := prog_5_method_7_code
def yX3_areDistinct : MethodName := ⟨RX3, "areDistinct", "(LWhistleJunction$Row;)Z"⟩
abbrev cX3_freeByWords : ByteArray := prog_5_method_8_code
def yX3_freeByWords : MethodName := ⟨RX3, "freeByWords", "(LWhistleJunction$Row;I)I"⟩
abbrev cX3_isFree : ByteArray := prog_5_method_9_code
def yX3_isFree : MethodName := ⟨RX3, "isFree", "(LWhistleJunction$Row;I)Z"⟩
abbrev cX3_freeByBars : ByteArray := prog_5_method_10_code
def yX3_freeByBars : MethodName := ⟨RX3, "freeByBars", "(LWhistleJunction$Row;I)I"⟩
abbrev cX3_isBarredByAnother : ByteArray := prog_5_method_11_code
def yX3_isBarredByAnother : MethodName := ⟨RX3, "isBarredByAnother", "(LWhistleJunction$Row;II)Z"⟩
def RX4 : String := "WhistleJunction$Sound"
def TX4 : u_T := fun k => match k with
  | _ => ("", "", "", false)
def tyX4 : Nat → FieldType := fun k => match k with
  | _ => .int
abbrev wsX40 : List Cond := u_ws RX4 TX4 0
theorem nmX4 : ∀ a, a < 0 → ∀ b, b < 0 → a ≠ b → (TX4 a).2.1 ≠ (TX4 b).2.1 := by decide +kernel
theorem tyX4_ok : ∀ k, k < 0 → parseFieldDescriptor (TX4 k).2.2.1 = some (tyX4 k) := by decide +kernel
abbrev cX4_of : ByteArray := prog_6_method_2_code
def yX4_of : MethodName := ⟨RX4, "of", "(III)I"⟩
abbrev cX4_echo : ByteArray := prog_6_method_3_code
def yX4_echo : MethodName := ⟨RX4, "echo", "(III)I"⟩
abbrev cX4_told : ByteArray := prog_6_method_4_code
def yX4_told : MethodName := ⟨RX4, "told", "(I)I"⟩
abbrev cX4_whistler : ByteArray := prog_6_method_5_code
def yX4_whistler : MethodName := ⟨RX4, "whistler", "(I)I"⟩
abbrev cX4_echoer : ByteArray := prog_6_method_6_code
def yX4_echoer : MethodName := ⟨RX4, "echoer", "(I)I"⟩
abbrev cX4_word : ByteArray := prog_6_method_7_code
def yX4_word : MethodName := ⟨RX4, "word", "(I)I"⟩
abbrev cX4_hoursToCome : ByteArray := prog_6_method_8_code
def yX4_hoursToCome : MethodName := ⟨RX4, "hoursToCome", "(I)I"⟩
abbrev cX4_anHourLater : ByteArray := prog_6_method_9_code
def yX4_anHourLater : MethodName := ⟨RX4, "anHourLater", "(I)I"⟩
abbrev cX4_isExposed : ByteArray := prog_6_method_10_code
def yX4_isExposed : MethodName := ⟨RX4, "isExposed", "(I)Z"⟩
abbrev cX4_asExposed : ByteArray := prog_6_method_11_code
def yX4_asExposed : MethodName := ⟨RX4, "asExposed", "(I)I"⟩
abbrev cX4_number : ByteArray := prog_6_method_12_code
def yX4_number : MethodName := ⟨RX4, "number", "(II)I"⟩
def RX5 : String := "WhistleJunction$State"
def TX5 : u_T := fun k => match k with
  | 0 => ("WhistleJunction$State", "words", "LWhistleJunction$Row;", true)
  | 1 => ("WhistleJunction$State", "priorities", "LWhistleJunction$Row;", true)
  | 2 => ("WhistleJunction$State", "steam", "LWhistleJunction$Row;", true)
  | 3 => ("WhistleJunction$State", "coins", "LWhistleJunction$Row;", true)
  | 4 => ("WhistleJunction$State", "mutes", "LWhistleJunction$Row;", true)
  | 5 => ("WhistleJunction$State", "passes", "LWhistleJunction$Row;", true)
  | 6 => ("WhistleJunction$State", "lies", "LWhistleJunction$Row;", true)
  | 7 => ("WhistleJunction$State", "exposures", "LWhistleJunction$Row;", true)
  | 8 => ("WhistleJunction$State", "delays", "LWhistleJunction$Row;", true)
  | 9 => ("WhistleJunction$State", "sets", "LWhistleJunction$Row;", true)
  | 10 => ("WhistleJunction$State", "echoed", "LWhistleJunction$Row;", true)
  | 11 => ("WhistleJunction$State", "sounds", "LWhistleJunction$Row;", true)
  | 12 => ("WhistleJunction$State", "echoes", "LWhistleJunction$Row;", true)
  | 13 => ("WhistleJunction$State", "hours", "I", false)
  | 14 => ("WhistleJunction$State", "whistles", "I", false)
  | 15 => ("WhistleJunction$State", "waysToEchoes", "I", false)
  | _ => ("WhistleJunction$State", "finesPaid", "I", false)
def tyX5 : Nat → FieldType := fun k => match k with
  | 0 => .object "WhistleJunction$Row"
  | 1 => .object "WhistleJunction$Row"
  | 2 => .object "WhistleJunction$Row"
  | 3 => .object "WhistleJunction$Row"
  | 4 => .object "WhistleJunction$Row"
  | 5 => .object "WhistleJunction$Row"
  | 6 => .object "WhistleJunction$Row"
  | 7 => .object "WhistleJunction$Row"
  | 8 => .object "WhistleJunction$Row"
  | 9 => .object "WhistleJunction$Row"
  | 10 => .object "WhistleJunction$Row"
  | 11 => .object "WhistleJunction$Row"
  | 12 => .object "WhistleJunction$Row"
  | 13 => .int
  | 14 => .int
  | 15 => .int
  | _ => .int
abbrev wsX50 : List Cond := u_ws RX5 TX5 17
theorem nmX5 : ∀ a, a < 17 → ∀ b, b < 17 → a ≠ b → (TX5 a).2.1 ≠ (TX5 b).2.1 := by decide +kernel
theorem tyX5_ok : ∀ k, k < 17 → parseFieldDescriptor (TX5 k).2.2.1 = some (tyX5 k) := by decide +kernel
abbrev cX5_init : ByteArray := prog_7_method_1_code
def yX5_init : MethodName := ⟨RX5, "<init>", "()V"⟩
abbrev cX5_reset : ByteArray := prog_7_method_2_code
def yX5_reset : MethodName := ⟨RX5, "reset", "()V"⟩
abbrev cX5_copyFrom : ByteArray := prog_7_method_3_code
def yX5_copyFrom : MethodName := ⟨RX5, "copyFrom", "(LWhistleJunction$State;)V"⟩
abbrev cX5_giveSign : ByteArray := prog_7_method_4_code
def yX5_giveSign : MethodName := ⟨RX5, "giveSign", "(II)I"⟩
abbrev cX5_takeSign : ByteArray := prog_7_method_5_code
def yX5_takeSign : MethodName := ⟨RX5, "takeSign", "(I)I"⟩
abbrev cX5_givePriority : ByteArray := prog_7_method_6_code
def yX5_givePriority : MethodName := ⟨RX5, "givePriority", "(II)I"⟩
abbrev cX5_tellPlatform : ByteArray := prog_7_method_7_code
def yX5_tellPlatform : MethodName := ⟨RX5, "tellPlatform", "(III)I"⟩
abbrev cX5_blow : ByteArray := prog_7_method_8_code
def yX5_blow : MethodName := ⟨RX5, "blow", "(II)I"⟩
abbrev cX5_steamToBlow : ByteArray := prog_7_method_9_code
def yX5_steamToBlow : MethodName := ⟨RX5, "steamToBlow", "(II)I"⟩
abbrev cX5_exposeLiar : ByteArray := prog_7_method_10_code
def yX5_exposeLiar : MethodName := ⟨RX5, "exposeLiar", "(I)I"⟩
abbrev cX5_silence : ByteArray := prog_7_method_11_code
def yX5_silence : MethodName := ⟨RX5, "silence", "(II)I"⟩
abbrev cX5_fineOf : ByteArray := prog_7_method_12_code
def yX5_fineOf : MethodName := ⟨RX5, "fineOf", "(I)I"⟩
abbrev cX5_payFine : ByteArray := prog_7_method_13_code
def yX5_payFine : MethodName := ⟨RX5, "payFine", "(I)I"⟩
abbrev cX5_endHour : ByteArray := prog_7_method_14_code
def yX5_endHour : MethodName := ⟨RX5, "endHour", "()I"⟩
abbrev cX5_rest : ByteArray := prog_7_method_15_code
def yX5_rest : MethodName := ⟨RX5, "rest", "(I)V"⟩
abbrev cX5_hearEchoes : ByteArray := prog_7_method_16_code
def yX5_hearEchoes : MethodName := ⟨RX5, "hearEchoes", "()V"⟩
abbrev cX5_wayGoesTo : ByteArray := prog_7_method_17_code
def yX5_wayGoesTo : MethodName := ⟨RX5, "wayGoesTo", "()I"⟩
abbrev cX5_numberHeard : ByteArray := prog_7_method_18_code
def yX5_numberHeard : MethodName := ⟨RX5, "numberHeard", "()I"⟩
abbrev cX5_indexOfHeard : ByteArray := prog_7_method_19_code
def yX5_indexOfHeard : MethodName := ⟨RX5, "indexOfHeard", "(I)I"⟩
abbrev cX5_indexOfWhistle : ByteArray := prog_7_method_20_code
def yX5_indexOfWhistle : MethodName := ⟨RX5, "indexOfWhistle", "(I)I"⟩
abbrev cX5_hasWhistled : ByteArray := prog_7_method_21_code
def yX5_hasWhistled : MethodName := ⟨RX5, "hasWhistled", "(I)Z"⟩
abbrev cX5_indexOfLie : ByteArray := prog_7_method_22_code
def yX5_indexOfLie : MethodName := ⟨RX5, "indexOfLie", "(I)I"⟩
abbrev cX5_hoursToWait : ByteArray := prog_7_method_23_code
def yX5_hoursToWait : MethodName := ⟨RX5, "hoursToWait", "(I)I"⟩
abbrev cX5_numberOfLine : ByteArray := prog_7_method_24_code
def yX5_numberOfLine : MethodName := ⟨RX5, "numberOfLine", "(II)I"⟩
abbrev cX5_numberOfPlatform : ByteArray := prog_7_method_25_code
def yX5_numberOfPlatform : MethodName := ⟨RX5, "numberOfPlatform", "(II)I"⟩
abbrev cX5_echoesToCome : ByteArray := prog_7_method_26_code
def yX5_echoesToCome : MethodName := ⟨RX5, "echoesToCome", "(I)I"⟩
abbrev cX5_lettersOnStrip : ByteArray := prog_7_method_27_code
def yX5_lettersOnStrip : MethodName := ⟨RX5, "lettersOnStrip", "()I"⟩
abbrev cX5_accountOf : ByteArray := prog_7_method_28_code
def yX5_accountOf : MethodName := ⟨RX5, "accountOf", "(I)I"⟩
def RX6 : String := "WhistleJunction$Strip"
def TX6 : u_T := fun k => match k with
  | 0 => ("WhistleJunction$Strip", "letters", "LWhistleJunction$Row;", true)
  | _ => ("WhistleJunction$Strip", "counts", "LWhistleJunction$Row;", true)
def tyX6 : Nat → FieldType := fun k => match k with
  | 0 => .object "WhistleJunction$Row"
  | _ => .object "WhistleJunction$Row"
abbrev wsX60 : List Cond := u_ws RX6 TX6 2
theorem nmX6 : ∀ a, a < 2 → ∀ b, b < 2 → a ≠ b → (TX6 a).2.1 ≠ (TX6 b).2.1 := by decide +kernel
theorem tyX6_ok : ∀ k, k < 2 → parseFieldDescriptor (TX6 k).2.2.1 = some (tyX6 k) := by decide +kernel
abbrev cX6_init : ByteArray := prog_8_method_1_code
def yX6_init : MethodName := ⟨RX6, "<init>", "()V"⟩
abbrev cX6_load : ByteArray := prog_8_method_2_code
def yX6_load : MethodName := ⟨RX6, "load", "(LWhistleJunction$Row;)V"⟩
abbrev cX6_waysFromBeginning : ByteArray := prog_8_method_3_code
def yX6_waysFromBeginning : MethodName := ⟨RX6, "waysFromBeginning", "(LWhistleJunction$Row;)I"⟩
abbrev cX6_waysTo : ByteArray := prog_8_method_4_code
def yX6_waysTo : MethodName := ⟨RX6, "waysTo", "(LWhistleJunction$Row;II)I"⟩
abbrev cX6_waysFromEnd : ByteArray := prog_8_method_5_code
def yX6_waysFromEnd : MethodName := ⟨RX6, "waysFromEnd", "(LWhistleJunction$Row;)I"⟩
abbrev cX6_waysFrom : ByteArray := prog_8_method_6_code
def yX6_waysFrom : MethodName := ⟨RX6, "waysFrom", "(LWhistleJunction$Row;II)I"⟩
abbrev cX6_isNext : ByteArray := prog_8_method_7_code
def yX6_isNext : MethodName := ⟨RX6, "isNext", "(III)Z"⟩
abbrev cX6_lineAt : ByteArray := prog_8_method_8_code
def yX6_lineAt : MethodName := ⟨RX6, "lineAt", "(LWhistleJunction$Row;I)I"⟩
abbrev cX6_firstLine : ByteArray := prog_8_method_9_code
def yX6_firstLine : MethodName := ⟨RX6, "firstLine", "(LWhistleJunction$Row;I)I"⟩
def RX7 : String := "WhistleJunction$Word"
def TX7 : u_T := fun k => match k with
  | _ => ("", "", "", false)
def tyX7 : Nat → FieldType := fun k => match k with
  | _ => .int
abbrev wsX70 : List Cond := u_ws RX7 TX7 0
theorem nmX7 : ∀ a, a < 0 → ∀ b, b < 0 → a ≠ b → (TX7 a).2.1 ≠ (TX7 b).2.1 := by decide +kernel
theorem tyX7_ok : ∀ k, k < 0 → parseFieldDescriptor (TX7 k).2.2.1 = some (tyX7 k) := by decide +kernel
abbrev cX7_of : ByteArray := prog_9_method_2_code
def yX7_of : MethodName := ⟨RX7, "of", "(II)I"⟩
abbrev cX7_length : ByteArray := prog_9_method_3_code
def yX7_length : MethodName := ⟨RX7, "length", "(I)I"⟩
abbrev cX7_bits : ByteArray := prog_9_method_4_code
def yX7_bits : MethodName := ⟨RX7, "bits", "(I)I"⟩
abbrev cX7_mask : ByteArray := prog_9_method_5_code
def yX7_mask : MethodName := ⟨RX7, "mask", "(I)I"⟩
abbrev cX7_letter : ByteArray := prog_9_method_6_code
def yX7_letter : MethodName := ⟨RX7, "letter", "(II)I"⟩
abbrev cX7_steam : ByteArray := prog_9_method_7_code
def yX7_steam : MethodName := ⟨RX7, "steam", "(I)I"⟩
abbrev cX7_begins : ByteArray := prog_9_method_8_code
def yX7_begins : MethodName := ⟨RX7, "begins", "(II)Z"⟩
abbrev cX7_cut : ByteArray := prog_9_method_9_code
def yX7_cut : MethodName := ⟨RX7, "cut", "(II)I"⟩
def RX8 : String := "WhistleJunction"
def TX8 : u_T := fun k => match k with
  | 0 => ("WhistleJunction", "now", "LWhistleJunction$State;", true)
  | 1 => ("WhistleJunction", "before", "LWhistleJunction$State;", true)
  | 2 => ("WhistleJunction", "saved", "LWhistleJunction$State;", true)
  | 3 => ("WhistleJunction", "isSaved", "Z", false)
  | 4 => ("WhistleJunction", "history", "LWhistleJunction$History;", true)
  | 5 => ("WhistleJunction", "input", "LWhistleJunction$Input;", true)
  | 6 => ("WhistleJunction", "letters", "LWhistleJunction$Strip;", true)
  | 7 => ("WhistleJunction", "written", "Ljava/lang/StringBuilder;", true)
  | 8 => ("WhistleJunction", "malformedAt", "I", false)
  | 9 => ("WhistleJunction", "refusedOrder", "I", false)
  | 10 => ("WhistleJunction", "refusedFor", "I", false)
  | _ => ("WhistleJunction", "refusedDetail", "I", false)
def tyX8 : Nat → FieldType := fun k => match k with
  | 0 => .object "WhistleJunction$State"
  | 1 => .object "WhistleJunction$State"
  | 2 => .object "WhistleJunction$State"
  | 3 => .boolean
  | 4 => .object "WhistleJunction$History"
  | 5 => .object "WhistleJunction$Input"
  | 6 => .object "WhistleJunction$Strip"
  | 7 => .object "java/lang/StringBuilder"
  | 8 => .int
  | 9 => .int
  | 10 => .int
  | _ => .int
abbrev wsX80 : List Cond := u_ws RX8 TX8 12
theorem nmX8 : ∀ a, a < 12 → ∀ b, b < 12 → a ≠ b → (TX8 a).2.1 ≠ (TX8 b).2.1 := by decide +kernel
theorem tyX8_ok : ∀ k, k < 12 → parseFieldDescriptor (TX8 k).2.2.1 = some (tyX8 k) := by decide +kernel
abbrev cX8_init : ByteArray := prog_1_method_1_code
def yX8_init : MethodName := ⟨RX8, "<init>", "()V"⟩
abbrev cX8_clear : ByteArray := prog_1_method_2_code
def yX8_clear : MethodName := ⟨RX8, "clear", "()I"⟩
abbrev cX8_sign : ByteArray := prog_1_method_3_code
def yX8_sign : MethodName := ⟨RX8, "sign", "(III)I"⟩
abbrev cX8_unsign : ByteArray := prog_1_method_4_code
def yX8_unsign : MethodName := ⟨RX8, "unsign", "(I)I"⟩
abbrev cX8_priority : ByteArray := prog_1_method_5_code
def yX8_priority : MethodName := ⟨RX8, "priority", "(II)I"⟩
abbrev cX8_platform : ByteArray := prog_1_method_6_code
def yX8_platform : MethodName := ⟨RX8, "platform", "(III)I"⟩
abbrev cX8_lineOf : ByteArray := prog_1_method_7_code
def yX8_lineOf : MethodName := ⟨RX8, "lineOf", "(II)I"⟩
abbrev cX8_platformOf : ByteArray := prog_1_method_8_code
def yX8_platformOf : MethodName := ⟨RX8, "platformOf", "(II)I"⟩
abbrev cX8_clash : ByteArray := prog_1_method_9_code
def yX8_clash : MethodName := ⟨RX8, "clash", "(II)I"⟩
abbrev cX8_isClear : ByteArray := prog_1_method_10_code
def yX8_isClear : MethodName := ⟨RX8, "isClear", "()Z"⟩
abbrev cX8_free : ByteArray := prog_1_method_11_code
def yX8_free : MethodName := ⟨RX8, "free", "(IZ)I"⟩
abbrev cX8_whistle : ByteArray := prog_1_method_12_code
def yX8_whistle : MethodName := ⟨RX8, "whistle", "(I)I"⟩
abbrev cX8_lie : ByteArray := prog_1_method_13_code
def yX8_lie : MethodName := ⟨RX8, "lie", "(II)I"⟩
abbrev cX8_expose : ByteArray := prog_1_method_14_code
def yX8_expose : MethodName := ⟨RX8, "expose", "(I)I"⟩
abbrev cX8_mute : ByteArray := prog_1_method_15_code
def yX8_mute : MethodName := ⟨RX8, "mute", "(II)I"⟩
abbrev cX8_fine : ByteArray := prog_1_method_16_code
def yX8_fine : MethodName := ⟨RX8, "fine", "(I)I"⟩
abbrev cX8_hour : ByteArray := prog_1_method_17_code
def yX8_hour : MethodName := ⟨RX8, "hour", "()I"⟩
abbrev cX8_way : ByteArray := prog_1_method_18_code
def yX8_way : MethodName := ⟨RX8, "way", "()I"⟩
abbrev cX8_heard : ByteArray := prog_1_method_19_code
def yX8_heard : MethodName := ⟨RX8, "heard", "(II)I"⟩
abbrev cX8_ways : ByteArray := prog_1_method_20_code
def yX8_ways : MethodName := ⟨RX8, "ways", "(Z)I"⟩
abbrev cX8_reading : ByteArray := prog_1_method_21_code
def yX8_reading : MethodName := ⟨RX8, "reading", "(I)I"⟩
abbrev cX8_soonest : ByteArray := prog_1_method_22_code
def yX8_soonest : MethodName := ⟨RX8, "soonest", "(I)I"⟩
abbrev cX8_ranked : ByteArray := prog_1_method_23_code
def yX8_ranked : MethodName := ⟨RX8, "ranked", "(II)I"⟩
abbrev cX8_isRight : ByteArray := prog_1_method_24_code
def yX8_isRight : MethodName := ⟨RX8, "isRight", "()Z"⟩
abbrev cX8_text : ByteArray := prog_1_method_25_code
def yX8_text : MethodName := ⟨RX8, "text", "(I)I"⟩
abbrev cX8_strip : ByteArray := prog_1_method_26_code
def yX8_strip : MethodName := ⟨RX8, "strip", "()I"⟩
abbrev cX8_character : ByteArray := prog_1_method_27_code
def yX8_character : MethodName := ⟨RX8, "character", "(I)C"⟩
abbrev cX8_refusal : ByteArray := prog_1_method_28_code
def yX8_refusal : MethodName := ⟨RX8, "refusal", "(Z)I"⟩
abbrev cX8_account : ByteArray := prog_1_method_29_code
def yX8_account : MethodName := ⟨RX8, "account", "(I)I"⟩
abbrev cX8_meanLength : ByteArray := prog_1_method_30_code
def yX8_meanLength : MethodName := ⟨RX8, "meanLength", "()D"⟩
abbrev cX8_lieShare : ByteArray := prog_1_method_31_code
def yX8_lieShare : MethodName := ⟨RX8, "lieShare", "()F"⟩
abbrev cX8_append : ByteArray := prog_1_method_32_code
def yX8_append : MethodName := ⟨RX8, "append", "(I)I"⟩
abbrev cX8_read : ByteArray := prog_1_method_33_code
def yX8_read : MethodName := ⟨RX8, "read", "()I"⟩
abbrev cX8_errorPosition : ByteArray := prog_1_method_34_code
def yX8_errorPosition : MethodName := ⟨RX8, "errorPosition", "()I"⟩
abbrev cX8_refusedItem : ByteArray := prog_1_method_35_code
def yX8_refusedItem : MethodName := ⟨RX8, "refusedItem", "()I"⟩
abbrev cX8_undo : ByteArray := prog_1_method_36_code
def yX8_undo : MethodName := ⟨RX8, "undo", "()I"⟩
abbrev cX8_snapshot : ByteArray := prog_1_method_37_code
def yX8_snapshot : MethodName := ⟨RX8, "snapshot", "()I"⟩
abbrev cX8_restore : ByteArray := prog_1_method_38_code
def yX8_restore : MethodName := ⟨RX8, "restore", "()I"⟩
abbrev cX8_startChange : ByteArray := prog_1_method_39_code
def yX8_startChange : MethodName := ⟨RX8, "startChange", "(I)V"⟩
abbrev cX8_refuse : ByteArray := prog_1_method_40_code
def yX8_refuse : MethodName := ⟨RX8, "refuse", "(II)I"⟩
abbrev cX8_faultOfSign : ByteArray := prog_1_method_41_code
def yX8_faultOfSign : MethodName := ⟨RX8, "faultOfSign", "(III)I"⟩
abbrev cX8_faultOfUnsign : ByteArray := prog_1_method_42_code
def yX8_faultOfUnsign : MethodName := ⟨RX8, "faultOfUnsign", "(I)I"⟩
abbrev cX8_faultOfPriority : ByteArray := prog_1_method_43_code
def yX8_faultOfPriority : MethodName := ⟨RX8, "faultOfPriority", "(II)I"⟩
abbrev cX8_faultOfPlatform : ByteArray := prog_1_method_44_code
def yX8_faultOfPlatform : MethodName := ⟨RX8, "faultOfPlatform", "(III)I"⟩
abbrev cX8_faultOfWhistle : ByteArray := prog_1_method_45_code
def yX8_faultOfWhistle : MethodName := ⟨RX8, "faultOfWhistle", "(I)I"⟩
abbrev cX8_faultOfLie : ByteArray := prog_1_method_46_code
def yX8_faultOfLie : MethodName := ⟨RX8, "faultOfLie", "(II)I"⟩
abbrev cX8_faultOfBlow : ByteArray := prog_1_method_47_code
def yX8_faultOfBlow : MethodName := ⟨RX8, "faultOfBlow", "(II)I"⟩
abbrev cX8_faultOfExpose : ByteArray := prog_1_method_48_code
def yX8_faultOfExpose : MethodName := ⟨RX8, "faultOfExpose", "(I)I"⟩
abbrev cX8_faultOfMute : ByteArray := prog_1_method_49_code
def yX8_faultOfMute : MethodName := ⟨RX8, "faultOfMute", "(II)I"⟩
abbrev cX8_faultOfFine : ByteArray := prog_1_method_50_code
def yX8_faultOfFine : MethodName := ⟨RX8, "faultOfFine", "(I)I"⟩
abbrev cX8_faultOfNoSign : ByteArray := prog_1_method_51_code
def yX8_faultOfNoSign : MethodName := ⟨RX8, "faultOfNoSign", "(I)I"⟩
abbrev cX8_faultOfMuted : ByteArray := prog_1_method_52_code
def yX8_faultOfMuted : MethodName := ⟨RX8, "faultOfMuted", "(I)I"⟩
abbrev cX8_faultOfOrder : ByteArray := prog_1_method_53_code
def yX8_faultOfOrder : MethodName := ⟨RX8, "faultOfOrder", "(I)I"⟩
abbrev cX8_carryOut : ByteArray := prog_1_method_54_code
def yX8_carryOut : MethodName := ⟨RX8, "carryOut", "(I)V"⟩
abbrev cX8_isLine : ByteArray := prog_1_method_55_code
def yX8_isLine : MethodName := ⟨RX8, "isLine", "(I)Z"⟩
abbrev cX8_isPlatform : ByteArray := prog_1_method_56_code
def yX8_isPlatform : MethodName := ⟨RX8, "isPlatform", "(I)Z"⟩
abbrev cX8_isLength : ByteArray := prog_1_method_57_code
def yX8_isLength : MethodName := ⟨RX8, "isLength", "(I)Z"⟩
abbrev cX8_lineRanked : ByteArray := prog_1_method_58_code
def yX8_lineRanked : MethodName := ⟨RX8, "lineRanked", "(LWhistleJunction$Row;I)I"⟩
abbrev cX8_numberAhead : ByteArray := prog_1_method_59_code
def yX8_numberAhead : MethodName := ⟨RX8, "numberAhead", "(LWhistleJunction$Row;I)I"⟩
abbrev cX8_areFreeWordsRight : ByteArray := prog_1_method_60_code
def yX8_areFreeWordsRight : MethodName := ⟨RX8, "areFreeWordsRight", "()Z"⟩
abbrev cX8_writeLine : ByteArray := prog_1_method_61_code
def yX8_writeLine : MethodName := ⟨RX8, "writeLine", "(I)V"⟩
abbrev cX8_writeWord : ByteArray := prog_1_method_62_code
def yX8_writeWord : MethodName := ⟨RX8, "writeWord", "(I)V"⟩
def RX9 : String := "WhistleJunctionModel"
def TX9 : u_T := fun k => match k with
  | 0 => ("WhistleJunctionModel", "now", "[I", true)
  | 1 => ("WhistleJunctionModel", "before", "[I", true)
  | 2 => ("WhistleJunctionModel", "saved", "[I", true)
  | 3 => ("WhistleJunctionModel", "changes", "[I", true)
  | 4 => ("WhistleJunctionModel", "thrown", "I", false)
  | 5 => ("WhistleJunctionModel", "changed", "I", false)
  | 6 => ("WhistleJunctionModel", "why", "I", false)
  | 7 => ("WhistleJunctionModel", "number", "I", false)
  | 8 => ("WhistleJunctionModel", "reason", "I", false)
  | 9 => ("WhistleJunctionModel", "detail", "I", false)
  | 10 => ("WhistleJunctionModel", "wrongAt", "I", false)
  | 11 => ("WhistleJunctionModel", "item", "I", false)
  | 12 => ("WhistleJunctionModel", "isSaved", "Z", false)
  | 13 => ("WhistleJunctionModel", "letters", "[I", true)
  | 14 => ("WhistleJunctionModel", "readings", "[I", true)
  | 15 => ("WhistleJunctionModel", "lettersMany", "I", false)
  | 16 => ("WhistleJunctionModel", "text", "[I", true)
  | 17 => ("WhistleJunctionModel", "textLong", "I", false)
  | 18 => ("WhistleJunctionModel", "input", "[I", true)
  | 19 => ("WhistleJunctionModel", "kinds", "[I", true)
  | 20 => ("WhistleJunctionModel", "numbers", "[I", true)
  | 21 => ("WhistleJunctionModel", "fed", "I", false)
  | 22 => ("WhistleJunctionModel", "inputLong", "I", false)
  | 23 => ("WhistleJunctionModel", "spot", "I", false)
  | 24 => ("WhistleJunctionModel", "read", "I", false)
  | 25 => ("WhistleJunctionModel", "isWrong", "Z", false)
  | _ => ("WhistleJunctionModel", "isElse", "Z", false)
def tyX9 : Nat → FieldType := fun k => match k with
  | 0 => .array .int
  | 1 => .array .int
  | 2 => .array .int
  | 3 => .array .int
  | 4 => .int
  | 5 => .int
  | 6 => .int
  | 7 => .int
  | 8 => .int
  | 9 => .int
  | 10 => .int
  | 11 => .int
  | 12 => .boolean
  | 13 => .array .int
  | 14 => .array .int
  | 15 => .int
  | 16 => .array .int
  | 17 => .int
  | 18 => .array .int
  | 19 => .array .int
  | 20 => .array .int
  | 21 => .int
  | 22 => .int
  | 23 => .int
  | 24 => .int
  | 25 => .boolean
  | _ => .boolean
abbrev wsX90 : List Cond := u_ws RX9 TX9 27
theorem nmX9 : ∀ a, a < 27 → ∀ b, b < 27 → a ≠ b → (TX9 a).2.1 ≠ (TX9 b).2.1 := by decide +kernel
theorem tyX9_ok : ∀ k, k < 27 → parseFieldDescriptor (TX9 k).2.2.1 = some (tyX9 k) := by decide +kernel
abbrev cX9_init : ByteArray := prog_11_method_1_code
def yX9_init : MethodName := ⟨RX9, "<init>", "()V"⟩
abbrev cX9_thrown : ByteArray := prog_11_method_2_code
def yX9_thrown : MethodName := ⟨RX9, "thrown", "()I"⟩
abbrev cX9_in : ByteArray := prog_11_method_3_code
def yX9_in : MethodName := ⟨RX9, "in", "(III)Z"⟩
abbrev cX9_copies : ByteArray := prog_11_method_4_code
def yX9_copies : MethodName := ⟨RX9, "copies", "([II[II)V"⟩
abbrev cX9_no : ByteArray := prog_11_method_5_code
def yX9_no : MethodName := ⟨RX9, "no", "(I)I"⟩
abbrev cX9_isBad : ByteArray := prog_11_method_6_code
def yX9_isBad : MethodName := ⟨RX9, "isBad", "(II)Z"⟩
abbrev cX9_refused : ByteArray := prog_11_method_7_code
def yX9_refused : MethodName := ⟨RX9, "refused", "(I)I"⟩
abbrev cX9_begins : ByteArray := prog_11_method_8_code
def yX9_begins : MethodName := ⟨RX9, "begins", "()V"⟩
abbrev cX9_keeps : ByteArray := prog_11_method_9_code
def yX9_keeps : MethodName := ⟨RX9, "keeps", "(I)I"⟩
abbrev cX9_lv : ByteArray := prog_11_method_10_code
def yX9_lv : MethodName := ⟨RX9, "lv", "(II)I"⟩
abbrev cX9_ll : ByteArray := prog_11_method_11_code
def yX9_ll : MethodName := ⟨RX9, "ll", "(III)V"⟩
abbrev cX9_pv : ByteArray := prog_11_method_12_code
def yX9_pv : MethodName := ⟨RX9, "pv", "(II)I"⟩
abbrev cX9_clears : ByteArray := prog_11_method_13_code
def yX9_clears : MethodName := ⟨RX9, "clears", "()V"⟩
abbrev cX9_signs : ByteArray := prog_11_method_14_code
def yX9_signs : MethodName := ⟨RX9, "signs", "()I"⟩
abbrev cX9_clear : ByteArray := prog_11_method_15_code
def yX9_clear : MethodName := ⟨RX9, "clear", "()I"⟩
abbrev cX9_isLine : ByteArray := prog_11_method_16_code
def yX9_isLine : MethodName := ⟨RX9, "isLine", "(I)Z"⟩
abbrev cX9_isWord : ByteArray := prog_11_method_17_code
def yX9_isWord : MethodName := ⟨RX9, "isWord", "(II)Z"⟩
abbrev cX9_steamOf : ByteArray := prog_11_method_18_code
def yX9_steamOf : MethodName := ⟨RX9, "steamOf", "(II)I"⟩
abbrev cX9_itsSteam : ByteArray := prog_11_method_19_code
def yX9_itsSteam : MethodName := ⟨RX9, "itsSteam", "(I)I"⟩
abbrev cX9_isRefusedSign : ByteArray := prog_11_method_20_code
def yX9_isRefusedSign : MethodName := ⟨RX9, "isRefusedSign", "(II)Z"⟩
abbrev cX9_tells : ByteArray := prog_11_method_21_code
def yX9_tells : MethodName := ⟨RX9, "tells", "(III)I"⟩
abbrev cX9_sign : ByteArray := prog_11_method_22_code
def yX9_sign : MethodName := ⟨RX9, "sign", "(III)I"⟩
abbrev cX9_hasNoSign : ByteArray := prog_11_method_23_code
def yX9_hasNoSign : MethodName := ⟨RX9, "hasNoSign", "(I)Z"⟩
abbrev cX9_unsigns : ByteArray := prog_11_method_24_code
def yX9_unsigns : MethodName := ⟨RX9, "unsigns", "(I)I"⟩
abbrev cX9_unsign : ByteArray := prog_11_method_25_code
def yX9_unsign : MethodName := ⟨RX9, "unsign", "(I)I"⟩
abbrev cX9_isPriority : ByteArray := prog_11_method_26_code
def yX9_isPriority : MethodName := ⟨RX9, "isPriority", "(I)Z"⟩
abbrev cX9_isRefusedPriority : ByteArray := prog_11_method_27_code
def yX9_isRefusedPriority : MethodName := ⟨RX9, "isRefusedPriority", "(II)Z"⟩
abbrev cX9_orders : ByteArray := prog_11_method_28_code
def yX9_orders : MethodName := ⟨RX9, "orders", "(II)I"⟩
abbrev cX9_priority : ByteArray := prog_11_method_29_code
def yX9_priority : MethodName := ⟨RX9, "priority", "(II)I"⟩
abbrev cX9_isPlatform : ByteArray := prog_11_method_30_code
def yX9_isPlatform : MethodName := ⟨RX9, "isPlatform", "(I)Z"⟩
abbrev cX9_lays : ByteArray := prog_11_method_31_code
def yX9_lays : MethodName := ⟨RX9, "lays", "(III)I"⟩
abbrev cX9_platform : ByteArray := prog_11_method_32_code
def yX9_platform : MethodName := ⟨RX9, "platform", "(III)I"⟩
abbrev cX9_sound : ByteArray := prog_11_method_33_code
def yX9_sound : MethodName := ⟨RX9, "sound", "(IIIII)I"⟩
abbrev cX9_bitsIn : ByteArray := prog_11_method_34_code
def yX9_bitsIn : MethodName := ⟨RX9, "bitsIn", "(I)I"⟩
abbrev cX9_lengthIn : ByteArray := prog_11_method_35_code
def yX9_lengthIn : MethodName := ⟨RX9, "lengthIn", "(I)I"⟩
abbrev cX9_platformIn : ByteArray := prog_11_method_36_code
def yX9_platformIn : MethodName := ⟨RX9, "platformIn", "(I)I"⟩
abbrev cX9_byIn : ByteArray := prog_11_method_37_code
def yX9_byIn : MethodName := ⟨RX9, "byIn", "(I)I"⟩
abbrev cX9_toldIn : ByteArray := prog_11_method_38_code
def yX9_toldIn : MethodName := ⟨RX9, "toldIn", "(I)I"⟩
abbrev cX9_sounds : ByteArray := prog_11_method_39_code
def yX9_sounds : MethodName := ⟨RX9, "sounds", "(I)V"⟩
abbrev cX9_sings : ByteArray := prog_11_method_40_code
def yX9_sings : MethodName := ⟨RX9, "sings", "(III)I"⟩
abbrev cX9_isHushed : ByteArray := prog_11_method_41_code
def yX9_isHushed : MethodName := ⟨RX9, "isHushed", "(III)Z"⟩
abbrev cX9_whistles : ByteArray := prog_11_method_42_code
def yX9_whistles : MethodName := ⟨RX9, "whistles", "(I)I"⟩
abbrev cX9_whistle : ByteArray := prog_11_method_43_code
def yX9_whistle : MethodName := ⟨RX9, "whistle", "(I)I"⟩
abbrev cX9_lies : ByteArray := prog_11_method_44_code
def yX9_lies : MethodName := ⟨RX9, "lies", "(II)I"⟩
abbrev cX9_lie : ByteArray := prog_11_method_45_code
def yX9_lie : MethodName := ⟨RX9, "lie", "(II)I"⟩
abbrev cX9_isRefusedExpose : ByteArray := prog_11_method_46_code
def yX9_isRefusedExpose : MethodName := ⟨RX9, "isRefusedExpose", "(I)Z"⟩
abbrev cX9_exposes : ByteArray := prog_11_method_47_code
def yX9_exposes : MethodName := ⟨RX9, "exposes", "(I)I"⟩
abbrev cX9_expose : ByteArray := prog_11_method_48_code
def yX9_expose : MethodName := ⟨RX9, "expose", "(I)I"⟩
abbrev cX9_mutedMany : ByteArray := prog_11_method_49_code
def yX9_mutedMany : MethodName := ⟨RX9, "mutedMany", "()I"⟩
abbrev cX9_areHours : ByteArray := prog_11_method_50_code
def yX9_areHours : MethodName := ⟨RX9, "areHours", "(I)Z"⟩
abbrev cX9_isRefusedMute : ByteArray := prog_11_method_51_code
def yX9_isRefusedMute : MethodName := ⟨RX9, "isRefusedMute", "(I)Z"⟩
abbrev cX9_mutes : ByteArray := prog_11_method_52_code
def yX9_mutes : MethodName := ⟨RX9, "mutes", "(II)I"⟩
abbrev cX9_mute : ByteArray := prog_11_method_53_code
def yX9_mute : MethodName := ⟨RX9, "mute", "(II)I"⟩
abbrev cX9_isRefusedFine : ByteArray := prog_11_method_54_code
def yX9_isRefusedFine : MethodName := ⟨RX9, "isRefusedFine", "(I)Z"⟩
abbrev cX9_pays : ByteArray := prog_11_method_55_code
def yX9_pays : MethodName := ⟨RX9, "pays", "(I)I"⟩
abbrev cX9_fine : ByteArray := prog_11_method_56_code
def yX9_fine : MethodName := ⟨RX9, "fine", "(I)I"⟩
abbrev cX9_wayAt : ByteArray := prog_11_method_57_code
def yX9_wayAt : MethodName := ⟨RX9, "wayAt", "()I"⟩
abbrev cX9_wayOf : ByteArray := prog_11_method_58_code
def yX9_wayOf : MethodName := ⟨RX9, "wayOf", "(I)I"⟩
abbrev cX9_hears : ByteArray := prog_11_method_59_code
def yX9_hears : MethodName := ⟨RX9, "hears", "()V"⟩
abbrev cX9_goesBy : ByteArray := prog_11_method_60_code
def yX9_goesBy : MethodName := ⟨RX9, "goesBy", "()I"⟩
abbrev cX9_hour : ByteArray := prog_11_method_61_code
def yX9_hour : MethodName := ⟨RX9, "hour", "()I"⟩
abbrev cX9_way : ByteArray := prog_11_method_62_code
def yX9_way : MethodName := ⟨RX9, "way", "()I"⟩
abbrev cX9_heard : ByteArray := prog_11_method_63_code
def yX9_heard : MethodName := ⟨RX9, "heard", "(II)I"⟩
abbrev cX9_lineOf : ByteArray := prog_11_method_64_code
def yX9_lineOf : MethodName := ⟨RX9, "lineOf", "(II)I"⟩
abbrev cX9_comingTo : ByteArray := prog_11_method_65_code
def yX9_comingTo : MethodName := ⟨RX9, "comingTo", "(I)I"⟩
abbrev cX9_platformOf : ByteArray := prog_11_method_66_code
def yX9_platformOf : MethodName := ⟨RX9, "platformOf", "(II)I"⟩
abbrev cX9_starts : ByteArray := prog_11_method_67_code
def yX9_starts : MethodName := ⟨RX9, "starts", "(IIII)Z"⟩
abbrev cX9_startsThat : ByteArray := prog_11_method_68_code
def yX9_startsThat : MethodName := ⟨RX9, "startsThat", "(II)Z"⟩
abbrev cX9_clash : ByteArray := prog_11_method_69_code
def yX9_clash : MethodName := ⟨RX9, "clash", "(II)I"⟩
abbrev cX9_isClear : ByteArray := prog_11_method_70_code
def yX9_isClear : MethodName := ⟨RX9, "isClear", "()Z"⟩
abbrev cX9_isFree : ByteArray := prog_11_method_71_code
def yX9_isFree : MethodName := ⟨RX9, "isFree", "(II)Z"⟩
abbrev cX9_free : ByteArray := prog_11_method_72_code
def yX9_free : MethodName := ⟨RX9, "free", "(IZ)I"⟩
abbrev cX9_laysLetters : ByteArray := prog_11_method_73_code
def yX9_laysLetters : MethodName := ⟨RX9, "laysLetters", "()V"⟩
abbrev cX9_stands : ByteArray := prog_11_method_74_code
def yX9_stands : MethodName := ⟨RX9, "stands", "(II)Z"⟩
abbrev cX9_laysReadings : ByteArray := prog_11_method_75_code
def yX9_laysReadings : MethodName := ⟨RX9, "laysReadings", "()I"⟩
abbrev cX9_ways : ByteArray := prog_11_method_76_code
def yX9_ways : MethodName := ⟨RX9, "ways", "(Z)I"⟩
abbrev cX9_readAt : ByteArray := prog_11_method_77_code
def yX9_readAt : MethodName := ⟨RX9, "readAt", "(I)I"⟩
abbrev cX9_reading : ByteArray := prog_11_method_78_code
def yX9_reading : MethodName := ⟨RX9, "reading", "(I)I"⟩
abbrev cX9_soonest : ByteArray := prog_11_method_79_code
def yX9_soonest : MethodName := ⟨RX9, "soonest", "(I)I"⟩
abbrev cX9_measured : ByteArray := prog_11_method_80_code
def yX9_measured : MethodName := ⟨RX9, "measured", "(II)I"⟩
abbrev cX9_ranked : ByteArray := prog_11_method_81_code
def yX9_ranked : MethodName := ⟨RX9, "ranked", "(II)I"⟩
abbrev cX9_isRight : ByteArray := prog_11_method_82_code
def yX9_isRight : MethodName := ⟨RX9, "isRight", "()Z"⟩
abbrev cX9_writes : ByteArray := prog_11_method_83_code
def yX9_writes : MethodName := ⟨RX9, "writes", "(I)V"⟩
abbrev cX9_writesNumber : ByteArray := prog_11_method_84_code
def yX9_writesNumber : MethodName := ⟨RX9, "writesNumber", "(I)V"⟩
abbrev cX9_text : ByteArray := prog_11_method_85_code
def yX9_text : MethodName := ⟨RX9, "text", "(I)I"⟩
abbrev cX9_strip : ByteArray := prog_11_method_86_code
def yX9_strip : MethodName := ⟨RX9, "strip", "()I"⟩
abbrev cX9_character : ByteArray := prog_11_method_87_code
def yX9_character : MethodName := ⟨RX9, "character", "(I)C"⟩
abbrev cX9_refusal : ByteArray := prog_11_method_88_code
def yX9_refusal : MethodName := ⟨RX9, "refusal", "(Z)I"⟩
abbrev cX9_sumOf : ByteArray := prog_11_method_89_code
def yX9_sumOf : MethodName := ⟨RX9, "sumOf", "(I)I"⟩
abbrev cX9_lettersOnStrip : ByteArray := prog_11_method_90_code
def yX9_lettersOnStrip : MethodName := ⟨RX9, "lettersOnStrip", "()I"⟩
abbrev cX9_account : ByteArray := prog_11_method_91_code
def yX9_account : MethodName := ⟨RX9, "account", "(I)I"⟩
abbrev cX9_meanLength : ByteArray := prog_11_method_92_code
def yX9_meanLength : MethodName := ⟨RX9, "meanLength", "()D"⟩
abbrev cX9_lieShare : ByteArray := prog_11_method_93_code
def yX9_lieShare : MethodName := ⟨RX9, "lieShare", "()F"⟩
abbrev cX9_append : ByteArray := prog_11_method_94_code
def yX9_append : MethodName := ⟨RX9, "append", "(I)I"⟩
abbrev cX9_mark : ByteArray := prog_11_method_95_code
def yX9_mark : MethodName := ⟨RX9, "mark", "()I"⟩
abbrev cX9_takes : ByteArray := prog_11_method_96_code
def yX9_takes : MethodName := ⟨RX9, "takes", "(I)V"⟩
abbrev cX9_takesDigit : ByteArray := prog_11_method_97_code
def yX9_takesDigit : MethodName := ⟨RX9, "takesDigit", "(I)V"⟩
abbrev cX9_isLetter : ByteArray := prog_11_method_98_code
def yX9_isLetter : MethodName := ⟨RX9, "isLetter", "()Z"⟩
abbrev cX9_takesWord : ByteArray := prog_11_method_99_code
def yX9_takesWord : MethodName := ⟨RX9, "takesWord", "()V"⟩
abbrev cX9_order : ByteArray := prog_11_method_100_code
def yX9_order : MethodName := ⟨RX9, "order", "()V"⟩
abbrev cX9_reads : ByteArray := prog_11_method_101_code
def yX9_reads : MethodName := ⟨RX9, "reads", "()V"⟩
abbrev cX9_isNot : ByteArray := prog_11_method_102_code
def yX9_isNot : MethodName := ⟨RX9, "isNot", "(Z)Z"⟩
abbrev cX9_cannot : ByteArray := prog_11_method_103_code
def yX9_cannot : MethodName := ⟨RX9, "cannot", "(I)Z"⟩
abbrev cX9_read : ByteArray := prog_11_method_104_code
def yX9_read : MethodName := ⟨RX9, "read", "()I"⟩
abbrev cX9_errorPosition : ByteArray := prog_11_method_105_code
def yX9_errorPosition : MethodName := ⟨RX9, "errorPosition", "()I"⟩
abbrev cX9_refusedItem : ByteArray := prog_11_method_106_code
def yX9_refusedItem : MethodName := ⟨RX9, "refusedItem", "()I"⟩
abbrev cX9_undo : ByteArray := prog_11_method_107_code
def yX9_undo : MethodName := ⟨RX9, "undo", "()I"⟩
abbrev cX9_snapshot : ByteArray := prog_11_method_108_code
def yX9_snapshot : MethodName := ⟨RX9, "snapshot", "()I"⟩
abbrev cX9_restore : ByteArray := prog_11_method_109_code
def yX9_restore : MethodName := ⟨RX9, "restore", "()I"⟩
def RJx145de : String := "java/io/Serializable"
def TJx145de : u_T := fun k => match k with
  | _ => ("", "", "", false)
def tyJx145de : Nat → FieldType := fun k => match k with
  | _ => .int
abbrev wsJx145de0 : List Cond := u_ws RJx145de TJx145de 0
theorem nmJx145de : ∀ a, a < 0 → ∀ b, b < 0 → a ≠ b → (TJx145de a).2.1 ≠ (TJx145de b).2.1 := by decide +kernel
theorem tyJx145de_ok : ∀ k, k < 0 → parseFieldDescriptor (TJx145de k).2.2.1 = some (tyJx145de k) := by decide +kernel
def RJ5 : String := "java/lang/AbstractStringBuilder"
def TJ5 : u_T := fun k => match k with
  | _ => ("", "", "", false)
def tyJ5 : Nat → FieldType := fun k => match k with
  | _ => .int
abbrev wsJ50 : List Cond := u_ws RJ5 TJ5 0
theorem nmJ5 : ∀ a, a < 0 → ∀ b, b < 0 → a ≠ b → (TJ5 a).2.1 ≠ (TJ5 b).2.1 := by decide +kernel
theorem tyJ5_ok : ∀ k, k < 0 → parseFieldDescriptor (TJ5 k).2.2.1 = some (tyJ5 k) := by decide +kernel
abbrev cJ5_init_d00df : ByteArray := prog_13_method_2_code
def yJ5_init_d00df : MethodName := ⟨RJ5, "<init>", "(I)V"⟩
abbrev cJ5_length_8abf5 : ByteArray := prog_13_method_6_code
def yJ5_length_8abf5 : MethodName := ⟨RJ5, "length", "()I"⟩
abbrev cJ5_ensureCapacityInternal_d00df : ByteArray := prog_13_method_9_code
def yJ5_ensureCapacityInternal_d00df : MethodName := ⟨RJ5, "ensureCapacityInternal", "(I)V"⟩
abbrev cJ5_newCapacity_0f7a4 : ByteArray := prog_13_method_10_code
def yJ5_newCapacity_0f7a4 : MethodName := ⟨RJ5, "newCapacity", "(I)I"⟩
abbrev cJ5_inflate_da8c8 : ByteArray := prog_13_method_11_code
def yJ5_inflate_da8c8 : MethodName := ⟨RJ5, "inflate", "()V"⟩
abbrev cJ5_setLength_d00df : ByteArray := prog_13_method_13_code
def yJ5_setLength_d00df : MethodName := ⟨RJ5, "setLength", "(I)V"⟩
abbrev cJ5_charAt_5068e : ByteArray := prog_13_method_14_code
def yJ5_charAt_5068e : MethodName := ⟨RJ5, "charAt", "(I)C"⟩
abbrev cJ5_append_cf1ce : ByteArray := prog_13_method_22_code
def yJ5_append_cf1ce : MethodName := ⟨RJ5, "append", "(Ljava/lang/String;)Ljava/lang/AbstractStringBuilder;"⟩
abbrev cJ5_appendNull_278bc : ByteArray := prog_13_method_26_code
def yJ5_appendNull_278bc : MethodName := ⟨RJ5, "appendNull", "()Ljava/lang/AbstractStringBuilder;"⟩
abbrev cJ5_append_3fe6f : ByteArray := prog_13_method_31_code
def yJ5_append_3fe6f : MethodName := ⟨RJ5, "append", "(C)Ljava/lang/AbstractStringBuilder;"⟩
abbrev cJ5_append_c97b9 : ByteArray := prog_13_method_32_code
def yJ5_append_c97b9 : MethodName := ⟨RJ5, "append", "(I)Ljava/lang/AbstractStringBuilder;"⟩
abbrev cJ5_getValue_6d5f1 : ByteArray := prog_13_method_64_code
def yJ5_getValue_6d5f1 : MethodName := ⟨RJ5, "getValue", "()[B"⟩
abbrev cJ5_isLatin1_aae02 : ByteArray := prog_13_method_68_code
def yJ5_isLatin1_aae02 : MethodName := ⟨RJ5, "isLatin1", "()Z"⟩
abbrev cJ5_inflateIfNeededFor_a7421 : ByteArray := prog_13_method_71_code
def yJ5_inflateIfNeededFor_a7421 : MethodName := ⟨RJ5, "inflateIfNeededFor", "(Ljava/lang/String;)V"⟩
abbrev cJ5_putStringAt_47b60 : ByteArray := prog_13_method_73_code
def yJ5_putStringAt_47b60 : MethodName := ⟨RJ5, "putStringAt", "(ILjava/lang/String;)V"⟩
def RJx2cfe8 : String := "java/lang/Appendable"
def TJx2cfe8 : u_T := fun k => match k with
  | _ => ("", "", "", false)
def tyJx2cfe8 : Nat → FieldType := fun k => match k with
  | _ => .int
abbrev wsJx2cfe80 : List Cond := u_ws RJx2cfe8 TJx2cfe8 0
theorem nmJx2cfe8 : ∀ a, a < 0 → ∀ b, b < 0 → a ≠ b → (TJx2cfe8 a).2.1 ≠ (TJx2cfe8 b).2.1 := by decide +kernel
theorem tyJx2cfe8_ok : ∀ k, k < 0 → parseFieldDescriptor (TJx2cfe8 k).2.2.1 = some (tyJx2cfe8 k) := by decide +kernel
def RJx00060 : String := "java/lang/ArrayIndexOutOfBoundsException"
def TJx00060 : u_T := fun k => match k with
  | 0 => ("java/lang/Throwable", "cause", "Ljava/lang/Throwable;", false)
  | 1 => ("java/lang/Throwable", "stackTrace", "[Ljava/lang/StackTraceElement;", false)
  | 2 => ("java/lang/Throwable", "suppressedExceptions", "Ljava/util/List;", false)
  | 3 => ("java/lang/Throwable", "detailMessage", "Ljava/lang/String;", false)
  | 4 => ("java/lang/Throwable", "backtrace", "Ljava/lang/Object;", false)
  | _ => ("java/lang/Throwable", "depth", "I", false)
def tyJx00060 : Nat → FieldType := fun k => match k with
  | 0 => .object "java/lang/Throwable"
  | 1 => .array (.object "java/lang/StackTraceElement")
  | 2 => .object "java/util/List"
  | 3 => .object "java/lang/String"
  | 4 => .object "java/lang/Object"
  | _ => .int
abbrev wsJx000600 : List Cond := u_ws RJx00060 TJx00060 6
theorem nmJx00060 : ∀ a, a < 6 → ∀ b, b < 6 → a ≠ b → (TJx00060 a).2.1 ≠ (TJx00060 b).2.1 := by decide +kernel
theorem tyJx00060_ok : ∀ k, k < 6 → parseFieldDescriptor (TJx00060 k).2.2.1 = some (tyJx00060 k) := by decide +kernel
abbrev cJx00060_init_a7421 : ByteArray := prog_16_method_2_code
def yJx00060_init_a7421 : MethodName := ⟨RJx00060, "<init>", "(Ljava/lang/String;)V"⟩
abbrev cJx00060_init_d00df : ByteArray := prog_16_method_3_code
def yJx00060_init_d00df : MethodName := ⟨RJx00060, "<init>", "(I)V"⟩
def RJx9f9b0 : String := "java/lang/CharSequence"
def TJx9f9b0 : u_T := fun k => match k with
  | _ => ("", "", "", false)
def tyJx9f9b0 : Nat → FieldType := fun k => match k with
  | _ => .int
abbrev wsJx9f9b00 : List Cond := u_ws RJx9f9b0 TJx9f9b0 0
theorem nmJx9f9b0 : ∀ a, a < 0 → ∀ b, b < 0 → a ≠ b → (TJx9f9b0 a).2.1 ≠ (TJx9f9b0 b).2.1 := by decide +kernel
theorem tyJx9f9b0_ok : ∀ k, k < 0 → parseFieldDescriptor (TJx9f9b0 k).2.2.1 = some (tyJx9f9b0 k) := by decide +kernel
def RJx8e188 : String := "java/lang/Cloneable"
def TJx8e188 : u_T := fun k => match k with
  | _ => ("", "", "", false)
def tyJx8e188 : Nat → FieldType := fun k => match k with
  | _ => .int
abbrev wsJx8e1880 : List Cond := u_ws RJx8e188 TJx8e188 0
theorem nmJx8e188 : ∀ a, a < 0 → ∀ b, b < 0 → a ≠ b → (TJx8e188 a).2.1 ≠ (TJx8e188 b).2.1 := by decide +kernel
theorem tyJx8e188_ok : ∀ k, k < 0 → parseFieldDescriptor (TJx8e188 k).2.2.1 = some (tyJx8e188 k) := by decide +kernel
def RJxb160c : String := "java/lang/Comparable"
def TJxb160c : u_T := fun k => match k with
  | _ => ("", "", "", false)
def tyJxb160c : Nat → FieldType := fun k => match k with
  | _ => .int
abbrev wsJxb160c0 : List Cond := u_ws RJxb160c TJxb160c 0
theorem nmJxb160c : ∀ a, a < 0 → ∀ b, b < 0 → a ≠ b → (TJxb160c a).2.1 ≠ (TJxb160c b).2.1 := by decide +kernel
theorem tyJxb160c_ok : ∀ k, k < 0 → parseFieldDescriptor (TJxb160c k).2.2.1 = some (tyJxb160c k) := by decide +kernel
def RJ6 : String := "java/lang/Integer"
def TJ6 : u_T := fun k => match k with
  | _ => ("", "", "", false)
def tyJ6 : Nat → FieldType := fun k => match k with
  | _ => .int
abbrev wsJ60 : List Cond := u_ws RJ6 TJ6 0
theorem nmJ6 : ∀ a, a < 0 → ∀ b, b < 0 → a ≠ b → (TJ6 a).2.1 ≠ (TJ6 b).2.1 := by decide +kernel
theorem tyJ6_ok : ∀ k, k < 0 → parseFieldDescriptor (TJ6 k).2.2.1 = some (tyJ6 k) := by decide +kernel
abbrev cJ6_getChars_ba4f3 : ByteArray := prog_24_method_12_code
def yJ6_getChars_ba4f3 : MethodName := ⟨RJ6, "getChars", "(II[B)I"⟩
abbrev cJ6_stringSize_0f7a4 : ByteArray := prog_24_method_13_code
def yJ6_stringSize_0f7a4 : MethodName := ⟨RJ6, "stringSize", "(I)I"⟩
abbrev cJ6_bitCount_0f7a4 : ByteArray := prog_24_method_49_code
def yJ6_bitCount_0f7a4 : MethodName := ⟨RJ6, "bitCount", "(I)I"⟩
def RJ9 : String := "java/lang/Math"
def TJ9 : u_T := fun k => match k with
  | _ => ("", "", "", false)
def tyJ9 : Nat → FieldType := fun k => match k with
  | _ => .int
abbrev wsJ90 : List Cond := u_ws RJ9 TJ9 0
theorem nmJ9 : ∀ a, a < 0 → ∀ b, b < 0 → a ≠ b → (TJ9 a).2.1 ≠ (TJ9 b).2.1 := by decide +kernel
theorem tyJ9_ok : ∀ k, k < 0 → parseFieldDescriptor (TJ9 k).2.2.1 = some (tyJ9 k) := by decide +kernel
abbrev cJ9_max_7cf53 : ByteArray := prog_25_method_65_code
def yJ9_max_7cf53 : MethodName := ⟨RJ9, "max", "(II)I"⟩
abbrev cJ9_min_7cf53 : ByteArray := prog_25_method_69_code
def yJ9_min_7cf53 : MethodName := ⟨RJ9, "min", "(II)I"⟩
def RJxd2413 : String := "java/lang/Number"
def TJxd2413 : u_T := fun k => match k with
  | _ => ("", "", "", false)
def tyJxd2413 : Nat → FieldType := fun k => match k with
  | _ => .int
abbrev wsJxd24130 : List Cond := u_ws RJxd2413 TJxd2413 0
theorem nmJxd2413 : ∀ a, a < 0 → ∀ b, b < 0 → a ≠ b → (TJxd2413 a).2.1 ≠ (TJxd2413 b).2.1 := by decide +kernel
theorem tyJxd2413_ok : ∀ k, k < 0 → parseFieldDescriptor (TJxd2413 k).2.2.1 = some (tyJxd2413 k) := by decide +kernel
def RJ0 : String := "java/lang/String"
def TJ0 : u_T := fun k => match k with
  | 0 => ("java/lang/String", "value", "[B", true)
  | 1 => ("java/lang/String", "coder", "B", true)
  | 2 => ("java/lang/String", "hash", "I", false)
  | _ => ("java/lang/String", "hashIsZero", "Z", false)
def tyJ0 : Nat → FieldType := fun k => match k with
  | 0 => .array .byte
  | 1 => .byte
  | 2 => .int
  | _ => .boolean
abbrev wsJ00 : List Cond := u_ws RJ0 TJ0 4
theorem nmJ0 : ∀ a, a < 4 → ∀ b, b < 4 → a ≠ b → (TJ0 a).2.1 ≠ (TJ0 b).2.1 := by decide +kernel
theorem tyJ0_ok : ∀ k, k < 4 → parseFieldDescriptor (TJ0 k).2.2.1 = some (tyJ0 k) := by decide +kernel
abbrev cJ0_init_81219 : ByteArray := prog_28_method_53_code
def yJ0_init_81219 : MethodName := ⟨RJ0, "<init>", "(Ljava/lang/StringBuilder;)V"⟩
abbrev cJ0_length_8abf5 : ByteArray := prog_28_method_54_code
def yJ0_length_8abf5 : MethodName := ⟨RJ0, "length", "()I"⟩
abbrev cJ0_isEmpty_aae02 : ByteArray := prog_28_method_55_code
def yJ0_isEmpty_aae02 : MethodName := ⟨RJ0, "isEmpty", "()Z"⟩
abbrev cJ0_charAt_5068e : ByteArray := prog_28_method_56_code
def yJ0_charAt_5068e : MethodName := ⟨RJ0, "charAt", "(I)C"⟩
abbrev cJ0_getBytes_840e7 : ByteArray := prog_28_method_147_code
def yJ0_getBytes_840e7 : MethodName := ⟨RJ0, "getBytes", "([BIB)V"⟩
abbrev cJ0_init_db425 : ByteArray := prog_28_method_150_code
def yJ0_init_db425 : MethodName := ⟨RJ0, "<init>", "(Ljava/lang/AbstractStringBuilder;Ljava/lang/Void;)V"⟩
abbrev cJ0_coder_7d493 : ByteArray := prog_28_method_152_code
def yJ0_coder_7d493 : MethodName := ⟨RJ0, "coder", "()B"⟩
abbrev cJ0_isLatin1_aae02 : ByteArray := prog_28_method_154_code
def yJ0_isLatin1_aae02 : MethodName := ⟨RJ0, "isLatin1", "()Z"⟩
abbrev cJ0_checkIndex_df160 : ByteArray := prog_28_method_155_code
def yJ0_checkIndex_df160 : MethodName := ⟨RJ0, "checkIndex", "(II)V"⟩
abbrev cJ0_checkBoundsOffCount_cabcc : ByteArray := prog_28_method_157_code
def yJ0_checkBoundsOffCount_cabcc : MethodName := ⟨RJ0, "checkBoundsOffCount", "(III)I"⟩
abbrev cJ0_checkBoundsBeginEnd_23922 : ByteArray := prog_28_method_158_code
def yJ0_checkBoundsBeginEnd_23922 : MethodName := ⟨RJ0, "checkBoundsBeginEnd", "(III)V"⟩
def RJ4 : String := "java/lang/StringBuilder"
def TJ4 : u_T := fun k => match k with
  | 0 => ("java/lang/AbstractStringBuilder", "value", "[B", false)
  | 1 => ("java/lang/AbstractStringBuilder", "coder", "B", false)
  | 2 => ("java/lang/AbstractStringBuilder", "maybeLatin1", "Z", false)
  | _ => ("java/lang/AbstractStringBuilder", "count", "I", false)
def tyJ4 : Nat → FieldType := fun k => match k with
  | 0 => .array .byte
  | 1 => .byte
  | 2 => .boolean
  | _ => .int
abbrev wsJ40 : List Cond := u_ws RJ4 TJ4 4
theorem nmJ4 : ∀ a, a < 4 → ∀ b, b < 4 → a ≠ b → (TJ4 a).2.1 ≠ (TJ4 b).2.1 := by decide +kernel
theorem tyJ4_ok : ∀ k, k < 4 → parseFieldDescriptor (TJ4 k).2.2.1 = some (tyJ4 k) := by decide +kernel
abbrev cJ4_init_da8c8 : ByteArray := prog_29_method_1_code
def yJ4_init_da8c8 : MethodName := ⟨RJ4, "<init>", "()V"⟩
abbrev cJ4_append_15ec4 : ByteArray := prog_29_method_7_code
def yJ4_append_15ec4 : MethodName := ⟨RJ4, "append", "(Ljava/lang/String;)Ljava/lang/StringBuilder;"⟩
abbrev cJ4_append_cf468 : ByteArray := prog_29_method_14_code
def yJ4_append_cf468 : MethodName := ⟨RJ4, "append", "(C)Ljava/lang/StringBuilder;"⟩
abbrev cJ4_append_bf812 : ByteArray := prog_29_method_15_code
def yJ4_append_bf812 : MethodName := ⟨RJ4, "append", "(I)Ljava/lang/StringBuilder;"⟩
abbrev cJ4_toString_0e30d : ByteArray := prog_29_method_42_code
def yJ4_toString_0e30d : MethodName := ⟨RJ4, "toString", "()Ljava/lang/String;"⟩
abbrev cJ4_charAt_5068e : ByteArray := prog_29_method_88_code
def yJ4_charAt_5068e : MethodName := ⟨RJ4, "charAt", "(I)C"⟩
abbrev cJ4_setLength_d00df : ByteArray := prog_29_method_89_code
def yJ4_setLength_d00df : MethodName := ⟨RJ4, "setLength", "(I)V"⟩
abbrev cJ4_length_8abf5 : ByteArray := prog_29_method_93_code
def yJ4_length_8abf5 : MethodName := ⟨RJ4, "length", "()I"⟩
def RJx7c733 : String := "java/lang/StringIndexOutOfBoundsException"
def TJx7c733 : u_T := fun k => match k with
  | 0 => ("java/lang/Throwable", "backtrace", "Ljava/lang/Object;", false)
  | 1 => ("java/lang/Throwable", "detailMessage", "Ljava/lang/String;", false)
  | 2 => ("java/lang/Throwable", "cause", "Ljava/lang/Throwable;", false)
  | 3 => ("java/lang/Throwable", "stackTrace", "[Ljava/lang/StackTraceElement;", false)
  | 4 => ("java/lang/Throwable", "depth", "I", false)
  | _ => ("java/lang/Throwable", "suppressedExceptions", "Ljava/util/List;", false)
def tyJx7c733 : Nat → FieldType := fun k => match k with
  | 0 => .object "java/lang/Object"
  | 1 => .object "java/lang/String"
  | 2 => .object "java/lang/Throwable"
  | 3 => .array (.object "java/lang/StackTraceElement")
  | 4 => .int
  | _ => .object "java/util/List"
abbrev wsJx7c7330 : List Cond := u_ws RJx7c733 TJx7c733 6
theorem nmJx7c733 : ∀ a, a < 6 → ∀ b, b < 6 → a ≠ b → (TJx7c733 a).2.1 ≠ (TJx7c733 b).2.1 := by decide +kernel
theorem tyJx7c733_ok : ∀ k, k < 6 → parseFieldDescriptor (TJx7c733 k).2.2.1 = some (tyJx7c733 k) := by decide +kernel
abbrev cJx7c733_init_d00df : ByteArray := prog_30_method_3_code
def yJx7c733_init_d00df : MethodName := ⟨RJx7c733, "<init>", "(I)V"⟩
def RJ1 : String := "java/lang/StringLatin1"
def TJ1 : u_T := fun k => match k with
  | _ => ("", "", "", false)
def tyJ1 : Nat → FieldType := fun k => match k with
  | _ => .int
abbrev wsJ10 : List Cond := u_ws RJ1 TJ1 0
theorem nmJ1 : ∀ a, a < 0 → ∀ b, b < 0 → a ≠ b → (TJ1 a).2.1 ≠ (TJ1 b).2.1 := by decide +kernel
theorem tyJ1_ok : ∀ k, k < 0 → parseFieldDescriptor (TJ1 k).2.2.1 = some (tyJ1 k) := by decide +kernel
abbrev cJ1_charAt_3b067 : ByteArray := prog_31_method_2_code
def yJ1_charAt_3b067 : MethodName := ⟨RJ1, "charAt", "([BI)C"⟩
abbrev cJ1_canEncode_fc78d : ByteArray := prog_31_method_3_code
def yJ1_canEncode_fc78d : MethodName := ⟨RJ1, "canEncode", "(C)Z"⟩
abbrev cJ1_fillNull_b72d1 : ByteArray := prog_31_method_48_code
def yJ1_fillNull_b72d1 : MethodName := ⟨RJ1, "fillNull", "([BII)V"⟩
abbrev cJ1_inflate_0e8fd : ByteArray := prog_31_method_50_code
def yJ1_inflate_0e8fd : MethodName := ⟨RJ1, "inflate", "([BI[BII)V"⟩
def RJ2 : String := "java/lang/StringUTF16"
def TJ2 : u_T := fun k => match k with
  | _ => ("", "", "", false)
def tyJ2 : Nat → FieldType := fun k => match k with
  | _ => .int
abbrev wsJ20 : List Cond := u_ws RJ2 TJ2 0
theorem nmJ2 : ∀ a, a < 0 → ∀ b, b < 0 → a ≠ b → (TJ2 a).2.1 ≠ (TJ2 b).2.1 := by decide +kernel
theorem tyJ2_ok : ∀ k, k < 0 → parseFieldDescriptor (TJ2 k).2.2.1 = some (tyJ2 k) := by decide +kernel
abbrev cJ2_newBytesFor_77867 : ByteArray := prog_32_method_2_code
def yJ2_newBytesFor_77867 : MethodName := ⟨RJ2, "newBytesFor", "(I)[B"⟩
abbrev cJ2_newBytesLength_0f7a4 : ByteArray := prog_32_method_3_code
def yJ2_newBytesLength_0f7a4 : MethodName := ⟨RJ2, "newBytesLength", "(I)I"⟩
abbrev cJ2_putChar_b72d1 : ByteArray := prog_32_method_4_code
def yJ2_putChar_b72d1 : MethodName := ⟨RJ2, "putChar", "([BII)V"⟩
abbrev cJ2_getChar_3b067 : ByteArray := prog_32_method_5_code
def yJ2_getChar_3b067 : MethodName := ⟨RJ2, "getChar", "([BI)C"⟩
abbrev cJ2_length_9d52b : ByteArray := prog_32_method_6_code
def yJ2_length_9d52b : MethodName := ⟨RJ2, "length", "([B)I"⟩
abbrev cJ2_coderFromArrayLen_85cad : ByteArray := prog_32_method_15_code
def yJ2_coderFromArrayLen_85cad : MethodName := ⟨RJ2, "coderFromArrayLen", "([BI)B"⟩
abbrev cJ2_compress_39247 : ByteArray := prog_32_method_17_code
def yJ2_compress_39247 : MethodName := ⟨RJ2, "compress", "([BII)[B"⟩
abbrev cJ2_compress_5af95 : ByteArray := prog_32_method_22_code
def yJ2_compress_5af95 : MethodName := ⟨RJ2, "compress", "([BI[BII)I"⟩
abbrev cJ2_fillNull_b72d1 : ByteArray := prog_32_method_70_code
def yJ2_fillNull_b72d1 : MethodName := ⟨RJ2, "fillNull", "([BII)V"⟩
abbrev cJ2_putCharSB_b72d1 : ByteArray := prog_32_method_71_code
def yJ2_putCharSB_b72d1 : MethodName := ⟨RJ2, "putCharSB", "([BII)V"⟩
abbrev cJ2_getChars_46870 : ByteArray := prog_32_method_77_code
def yJ2_getChars_46870 : MethodName := ⟨RJ2, "getChars", "(III[B)I"⟩
abbrev cJ2_putCharsAt_cd4e5 : ByteArray := prog_32_method_81_code
def yJ2_putCharsAt_cd4e5 : MethodName := ⟨RJ2, "putCharsAt", "([BICCCC)I"⟩
abbrev cJ2_charAt_3b067 : ByteArray := prog_32_method_83_code
def yJ2_charAt_3b067 : MethodName := ⟨RJ2, "charAt", "([BI)C"⟩
abbrev cJ2_inflate_0e8fd : ByteArray := prog_32_method_86_code
def yJ2_inflate_0e8fd : MethodName := ⟨RJ2, "inflate", "([BI[BII)V"⟩
abbrev cJ2_getChars_ba4f3 : ByteArray := prog_32_method_89_code
def yJ2_getChars_ba4f3 : MethodName := ⟨RJ2, "getChars", "(II[B)I"⟩
abbrev cJ2_checkIndex_2214a : ByteArray := prog_32_method_91_code
def yJ2_checkIndex_2214a : MethodName := ⟨RJ2, "checkIndex", "(I[B)V"⟩
abbrev cJ2_checkBoundsBeginEnd_d044e : ByteArray := prog_32_method_93_code
def yJ2_checkBoundsBeginEnd_d044e : MethodName := ⟨RJ2, "checkBoundsBeginEnd", "(II[B)V"⟩
abbrev cJ2_checkBoundsOffCount_d044e : ByteArray := prog_32_method_94_code
def yJ2_checkBoundsOffCount_d044e : MethodName := ⟨RJ2, "checkBoundsOffCount", "(II[B)V"⟩
def RJ10 : String := "java/lang/System"
def TJ10 : u_T := fun k => match k with
  | _ => ("", "", "", false)
def tyJ10 : Nat → FieldType := fun k => match k with
  | _ => .int
abbrev wsJ100 : List Cond := u_ws RJ10 TJ10 0
theorem nmJ10 : ∀ a, a < 0 → ∀ b, b < 0 → a ≠ b → (TJ10 a).2.1 ≠ (TJ10 b).2.1 := by decide +kernel
theorem tyJ10_ok : ∀ k, k < 0 → parseFieldDescriptor (TJ10 k).2.2.1 = some (tyJ10 k) := by decide +kernel
def RJxfd54e : String := "java/lang/constant/Constable"
def TJxfd54e : u_T := fun k => match k with
  | _ => ("", "", "", false)
def tyJxfd54e : Nat → FieldType := fun k => match k with
  | _ => .int
abbrev wsJxfd54e0 : List Cond := u_ws RJxfd54e TJxfd54e 0
theorem nmJxfd54e : ∀ a, a < 0 → ∀ b, b < 0 → a ≠ b → (TJxfd54e a).2.1 ≠ (TJxfd54e b).2.1 := by decide +kernel
theorem tyJxfd54e_ok : ∀ k, k < 0 → parseFieldDescriptor (TJxfd54e k).2.2.1 = some (tyJxfd54e k) := by decide +kernel
def RJx3cf43 : String := "java/lang/constant/ConstantDesc"
def TJx3cf43 : u_T := fun k => match k with
  | _ => ("", "", "", false)
def tyJx3cf43 : Nat → FieldType := fun k => match k with
  | _ => .int
abbrev wsJx3cf430 : List Cond := u_ws RJx3cf43 TJx3cf43 0
theorem nmJx3cf43 : ∀ a, a < 0 → ∀ b, b < 0 → a ≠ b → (TJx3cf43 a).2.1 ≠ (TJx3cf43 b).2.1 := by decide +kernel
theorem tyJx3cf43_ok : ∀ k, k < 0 → parseFieldDescriptor (TJx3cf43 k).2.2.1 = some (tyJx3cf43 k) := by decide +kernel
def RJ7 : String := "java/util/Arrays"
def TJ7 : u_T := fun k => match k with
  | _ => ("", "", "", false)
def tyJ7 : Nat → FieldType := fun k => match k with
  | _ => .int
abbrev wsJ70 : List Cond := u_ws RJ7 TJ7 0
theorem nmJ7 : ∀ a, a < 0 → ∀ b, b < 0 → a ≠ b → (TJ7 a).2.1 ≠ (TJ7 b).2.1 := by decide +kernel
theorem tyJ7_ok : ∀ k, k < 0 → parseFieldDescriptor (TJ7 k).2.2.1 = some (tyJ7 k) := by decide +kernel
abbrev cJ7_rangeCheck_23922 : ByteArray := prog_38_method_30_code
def yJ7_rangeCheck_23922 : MethodName := ⟨RJ7, "rangeCheck", "(III)V"⟩
abbrev cJ7_fill_eb02e : ByteArray := prog_38_method_110_code
def yJ7_fill_eb02e : MethodName := ⟨RJ7, "fill", "([BIIB)V"⟩
abbrev cJ7_copyOf_9075b : ByteArray := prog_38_method_121_code
def yJ7_copyOf_9075b : MethodName := ⟨RJ7, "copyOf", "([BI)[B"⟩
abbrev cJ7_checkLength_df160 : ByteArray := prog_38_method_131_code
def yJ7_checkLength_df160 : MethodName := ⟨RJ7, "checkLength", "(II)V"⟩
abbrev cJ7_copyOfRange_39247 : ByteArray := prog_38_method_132_code
def yJ7_copyOfRange_39247 : MethodName := ⟨RJ7, "copyOfRange", "([BII)[B"⟩
abbrev cJ7_copyOfRangeByte_39247 : ByteArray := prog_38_method_133_code
def yJ7_copyOfRangeByte_39247 : MethodName := ⟨RJ7, "copyOfRangeByte", "([BII)[B"⟩
def RJ8 : String := "jdk/internal/util/ArraysSupport"
def TJ8 : u_T := fun k => match k with
  | _ => ("", "", "", false)
def tyJ8 : Nat → FieldType := fun k => match k with
  | _ => .int
abbrev wsJ80 : List Cond := u_ws RJ8 TJ8 0
theorem nmJ8 : ∀ a, a < 0 → ∀ b, b < 0 → a ≠ b → (TJ8 a).2.1 ≠ (TJ8 b).2.1 := by decide +kernel
theorem tyJ8_ok : ∀ k, k < 0 → parseFieldDescriptor (TJ8 k).2.2.1 = some (tyJ8 k) := by decide +kernel
abbrev cJ8_newLength_cabcc : ByteArray := prog_40_method_27_code
def yJ8_newLength_cabcc : MethodName := ⟨RJ8, "newLength", "(III)I"⟩
abbrev cJ8_hugeLength_7cf53 : ByteArray := prog_40_method_28_code
def yJ8_hugeLength_7cf53 : MethodName := ⟨RJ8, "hugeLength", "(II)I"⟩
def RJ3 : String := "jdk/internal/util/Preconditions"
def TJ3 : u_T := fun k => match k with
  | _ => ("", "", "", false)
def tyJ3 : Nat → FieldType := fun k => match k with
  | _ => .int
abbrev wsJ30 : List Cond := u_ws RJ3 TJ3 0
theorem nmJ3 : ∀ a, a < 0 → ∀ b, b < 0 → a ≠ b → (TJ3 a).2.1 ≠ (TJ3 b).2.1 := by decide +kernel
theorem tyJ3_ok : ∀ k, k < 0 → parseFieldDescriptor (TJ3 k).2.2.1 = some (tyJ3 k) := by decide +kernel
abbrev cJ3_checkIndex_8e157 : ByteArray := prog_41_method_11_code
def yJ3_checkIndex_8e157 : MethodName := ⟨RJ3, "checkIndex", "(IILjava/util/function/BiFunction;)I"⟩
abbrev cJ3_checkFromToIndex_8c36e : ByteArray := prog_41_method_12_code
def yJ3_checkFromToIndex_8c36e : MethodName := ⟨RJ3, "checkFromToIndex", "(IIILjava/util/function/BiFunction;)I"⟩
abbrev cJ3_checkFromIndexSize_8c36e : ByteArray := prog_41_method_13_code
def yJ3_checkFromIndexSize_8c36e : MethodName := ⟨RJ3, "checkFromIndexSize", "(IIILjava/util/function/BiFunction;)I"⟩
def RL : String := "WhistleJunctionLaw"
abbrev cL_sign : ByteArray := method_3_code
def yL_sign : MethodName := ⟨RL, "sign", "(LWhistleJunction;III[J)I"⟩
abbrev cL_unsign : ByteArray := method_4_code
def yL_unsign : MethodName := ⟨RL, "unsign", "(LWhistleJunction;I[J)I"⟩
abbrev cL_priority : ByteArray := method_5_code
def yL_priority : MethodName := ⟨RL, "priority", "(LWhistleJunction;II[J)I"⟩
abbrev cL_platform : ByteArray := method_6_code
def yL_platform : MethodName := ⟨RL, "platform", "(LWhistleJunction;III[J)I"⟩
abbrev cL_lineOf : ByteArray := method_7_code
def yL_lineOf : MethodName := ⟨RL, "lineOf", "(LWhistleJunction;II[J)I"⟩
abbrev cL_platformOf : ByteArray := method_8_code
def yL_platformOf : MethodName := ⟨RL, "platformOf", "(LWhistleJunction;II[J)I"⟩
abbrev cL_clash : ByteArray := method_9_code
def yL_clash : MethodName := ⟨RL, "clash", "(LWhistleJunction;II[J)I"⟩
abbrev cL_free : ByteArray := method_10_code
def yL_free : MethodName := ⟨RL, "free", "(LWhistleJunction;IZ[J)I"⟩
abbrev cL_whistle : ByteArray := method_11_code
def yL_whistle : MethodName := ⟨RL, "whistle", "(LWhistleJunction;I[J)I"⟩
abbrev cL_lie : ByteArray := method_12_code
def yL_lie : MethodName := ⟨RL, "lie", "(LWhistleJunction;II[J)I"⟩
abbrev cL_expose : ByteArray := method_13_code
def yL_expose : MethodName := ⟨RL, "expose", "(LWhistleJunction;I[J)I"⟩
abbrev cL_mute : ByteArray := method_14_code
def yL_mute : MethodName := ⟨RL, "mute", "(LWhistleJunction;II[J)I"⟩
abbrev cL_fine : ByteArray := method_15_code
def yL_fine : MethodName := ⟨RL, "fine", "(LWhistleJunction;I[J)I"⟩
abbrev cL_heard : ByteArray := method_16_code
def yL_heard : MethodName := ⟨RL, "heard", "(LWhistleJunction;II[J)I"⟩
abbrev cL_reading : ByteArray := method_17_code
def yL_reading : MethodName := ⟨RL, "reading", "(LWhistleJunction;I[J)I"⟩
abbrev cL_soonest : ByteArray := method_18_code
def yL_soonest : MethodName := ⟨RL, "soonest", "(LWhistleJunction;I[J)I"⟩
abbrev cL_ranked : ByteArray := method_19_code
def yL_ranked : MethodName := ⟨RL, "ranked", "(LWhistleJunction;II[J)I"⟩
abbrev cL_text : ByteArray := method_20_code
def yL_text : MethodName := ⟨RL, "text", "(LWhistleJunction;I[J)I"⟩
abbrev cL_character : ByteArray := method_21_code
def yL_character : MethodName := ⟨RL, "character", "(LWhistleJunction;I[J)I"⟩
abbrev cL_refusal : ByteArray := method_22_code
def yL_refusal : MethodName := ⟨RL, "refusal", "(LWhistleJunction;Z[J)I"⟩
abbrev cL_account : ByteArray := method_23_code
def yL_account : MethodName := ⟨RL, "account", "(LWhistleJunction;I[J)I"⟩
abbrev cL_meanLength : ByteArray := method_24_code
def yL_meanLength : MethodName := ⟨RL, "meanLength", "(LWhistleJunction;[D)I"⟩
abbrev cL_lieShare : ByteArray := method_25_code
def yL_lieShare : MethodName := ⟨RL, "lieShare", "(LWhistleJunction;[D)I"⟩
abbrev cL_append : ByteArray := method_26_code
def yL_append : MethodName := ⟨RL, "append", "(LWhistleJunction;I[J)I"⟩
abbrev cL_read : ByteArray := method_27_code
def yL_read : MethodName := ⟨RL, "read", "(LWhistleJunction;[J)I"⟩
abbrev cL_errorPosition : ByteArray := method_28_code
def yL_errorPosition : MethodName := ⟨RL, "errorPosition", "(LWhistleJunction;[J)I"⟩
abbrev cL_refusedItem : ByteArray := method_29_code
def yL_refusedItem : MethodName := ⟨RL, "refusedItem", "(LWhistleJunction;[J)I"⟩
abbrev cL_undo : ByteArray := method_30_code
def yL_undo : MethodName := ⟨RL, "undo", "(LWhistleJunction;[J)I"⟩
abbrev cL_restore : ByteArray := method_31_code
def yL_restore : MethodName := ⟨RL, "restore", "(LWhistleJunction;[J)I"⟩
abbrev cL_law : ByteArray := code
def yL_law : MethodName := ⟨RL, "law", "([I)Z"⟩
theorem dX0_init_0 : decode cX0_init 0 = .ok (.aload_n 0, 1) := by decide +kernel
theorem dX0_init_1 : decode cX0_init 1 = .ok (.invokespecial 3, 3) := by decide +kernel
theorem dX0_init_4 : decode cX0_init 4 = .ok (.aload_n 0, 1) := by decide +kernel
theorem dX0_init_5 : decode cX0_init 5 = .ok (.bipush 8, 2) := by decide +kernel
theorem dX0_init_7 : decode cX0_init 7 = .ok (.anewarray 9, 3) := by decide +kernel
theorem dX0_init_10 : decode cX0_init 10 = .ok (.putfield 11, 3) := by decide +kernel
theorem dX0_init_13 : decode cX0_init 13 = .ok (.aload_n 0, 1) := by decide +kernel
theorem dX0_init_14 : decode cX0_init 14 = .ok (.iconst 0, 1) := by decide +kernel
theorem dX0_init_15 : decode cX0_init 15 = .ok (.putfield 17, 3) := by decide +kernel
theorem dX0_init_18 : decode cX0_init 18 = .ok (.aload_n 0, 1) := by decide +kernel
theorem dX0_init_19 : decode cX0_init 19 = .ok (.iconst 0, 1) := by decide +kernel
theorem dX0_init_20 : decode cX0_init 20 = .ok (.putfield 21, 3) := by decide +kernel
theorem dX0_init_23 : decode cX0_init 23 = .ok (.iconst 0, 1) := by decide +kernel
theorem dX0_init_24 : decode cX0_init 24 = .ok (.istore_n 1, 1) := by decide +kernel
theorem dX0_init_25 : decode cX0_init 25 = .ok (.iload_n 1, 1) := by decide +kernel
theorem dX0_init_26 : decode cX0_init 26 = .ok (.aload_n 0, 1) := by decide +kernel
theorem dX0_init_27 : decode cX0_init 27 = .ok (.getfield 11, 3) := by decide +kernel
theorem dX0_init_30 : decode cX0_init 30 = .ok (.arraylength, 1) := by decide +kernel
theorem dX0_init_31 : decode cX0_init 31 = .ok (.if_icmp .ge 22, 3) := by decide +kernel
theorem dX0_init_34 : decode cX0_init 34 = .ok (.aload_n 0, 1) := by decide +kernel
theorem dX0_init_35 : decode cX0_init 35 = .ok (.getfield 11, 3) := by decide +kernel
theorem dX0_init_38 : decode cX0_init 38 = .ok (.iload_n 1, 1) := by decide +kernel
theorem dX0_init_39 : decode cX0_init 39 = .ok (.new 9, 3) := by decide +kernel
theorem dX0_init_42 : decode cX0_init 42 = .ok (.dup, 1) := by decide +kernel
theorem dX0_init_43 : decode cX0_init 43 = .ok (.invokespecial 24, 3) := by decide +kernel
theorem dX0_init_46 : decode cX0_init 46 = .ok (.aastore, 1) := by decide +kernel
theorem dX0_init_47 : decode cX0_init 47 = .ok (.iinc 1 1, 3) := by decide +kernel
theorem dX0_init_50 : decode cX0_init 50 = .ok (.goto (-25), 3) := by decide +kernel
theorem dX0_init_53 : decode cX0_init 53 = .ok (.return_, 1) := by decide +kernel
theorem dX0_size_0 : decode cX0_size 0 = .ok (.aload_n 0, 1) := by decide +kernel
theorem dX0_size_1 : decode cX0_size 1 = .ok (.getfield 21, 3) := by decide +kernel
theorem dX0_size_4 : decode cX0_size 4 = .ok (.ireturn, 1) := by decide +kernel
theorem dX0_forget_0 : decode cX0_forget 0 = .ok (.aload_n 0, 1) := by decide +kernel
theorem dX0_forget_1 : decode cX0_forget 1 = .ok (.iconst 0, 1) := by decide +kernel
theorem dX0_forget_2 : decode cX0_forget 2 = .ok (.putfield 21, 3) := by decide +kernel
theorem dX0_forget_5 : decode cX0_forget 5 = .ok (.return_, 1) := by decide +kernel
theorem dX0_push_0 : decode cX0_push 0 = .ok (.aload_n 0, 1) := by decide +kernel
theorem dX0_push_1 : decode cX0_push 1 = .ok (.getfield 21, 3) := by decide +kernel
theorem dX0_push_4 : decode cX0_push 4 = .ok (.bipush 8, 2) := by decide +kernel
theorem dX0_push_6 : decode cX0_push 6 = .ok (.if_icmp .ne 26, 3) := by decide +kernel
theorem dX0_push_9 : decode cX0_push 9 = .ok (.aload_n 0, 1) := by decide +kernel
theorem dX0_push_10 : decode cX0_push 10 = .ok (.aload_n 0, 1) := by decide +kernel
theorem dX0_push_11 : decode cX0_push 11 = .ok (.getfield 17, 3) := by decide +kernel
theorem dX0_push_14 : decode cX0_push 14 = .ok (.iconst 1, 1) := by decide +kernel
theorem dX0_push_15 : decode cX0_push 15 = .ok (.iadd, 1) := by decide +kernel
theorem dX0_push_16 : decode cX0_push 16 = .ok (.bipush 8, 2) := by decide +kernel
theorem dX0_push_18 : decode cX0_push 18 = .ok (.irem, 1) := by decide +kernel
theorem dX0_push_19 : decode cX0_push 19 = .ok (.putfield 17, 3) := by decide +kernel
theorem dX0_push_22 : decode cX0_push 22 = .ok (.aload_n 0, 1) := by decide +kernel
theorem dX0_push_23 : decode cX0_push 23 = .ok (.dup, 1) := by decide +kernel
theorem dX0_push_24 : decode cX0_push 24 = .ok (.getfield 21, 3) := by decide +kernel
theorem dX0_push_27 : decode cX0_push 27 = .ok (.iconst 1, 1) := by decide +kernel
theorem dX0_push_28 : decode cX0_push 28 = .ok (.isub, 1) := by decide +kernel
theorem dX0_push_29 : decode cX0_push 29 = .ok (.putfield 21, 3) := by decide +kernel
theorem dX0_push_32 : decode cX0_push 32 = .ok (.aload_n 0, 1) := by decide +kernel
theorem dX0_push_33 : decode cX0_push 33 = .ok (.aload_n 0, 1) := by decide +kernel
theorem dX0_push_34 : decode cX0_push 34 = .ok (.getfield 21, 3) := by decide +kernel
theorem dX0_push_37 : decode cX0_push 37 = .ok (.invokevirtual 25, 3) := by decide +kernel
theorem dX0_push_40 : decode cX0_push 40 = .ok (.astore_n 2, 1) := by decide +kernel
theorem dX0_push_41 : decode cX0_push 41 = .ok (.aload_n 2, 1) := by decide +kernel
theorem dX0_push_42 : decode cX0_push 42 = .ok (.ifnull 18, 3) := by decide +kernel
theorem dX0_push_45 : decode cX0_push 45 = .ok (.aload_n 2, 1) := by decide +kernel
theorem dX0_push_46 : decode cX0_push 46 = .ok (.aload_n 1, 1) := by decide +kernel
theorem dX0_push_47 : decode cX0_push 47 = .ok (.invokevirtual 29, 3) := by decide +kernel
theorem dX0_push_50 : decode cX0_push 50 = .ok (.aload_n 0, 1) := by decide +kernel
theorem dX0_push_51 : decode cX0_push 51 = .ok (.dup, 1) := by decide +kernel
theorem dX0_push_52 : decode cX0_push 52 = .ok (.getfield 21, 3) := by decide +kernel
theorem dX0_push_55 : decode cX0_push 55 = .ok (.iconst 1, 1) := by decide +kernel
theorem dX0_push_56 : decode cX0_push 56 = .ok (.iadd, 1) := by decide +kernel
theorem dX0_push_57 : decode cX0_push 57 = .ok (.putfield 21, 3) := by decide +kernel
theorem dX0_push_60 : decode cX0_push 60 = .ok (.return_, 1) := by decide +kernel
theorem dX0_pop_0 : decode cX0_pop 0 = .ok (.aload_n 0, 1) := by decide +kernel
theorem dX0_pop_1 : decode cX0_pop 1 = .ok (.aload_n 0, 1) := by decide +kernel
theorem dX0_pop_2 : decode cX0_pop 2 = .ok (.getfield 21, 3) := by decide +kernel
theorem dX0_pop_5 : decode cX0_pop 5 = .ok (.iconst 1, 1) := by decide +kernel
theorem dX0_pop_6 : decode cX0_pop 6 = .ok (.isub, 1) := by decide +kernel
theorem dX0_pop_7 : decode cX0_pop 7 = .ok (.invokevirtual 25, 3) := by decide +kernel
theorem dX0_pop_10 : decode cX0_pop 10 = .ok (.astore_n 2, 1) := by decide +kernel
theorem dX0_pop_11 : decode cX0_pop 11 = .ok (.aload_n 2, 1) := by decide +kernel
theorem dX0_pop_12 : decode cX0_pop 12 = .ok (.ifnull 18, 3) := by decide +kernel
theorem dX0_pop_15 : decode cX0_pop 15 = .ok (.aload_n 1, 1) := by decide +kernel
theorem dX0_pop_16 : decode cX0_pop 16 = .ok (.aload_n 2, 1) := by decide +kernel
theorem dX0_pop_17 : decode cX0_pop 17 = .ok (.invokevirtual 29, 3) := by decide +kernel
theorem dX0_pop_20 : decode cX0_pop 20 = .ok (.aload_n 0, 1) := by decide +kernel
theorem dX0_pop_21 : decode cX0_pop 21 = .ok (.dup, 1) := by decide +kernel
theorem dX0_pop_22 : decode cX0_pop 22 = .ok (.getfield 21, 3) := by decide +kernel
theorem dX0_pop_25 : decode cX0_pop 25 = .ok (.iconst 1, 1) := by decide +kernel
theorem dX0_pop_26 : decode cX0_pop 26 = .ok (.isub, 1) := by decide +kernel
theorem dX0_pop_27 : decode cX0_pop 27 = .ok (.putfield 21, 3) := by decide +kernel
theorem dX0_pop_30 : decode cX0_pop 30 = .ok (.return_, 1) := by decide +kernel
theorem dX0_slotAt_0 : decode cX0_slotAt 0 = .ok (.aload_n 0, 1) := by decide +kernel
theorem dX0_slotAt_1 : decode cX0_slotAt 1 = .ok (.getfield 17, 3) := by decide +kernel
theorem dX0_slotAt_4 : decode cX0_slotAt 4 = .ok (.iload_n 1, 1) := by decide +kernel
theorem dX0_slotAt_5 : decode cX0_slotAt 5 = .ok (.iadd, 1) := by decide +kernel
theorem dX0_slotAt_6 : decode cX0_slotAt 6 = .ok (.bipush 8, 2) := by decide +kernel
theorem dX0_slotAt_8 : decode cX0_slotAt 8 = .ok (.irem, 1) := by decide +kernel
theorem dX0_slotAt_9 : decode cX0_slotAt 9 = .ok (.istore_n 2, 1) := by decide +kernel
theorem dX0_slotAt_10 : decode cX0_slotAt 10 = .ok (.iload_n 2, 1) := by decide +kernel
theorem dX0_slotAt_11 : decode cX0_slotAt 11 = .ok (.ifCond .lt 21, 3) := by decide +kernel
theorem dX0_slotAt_14 : decode cX0_slotAt 14 = .ok (.iload_n 2, 1) := by decide +kernel
theorem dX0_slotAt_15 : decode cX0_slotAt 15 = .ok (.aload_n 0, 1) := by decide +kernel
theorem dX0_slotAt_16 : decode cX0_slotAt 16 = .ok (.getfield 11, 3) := by decide +kernel
theorem dX0_slotAt_19 : decode cX0_slotAt 19 = .ok (.arraylength, 1) := by decide +kernel
theorem dX0_slotAt_20 : decode cX0_slotAt 20 = .ok (.if_icmp .ge 12, 3) := by decide +kernel
theorem dX0_slotAt_23 : decode cX0_slotAt 23 = .ok (.aload_n 0, 1) := by decide +kernel
theorem dX0_slotAt_24 : decode cX0_slotAt 24 = .ok (.getfield 11, 3) := by decide +kernel
theorem dX0_slotAt_27 : decode cX0_slotAt 27 = .ok (.iload_n 2, 1) := by decide +kernel
theorem dX0_slotAt_28 : decode cX0_slotAt 28 = .ok (.aaload, 1) := by decide +kernel
theorem dX0_slotAt_29 : decode cX0_slotAt 29 = .ok (.goto 4, 3) := by decide +kernel
theorem dX0_slotAt_32 : decode cX0_slotAt 32 = .ok (.aconst_null, 1) := by decide +kernel
theorem dX0_slotAt_33 : decode cX0_slotAt 33 = .ok (.areturn, 1) := by decide +kernel
theorem dX1_init_0 : decode cX1_init 0 = .ok (.aload_n 0, 1) := by decide +kernel
theorem dX1_init_1 : decode cX1_init 1 = .ok (.invokespecial 3, 3) := by decide +kernel
theorem dX1_init_4 : decode cX1_init 4 = .ok (.aload_n 0, 1) := by decide +kernel
theorem dX1_init_5 : decode cX1_init 5 = .ok (.new 9, 3) := by decide +kernel
theorem dX1_init_8 : decode cX1_init 8 = .ok (.dup, 1) := by decide +kernel
theorem dX1_init_9 : decode cX1_init 9 = .ok (.bipush 60, 2) := by decide +kernel
theorem dX1_init_11 : decode cX1_init 11 = .ok (.invokespecial 11, 3) := by decide +kernel
theorem dX1_init_14 : decode cX1_init 14 = .ok (.putfield 14, 3) := by decide +kernel
theorem dX1_init_17 : decode cX1_init 17 = .ok (.aload_n 0, 1) := by decide +kernel
theorem dX1_init_18 : decode cX1_init 18 = .ok (.new 9, 3) := by decide +kernel
theorem dX1_init_21 : decode cX1_init 21 = .ok (.dup, 1) := by decide +kernel
theorem dX1_init_22 : decode cX1_init 22 = .ok (.bipush 60, 2) := by decide +kernel
theorem dX1_init_24 : decode cX1_init 24 = .ok (.invokespecial 11, 3) := by decide +kernel
theorem dX1_init_27 : decode cX1_init 27 = .ok (.putfield 20, 3) := by decide +kernel
theorem dX1_init_30 : decode cX1_init 30 = .ok (.aload_n 0, 1) := by decide +kernel
theorem dX1_init_31 : decode cX1_init 31 = .ok (.new 9, 3) := by decide +kernel
theorem dX1_init_34 : decode cX1_init 34 = .ok (.dup, 1) := by decide +kernel
theorem dX1_init_35 : decode cX1_init 35 = .ok (.bipush 60, 2) := by decide +kernel
theorem dX1_init_37 : decode cX1_init 37 = .ok (.invokespecial 11, 3) := by decide +kernel
theorem dX1_init_40 : decode cX1_init 40 = .ok (.putfield 23, 3) := by decide +kernel
theorem dX1_init_43 : decode cX1_init 43 = .ok (.aload_n 0, 1) := by decide +kernel
theorem dX1_init_44 : decode cX1_init 44 = .ok (.new 9, 3) := by decide +kernel
theorem dX1_init_47 : decode cX1_init 47 = .ok (.dup, 1) := by decide +kernel
theorem dX1_init_48 : decode cX1_init 48 = .ok (.bipush 60, 2) := by decide +kernel
theorem dX1_init_50 : decode cX1_init 50 = .ok (.invokespecial 11, 3) := by decide +kernel
theorem dX1_init_53 : decode cX1_init 53 = .ok (.putfield 26, 3) := by decide +kernel
theorem dX1_init_56 : decode cX1_init 56 = .ok (.aload_n 0, 1) := by decide +kernel
theorem dX1_init_57 : decode cX1_init 57 = .ok (.iconst 0, 1) := by decide +kernel
theorem dX1_init_58 : decode cX1_init 58 = .ok (.putfield 29, 3) := by decide +kernel
theorem dX1_init_61 : decode cX1_init 61 = .ok (.aload_n 0, 1) := by decide +kernel
theorem dX1_init_62 : decode cX1_init 62 = .ok (.iconst 0, 1) := by decide +kernel
theorem dX1_init_63 : decode cX1_init 63 = .ok (.putfield 33, 3) := by decide +kernel
theorem dX1_init_66 : decode cX1_init 66 = .ok (.aload_n 0, 1) := by decide +kernel
theorem dX1_init_67 : decode cX1_init 67 = .ok (.iconst 0, 1) := by decide +kernel
theorem dX1_init_68 : decode cX1_init 68 = .ok (.putfield 36, 3) := by decide +kernel
theorem dX1_init_71 : decode cX1_init 71 = .ok (.return_, 1) := by decide +kernel
theorem dX1_size_0 : decode cX1_size 0 = .ok (.aload_n 0, 1) := by decide +kernel
theorem dX1_size_1 : decode cX1_size 1 = .ok (.getfield 14, 3) := by decide +kernel
theorem dX1_size_4 : decode cX1_size 4 = .ok (.invokevirtual 39, 3) := by decide +kernel
theorem dX1_size_7 : decode cX1_size 7 = .ok (.ireturn, 1) := by decide +kernel
theorem dX1_empty_0 : decode cX1_empty 0 = .ok (.aload_n 0, 1) := by decide +kernel
theorem dX1_empty_1 : decode cX1_empty 1 = .ok (.getfield 14, 3) := by decide +kernel
theorem dX1_empty_4 : decode cX1_empty 4 = .ok (.iconst 0, 1) := by decide +kernel
theorem dX1_empty_5 : decode cX1_empty 5 = .ok (.iconst 0, 1) := by decide +kernel
theorem dX1_empty_6 : decode cX1_empty 6 = .ok (.invokevirtual 43, 3) := by decide +kernel
theorem dX1_empty_9 : decode cX1_empty 9 = .ok (.return_, 1) := by decide +kernel
theorem dX1_addAll_0 : decode cX1_addAll 0 = .ok (.bipush 24, 2) := by decide +kernel
theorem dX1_addAll_2 : decode cX1_addAll 2 = .ok (.istore_n 2, 1) := by decide +kernel
theorem dX1_addAll_3 : decode cX1_addAll 3 = .ok (.iload_n 2, 1) := by decide +kernel
theorem dX1_addAll_4 : decode cX1_addAll 4 = .ok (.ifCond .lt 29, 3) := by decide +kernel
theorem dX1_addAll_7 : decode cX1_addAll 7 = .ok (.iload_n 1, 1) := by decide +kernel
theorem dX1_addAll_8 : decode cX1_addAll 8 = .ok (.iload_n 2, 1) := by decide +kernel
theorem dX1_addAll_9 : decode cX1_addAll 9 = .ok (.iushr, 1) := by decide +kernel
theorem dX1_addAll_10 : decode cX1_addAll 10 = .ok (.sipush 255, 3) := by decide +kernel
theorem dX1_addAll_13 : decode cX1_addAll 13 = .ok (.iand, 1) := by decide +kernel
theorem dX1_addAll_14 : decode cX1_addAll 14 = .ok (.istore_n 3, 1) := by decide +kernel
theorem dX1_addAll_15 : decode cX1_addAll 15 = .ok (.iload_n 3, 1) := by decide +kernel
theorem dX1_addAll_16 : decode cX1_addAll 16 = .ok (.ifCond .eq 11, 3) := by decide +kernel
theorem dX1_addAll_19 : decode cX1_addAll 19 = .ok (.aload_n 0, 1) := by decide +kernel
theorem dX1_addAll_20 : decode cX1_addAll 20 = .ok (.getfield 14, 3) := by decide +kernel
theorem dX1_addAll_23 : decode cX1_addAll 23 = .ok (.iload_n 3, 1) := by decide +kernel
theorem dX1_addAll_24 : decode cX1_addAll 24 = .ok (.invokevirtual 47, 3) := by decide +kernel
theorem dX1_addAll_27 : decode cX1_addAll 27 = .ok (.iinc 2 (-8), 3) := by decide +kernel
theorem dX1_addAll_30 : decode cX1_addAll 30 = .ok (.goto (-27), 3) := by decide +kernel
theorem dX1_addAll_33 : decode cX1_addAll 33 = .ok (.return_, 1) := by decide +kernel
theorem dX1_position_0 : decode cX1_position 0 = .ok (.aload_n 0, 1) := by decide +kernel
theorem dX1_position_1 : decode cX1_position 1 = .ok (.getfield 29, 3) := by decide +kernel
theorem dX1_position_4 : decode cX1_position 4 = .ok (.ireturn, 1) := by decide +kernel
theorem dX1_orders_0 : decode cX1_orders 0 = .ok (.aload_n 0, 1) := by decide +kernel
theorem dX1_orders_1 : decode cX1_orders 1 = .ok (.getfield 20, 3) := by decide +kernel
theorem dX1_orders_4 : decode cX1_orders 4 = .ok (.invokevirtual 39, 3) := by decide +kernel
theorem dX1_orders_7 : decode cX1_orders 7 = .ok (.ireturn, 1) := by decide +kernel
theorem dX1_kind_0 : decode cX1_kind 0 = .ok (.aload_n 0, 1) := by decide +kernel
theorem dX1_kind_1 : decode cX1_kind 1 = .ok (.getfield 20, 3) := by decide +kernel
theorem dX1_kind_4 : decode cX1_kind 4 = .ok (.iload_n 1, 1) := by decide +kernel
theorem dX1_kind_5 : decode cX1_kind 5 = .ok (.invokevirtual 50, 3) := by decide +kernel
theorem dX1_kind_8 : decode cX1_kind 8 = .ok (.ireturn, 1) := by decide +kernel
theorem dX1_line_0 : decode cX1_line 0 = .ok (.aload_n 0, 1) := by decide +kernel
theorem dX1_line_1 : decode cX1_line 1 = .ok (.getfield 23, 3) := by decide +kernel
theorem dX1_line_4 : decode cX1_line 4 = .ok (.iload_n 1, 1) := by decide +kernel
theorem dX1_line_5 : decode cX1_line 5 = .ok (.invokevirtual 50, 3) := by decide +kernel
theorem dX1_line_8 : decode cX1_line 8 = .ok (.ireturn, 1) := by decide +kernel
theorem dX1_second_0 : decode cX1_second 0 = .ok (.aload_n 0, 1) := by decide +kernel
theorem dX1_second_1 : decode cX1_second 1 = .ok (.getfield 26, 3) := by decide +kernel
theorem dX1_second_4 : decode cX1_second 4 = .ok (.iload_n 1, 1) := by decide +kernel
theorem dX1_second_5 : decode cX1_second 5 = .ok (.invokevirtual 50, 3) := by decide +kernel
theorem dX1_second_8 : decode cX1_second 8 = .ok (.ireturn, 1) := by decide +kernel
theorem dX1_parse_0 : decode cX1_parse 0 = .ok (.aload_n 0, 1) := by decide +kernel
theorem dX1_parse_1 : decode cX1_parse 1 = .ok (.iconst 0, 1) := by decide +kernel
theorem dX1_parse_2 : decode cX1_parse 2 = .ok (.putfield 29, 3) := by decide +kernel
theorem dX1_parse_5 : decode cX1_parse 5 = .ok (.aload_n 0, 1) := by decide +kernel
theorem dX1_parse_6 : decode cX1_parse 6 = .ok (.getfield 20, 3) := by decide +kernel
theorem dX1_parse_9 : decode cX1_parse 9 = .ok (.iconst 0, 1) := by decide +kernel
theorem dX1_parse_10 : decode cX1_parse 10 = .ok (.iconst 0, 1) := by decide +kernel
theorem dX1_parse_11 : decode cX1_parse 11 = .ok (.invokevirtual 43, 3) := by decide +kernel
theorem dX1_parse_14 : decode cX1_parse 14 = .ok (.aload_n 0, 1) := by decide +kernel
theorem dX1_parse_15 : decode cX1_parse 15 = .ok (.getfield 23, 3) := by decide +kernel
theorem dX1_parse_18 : decode cX1_parse 18 = .ok (.iconst 0, 1) := by decide +kernel
theorem dX1_parse_19 : decode cX1_parse 19 = .ok (.iconst 0, 1) := by decide +kernel
theorem dX1_parse_20 : decode cX1_parse 20 = .ok (.invokevirtual 43, 3) := by decide +kernel
theorem dX1_parse_23 : decode cX1_parse 23 = .ok (.aload_n 0, 1) := by decide +kernel
theorem dX1_parse_24 : decode cX1_parse 24 = .ok (.getfield 26, 3) := by decide +kernel
theorem dX1_parse_27 : decode cX1_parse 27 = .ok (.iconst 0, 1) := by decide +kernel
theorem dX1_parse_28 : decode cX1_parse 28 = .ok (.iconst 0, 1) := by decide +kernel
theorem dX1_parse_29 : decode cX1_parse 29 = .ok (.invokevirtual 43, 3) := by decide +kernel
theorem dX1_parse_32 : decode cX1_parse 32 = .ok (.aload_n 0, 1) := by decide +kernel
theorem dX1_parse_33 : decode cX1_parse 33 = .ok (.invokevirtual 54, 3) := by decide +kernel
theorem dX1_parse_36 : decode cX1_parse 36 = .ok (.istore_n 1, 1) := by decide +kernel
theorem dX1_parse_37 : decode cX1_parse 37 = .ok (.iconst 0, 1) := by decide +kernel
theorem dX1_parse_38 : decode cX1_parse 38 = .ok (.istore_n 2, 1) := by decide +kernel
theorem dX1_parse_39 : decode cX1_parse 39 = .ok (.iload_n 2, 1) := by decide +kernel
theorem dX1_parse_40 : decode cX1_parse 40 = .ok (.bipush 60, 2) := by decide +kernel
theorem dX1_parse_42 : decode cX1_parse 42 = .ok (.if_icmp .ge 46, 3) := by decide +kernel
theorem dX1_parse_45 : decode cX1_parse 45 = .ok (.iload_n 1, 1) := by decide +kernel
theorem dX1_parse_46 : decode cX1_parse 46 = .ok (.ifCond .eq 42, 3) := by decide +kernel
theorem dX1_parse_49 : decode cX1_parse 49 = .ok (.aload_n 0, 1) := by decide +kernel
theorem dX1_parse_50 : decode cX1_parse 50 = .ok (.getfield 29, 3) := by decide +kernel
theorem dX1_parse_53 : decode cX1_parse 53 = .ok (.aload_n 0, 1) := by decide +kernel
theorem dX1_parse_54 : decode cX1_parse 54 = .ok (.invokevirtual 58, 3) := by decide +kernel
theorem dX1_parse_57 : decode cX1_parse 57 = .ok (.if_icmp .ge 31, 3) := by decide +kernel
theorem dX1_parse_60 : decode cX1_parse 60 = .ok (.aload_n 0, 1) := by decide +kernel
theorem dX1_parse_61 : decode cX1_parse 61 = .ok (.bipush 59, 2) := by decide +kernel
theorem dX1_parse_63 : decode cX1_parse 63 = .ok (.invokevirtual 59, 3) := by decide +kernel
theorem dX1_parse_66 : decode cX1_parse 66 = .ok (.ifCond .eq 14, 3) := by decide +kernel
theorem dX1_parse_69 : decode cX1_parse 69 = .ok (.aload_n 0, 1) := by decide +kernel
theorem dX1_parse_70 : decode cX1_parse 70 = .ok (.invokevirtual 54, 3) := by decide +kernel
theorem dX1_parse_73 : decode cX1_parse 73 = .ok (.ifCond .eq 7, 3) := by decide +kernel
theorem dX1_parse_76 : decode cX1_parse 76 = .ok (.iconst 1, 1) := by decide +kernel
theorem dX1_parse_77 : decode cX1_parse 77 = .ok (.goto 4, 3) := by decide +kernel
theorem dX1_parse_80 : decode cX1_parse 80 = .ok (.iconst 0, 1) := by decide +kernel
theorem dX1_parse_81 : decode cX1_parse 81 = .ok (.istore_n 1, 1) := by decide +kernel
theorem dX1_parse_82 : decode cX1_parse 82 = .ok (.iinc 2 1, 3) := by decide +kernel
theorem dX1_parse_85 : decode cX1_parse 85 = .ok (.goto (-46), 3) := by decide +kernel
theorem dX1_parse_88 : decode cX1_parse 88 = .ok (.iload_n 1, 1) := by decide +kernel
theorem dX1_parse_89 : decode cX1_parse 89 = .ok (.ireturn, 1) := by decide +kernel
theorem dX1_parseOrder_0 : decode cX1_parseOrder 0 = .ok (.aload_n 0, 1) := by decide +kernel
theorem dX1_parseOrder_1 : decode cX1_parseOrder 1 = .ok (.getfield 14, 3) := by decide +kernel
theorem dX1_parseOrder_4 : decode cX1_parseOrder 4 = .ok (.aload_n 0, 1) := by decide +kernel
theorem dX1_parseOrder_5 : decode cX1_parseOrder 5 = .ok (.getfield 29, 3) := by decide +kernel
theorem dX1_parseOrder_8 : decode cX1_parseOrder 8 = .ok (.invokevirtual 50, 3) := by decide +kernel
theorem dX1_parseOrder_11 : decode cX1_parseOrder 11 = .ok (.istore_n 1, 1) := by decide +kernel
theorem dX1_parseOrder_12 : decode cX1_parseOrder 12 = .ok (.iload_n 1, 1) := by decide +kernel
theorem dX1_parseOrder_13 : decode cX1_parseOrder 13 = .ok (.invokestatic 63, 3) := by decide +kernel
theorem dX1_parseOrder_16 : decode cX1_parseOrder 16 = .ok (.astore_n 2, 1) := by decide +kernel
theorem dX1_parseOrder_17 : decode cX1_parseOrder 17 = .ok (.aload_n 2, 1) := by decide +kernel
theorem dX1_parseOrder_18 : decode cX1_parseOrder 18 = .ok (.invokevirtual 67, 3) := by decide +kernel
theorem dX1_parseOrder_21 : decode cX1_parseOrder 21 = .ok (.ifCond .eq 5, 3) := by decide +kernel
theorem dX1_parseOrder_24 : decode cX1_parseOrder 24 = .ok (.iconst 0, 1) := by decide +kernel
theorem dX1_parseOrder_25 : decode cX1_parseOrder 25 = .ok (.ireturn, 1) := by decide +kernel
theorem dX1_parseOrder_26 : decode cX1_parseOrder 26 = .ok (.aload_n 0, 1) := by decide +kernel
theorem dX1_parseOrder_27 : decode cX1_parseOrder 27 = .ok (.iconst 0, 1) := by decide +kernel
theorem dX1_parseOrder_28 : decode cX1_parseOrder 28 = .ok (.putfield 33, 3) := by decide +kernel
theorem dX1_parseOrder_31 : decode cX1_parseOrder 31 = .ok (.aload_n 0, 1) := by decide +kernel
theorem dX1_parseOrder_32 : decode cX1_parseOrder 32 = .ok (.iconst 0, 1) := by decide +kernel
theorem dX1_parseOrder_33 : decode cX1_parseOrder 33 = .ok (.putfield 36, 3) := by decide +kernel
theorem dX1_parseOrder_36 : decode cX1_parseOrder 36 = .ok (.iconst 0, 1) := by decide +kernel
theorem dX1_parseOrder_37 : decode cX1_parseOrder 37 = .ok (.istore_n 3, 1) := by decide +kernel
theorem dX1_parseOrder_38 : decode cX1_parseOrder 38 = .ok (.iload_n 3, 1) := by decide +kernel
theorem dX1_parseOrder_39 : decode cX1_parseOrder 39 = .ok (.aload_n 2, 1) := by decide +kernel
theorem dX1_parseOrder_40 : decode cX1_parseOrder 40 = .ok (.invokevirtual 72, 3) := by decide +kernel
theorem dX1_parseOrder_43 : decode cX1_parseOrder 43 = .ok (.if_icmp .ge 23, 3) := by decide +kernel
theorem dX1_parseOrder_46 : decode cX1_parseOrder 46 = .ok (.aload_n 0, 1) := by decide +kernel
theorem dX1_parseOrder_47 : decode cX1_parseOrder 47 = .ok (.aload_n 2, 1) := by decide +kernel
theorem dX1_parseOrder_48 : decode cX1_parseOrder 48 = .ok (.iload_n 3, 1) := by decide +kernel
theorem dX1_parseOrder_49 : decode cX1_parseOrder 49 = .ok (.invokevirtual 75, 3) := by decide +kernel
theorem dX1_parseOrder_52 : decode cX1_parseOrder 52 = .ok (.invokevirtual 79, 3) := by decide +kernel
theorem dX1_parseOrder_55 : decode cX1_parseOrder 55 = .ok (.ifCond .ne 5, 3) := by decide +kernel
theorem dX1_parseOrder_58 : decode cX1_parseOrder 58 = .ok (.iconst 0, 1) := by decide +kernel
theorem dX1_parseOrder_59 : decode cX1_parseOrder 59 = .ok (.ireturn, 1) := by decide +kernel
theorem dX1_parseOrder_60 : decode cX1_parseOrder 60 = .ok (.iinc 3 1, 3) := by decide +kernel
theorem dX1_parseOrder_63 : decode cX1_parseOrder 63 = .ok (.goto (-25), 3) := by decide +kernel
theorem dX1_parseOrder_66 : decode cX1_parseOrder 66 = .ok (.aload_n 0, 1) := by decide +kernel
theorem dX1_parseOrder_67 : decode cX1_parseOrder 67 = .ok (.getfield 20, 3) := by decide +kernel
theorem dX1_parseOrder_70 : decode cX1_parseOrder 70 = .ok (.iload_n 1, 1) := by decide +kernel
theorem dX1_parseOrder_71 : decode cX1_parseOrder 71 = .ok (.invokevirtual 47, 3) := by decide +kernel
theorem dX1_parseOrder_74 : decode cX1_parseOrder 74 = .ok (.aload_n 0, 1) := by decide +kernel
theorem dX1_parseOrder_75 : decode cX1_parseOrder 75 = .ok (.getfield 23, 3) := by decide +kernel
theorem dX1_parseOrder_78 : decode cX1_parseOrder 78 = .ok (.aload_n 0, 1) := by decide +kernel
theorem dX1_parseOrder_79 : decode cX1_parseOrder 79 = .ok (.getfield 33, 3) := by decide +kernel
theorem dX1_parseOrder_82 : decode cX1_parseOrder 82 = .ok (.invokevirtual 47, 3) := by decide +kernel
theorem dX1_parseOrder_85 : decode cX1_parseOrder 85 = .ok (.aload_n 0, 1) := by decide +kernel
theorem dX1_parseOrder_86 : decode cX1_parseOrder 86 = .ok (.getfield 26, 3) := by decide +kernel
theorem dX1_parseOrder_89 : decode cX1_parseOrder 89 = .ok (.aload_n 0, 1) := by decide +kernel
theorem dX1_parseOrder_90 : decode cX1_parseOrder 90 = .ok (.getfield 36, 3) := by decide +kernel
theorem dX1_parseOrder_93 : decode cX1_parseOrder 93 = .ok (.invokevirtual 47, 3) := by decide +kernel
theorem dX1_parseOrder_96 : decode cX1_parseOrder 96 = .ok (.iconst 1, 1) := by decide +kernel
theorem dX1_parseOrder_97 : decode cX1_parseOrder 97 = .ok (.ireturn, 1) := by decide +kernel
theorem dX1_shapeOf_0 : decode cX1_shapeOf 0 = .ok (.iload_n 0, 1) := by decide +kernel
theorem dX1_shapeOf_1 : decode cX1_shapeOf 1 = .ok (.tableswitch 118 102 120 #[112, 118, 115, 118, 118, 118, 103, 109, 118, 118, 97, 118, 118, 91, 118, 94, 118, 100, 106], 91) := by decide +kernel
theorem dX1_shapeOf_92 : decode cX1_shapeOf 92 = .ok (.ldc 82, 2) := by decide +kernel
theorem dX1_shapeOf_94 : decode cX1_shapeOf 94 = .ok (.areturn, 1) := by decide +kernel
theorem dX1_shapeOf_95 : decode cX1_shapeOf 95 = .ok (.ldc 84, 2) := by decide +kernel
theorem dX1_shapeOf_97 : decode cX1_shapeOf 97 = .ok (.areturn, 1) := by decide +kernel
theorem dX1_shapeOf_98 : decode cX1_shapeOf 98 = .ok (.ldc 86, 2) := by decide +kernel
theorem dX1_shapeOf_100 : decode cX1_shapeOf 100 = .ok (.areturn, 1) := by decide +kernel
theorem dX1_shapeOf_101 : decode cX1_shapeOf 101 = .ok (.ldc 88, 2) := by decide +kernel
theorem dX1_shapeOf_103 : decode cX1_shapeOf 103 = .ok (.areturn, 1) := by decide +kernel
theorem dX1_shapeOf_104 : decode cX1_shapeOf 104 = .ok (.ldc 90, 2) := by decide +kernel
theorem dX1_shapeOf_106 : decode cX1_shapeOf 106 = .ok (.areturn, 1) := by decide +kernel
theorem dX1_shapeOf_107 : decode cX1_shapeOf 107 = .ok (.ldc 92, 2) := by decide +kernel
theorem dX1_shapeOf_109 : decode cX1_shapeOf 109 = .ok (.areturn, 1) := by decide +kernel
theorem dX1_shapeOf_110 : decode cX1_shapeOf 110 = .ok (.ldc 94, 2) := by decide +kernel
theorem dX1_shapeOf_112 : decode cX1_shapeOf 112 = .ok (.areturn, 1) := by decide +kernel
theorem dX1_shapeOf_113 : decode cX1_shapeOf 113 = .ok (.ldc 96, 2) := by decide +kernel
theorem dX1_shapeOf_115 : decode cX1_shapeOf 115 = .ok (.areturn, 1) := by decide +kernel
theorem dX1_shapeOf_116 : decode cX1_shapeOf 116 = .ok (.ldc 98, 2) := by decide +kernel
theorem dX1_shapeOf_118 : decode cX1_shapeOf 118 = .ok (.areturn, 1) := by decide +kernel
theorem dX1_shapeOf_119 : decode cX1_shapeOf 119 = .ok (.ldc 100, 2) := by decide +kernel
theorem dX1_shapeOf_121 : decode cX1_shapeOf 121 = .ok (.areturn, 1) := by decide +kernel
theorem dX1_parsePart_0 : decode cX1_parsePart 0 = .ok (.iload_n 1, 1) := by decide +kernel
theorem dX1_parsePart_1 : decode cX1_parsePart 1 = .ok (.lookupswitch 86 #[(68, 58), (76, 35), (87, 81)], 35) := by decide +kernel
theorem dX1_parsePart_36 : decode cX1_parsePart 36 = .ok (.aload_n 0, 1) := by decide +kernel
theorem dX1_parsePart_37 : decode cX1_parsePart 37 = .ok (.aload_n 0, 1) := by decide +kernel
theorem dX1_parsePart_38 : decode cX1_parsePart 38 = .ok (.getfield 14, 3) := by decide +kernel
theorem dX1_parsePart_41 : decode cX1_parsePart 41 = .ok (.aload_n 0, 1) := by decide +kernel
theorem dX1_parsePart_42 : decode cX1_parsePart 42 = .ok (.getfield 29, 3) := by decide +kernel
theorem dX1_parsePart_45 : decode cX1_parsePart 45 = .ok (.invokevirtual 50, 3) := by decide +kernel
theorem dX1_parsePart_48 : decode cX1_parsePart 48 = .ok (.bipush 48, 2) := by decide +kernel
theorem dX1_parsePart_50 : decode cX1_parsePart 50 = .ok (.isub, 1) := by decide +kernel
theorem dX1_parsePart_51 : decode cX1_parsePart 51 = .ok (.putfield 33, 3) := by decide +kernel
theorem dX1_parsePart_54 : decode cX1_parsePart 54 = .ok (.aload_n 0, 1) := by decide +kernel
theorem dX1_parsePart_55 : decode cX1_parsePart 55 = .ok (.invokevirtual 102, 3) := by decide +kernel
theorem dX1_parsePart_58 : decode cX1_parsePart 58 = .ok (.ireturn, 1) := by decide +kernel
theorem dX1_parsePart_59 : decode cX1_parsePart 59 = .ok (.aload_n 0, 1) := by decide +kernel
theorem dX1_parsePart_60 : decode cX1_parsePart 60 = .ok (.aload_n 0, 1) := by decide +kernel
theorem dX1_parsePart_61 : decode cX1_parsePart 61 = .ok (.getfield 14, 3) := by decide +kernel
theorem dX1_parsePart_64 : decode cX1_parsePart 64 = .ok (.aload_n 0, 1) := by decide +kernel
theorem dX1_parsePart_65 : decode cX1_parsePart 65 = .ok (.getfield 29, 3) := by decide +kernel
theorem dX1_parsePart_68 : decode cX1_parsePart 68 = .ok (.invokevirtual 50, 3) := by decide +kernel
theorem dX1_parsePart_71 : decode cX1_parsePart 71 = .ok (.bipush 48, 2) := by decide +kernel
theorem dX1_parsePart_73 : decode cX1_parsePart 73 = .ok (.isub, 1) := by decide +kernel
theorem dX1_parsePart_74 : decode cX1_parsePart 74 = .ok (.putfield 36, 3) := by decide +kernel
theorem dX1_parsePart_77 : decode cX1_parsePart 77 = .ok (.aload_n 0, 1) := by decide +kernel
theorem dX1_parsePart_78 : decode cX1_parsePart 78 = .ok (.invokevirtual 102, 3) := by decide +kernel
theorem dX1_parsePart_81 : decode cX1_parsePart 81 = .ok (.ireturn, 1) := by decide +kernel
theorem dX1_parsePart_82 : decode cX1_parsePart 82 = .ok (.aload_n 0, 1) := by decide +kernel
theorem dX1_parsePart_83 : decode cX1_parsePart 83 = .ok (.invokevirtual 105, 3) := by decide +kernel
theorem dX1_parsePart_86 : decode cX1_parsePart 86 = .ok (.ireturn, 1) := by decide +kernel
theorem dX1_parsePart_87 : decode cX1_parsePart 87 = .ok (.aload_n 0, 1) := by decide +kernel
theorem dX1_parsePart_88 : decode cX1_parsePart 88 = .ok (.iload_n 1, 1) := by decide +kernel
theorem dX1_parsePart_89 : decode cX1_parsePart 89 = .ok (.invokevirtual 59, 3) := by decide +kernel
theorem dX1_parsePart_92 : decode cX1_parsePart 92 = .ok (.ireturn, 1) := by decide +kernel
theorem dX1_parseSign_0 : decode cX1_parseSign 0 = .ok (.aload_n 0, 1) := by decide +kernel
theorem dX1_parseSign_1 : decode cX1_parseSign 1 = .ok (.getfield 14, 3) := by decide +kernel
theorem dX1_parseSign_4 : decode cX1_parseSign 4 = .ok (.aload_n 0, 1) := by decide +kernel
theorem dX1_parseSign_5 : decode cX1_parseSign 5 = .ok (.getfield 29, 3) := by decide +kernel
theorem dX1_parseSign_8 : decode cX1_parseSign 8 = .ok (.invokevirtual 50, 3) := by decide +kernel
theorem dX1_parseSign_11 : decode cX1_parseSign 11 = .ok (.iload_n 1, 1) := by decide +kernel
theorem dX1_parseSign_12 : decode cX1_parseSign 12 = .ok (.if_icmp .eq 5, 3) := by decide +kernel
theorem dX1_parseSign_15 : decode cX1_parseSign 15 = .ok (.iconst 0, 1) := by decide +kernel
theorem dX1_parseSign_16 : decode cX1_parseSign 16 = .ok (.ireturn, 1) := by decide +kernel
theorem dX1_parseSign_17 : decode cX1_parseSign 17 = .ok (.aload_n 0, 1) := by decide +kernel
theorem dX1_parseSign_18 : decode cX1_parseSign 18 = .ok (.dup, 1) := by decide +kernel
theorem dX1_parseSign_19 : decode cX1_parseSign 19 = .ok (.getfield 29, 3) := by decide +kernel
theorem dX1_parseSign_22 : decode cX1_parseSign 22 = .ok (.iconst 1, 1) := by decide +kernel
theorem dX1_parseSign_23 : decode cX1_parseSign 23 = .ok (.iadd, 1) := by decide +kernel
theorem dX1_parseSign_24 : decode cX1_parseSign 24 = .ok (.putfield 29, 3) := by decide +kernel
theorem dX1_parseSign_27 : decode cX1_parseSign 27 = .ok (.iconst 1, 1) := by decide +kernel
theorem dX1_parseSign_28 : decode cX1_parseSign 28 = .ok (.ireturn, 1) := by decide +kernel
theorem dX1_parseDigit_0 : decode cX1_parseDigit 0 = .ok (.aload_n 0, 1) := by decide +kernel
theorem dX1_parseDigit_1 : decode cX1_parseDigit 1 = .ok (.getfield 14, 3) := by decide +kernel
theorem dX1_parseDigit_4 : decode cX1_parseDigit 4 = .ok (.aload_n 0, 1) := by decide +kernel
theorem dX1_parseDigit_5 : decode cX1_parseDigit 5 = .ok (.getfield 29, 3) := by decide +kernel
theorem dX1_parseDigit_8 : decode cX1_parseDigit 8 = .ok (.invokevirtual 50, 3) := by decide +kernel
theorem dX1_parseDigit_11 : decode cX1_parseDigit 11 = .ok (.bipush 48, 2) := by decide +kernel
theorem dX1_parseDigit_13 : decode cX1_parseDigit 13 = .ok (.if_icmp .lt 19, 3) := by decide +kernel
theorem dX1_parseDigit_16 : decode cX1_parseDigit 16 = .ok (.aload_n 0, 1) := by decide +kernel
theorem dX1_parseDigit_17 : decode cX1_parseDigit 17 = .ok (.getfield 14, 3) := by decide +kernel
theorem dX1_parseDigit_20 : decode cX1_parseDigit 20 = .ok (.aload_n 0, 1) := by decide +kernel
theorem dX1_parseDigit_21 : decode cX1_parseDigit 21 = .ok (.getfield 29, 3) := by decide +kernel
theorem dX1_parseDigit_24 : decode cX1_parseDigit 24 = .ok (.invokevirtual 50, 3) := by decide +kernel
theorem dX1_parseDigit_27 : decode cX1_parseDigit 27 = .ok (.bipush 57, 2) := by decide +kernel
theorem dX1_parseDigit_29 : decode cX1_parseDigit 29 = .ok (.if_icmp .le 5, 3) := by decide +kernel
theorem dX1_parseDigit_32 : decode cX1_parseDigit 32 = .ok (.iconst 0, 1) := by decide +kernel
theorem dX1_parseDigit_33 : decode cX1_parseDigit 33 = .ok (.ireturn, 1) := by decide +kernel
theorem dX1_parseDigit_34 : decode cX1_parseDigit 34 = .ok (.aload_n 0, 1) := by decide +kernel
theorem dX1_parseDigit_35 : decode cX1_parseDigit 35 = .ok (.dup, 1) := by decide +kernel
theorem dX1_parseDigit_36 : decode cX1_parseDigit 36 = .ok (.getfield 29, 3) := by decide +kernel
theorem dX1_parseDigit_39 : decode cX1_parseDigit 39 = .ok (.iconst 1, 1) := by decide +kernel
theorem dX1_parseDigit_40 : decode cX1_parseDigit 40 = .ok (.iadd, 1) := by decide +kernel
theorem dX1_parseDigit_41 : decode cX1_parseDigit 41 = .ok (.putfield 29, 3) := by decide +kernel
theorem dX1_parseDigit_44 : decode cX1_parseDigit 44 = .ok (.iconst 1, 1) := by decide +kernel
theorem dX1_parseDigit_45 : decode cX1_parseDigit 45 = .ok (.ireturn, 1) := by decide +kernel
theorem dX1_parseWord_0 : decode cX1_parseWord 0 = .ok (.iconst 0, 1) := by decide +kernel
theorem dX1_parseWord_1 : decode cX1_parseWord 1 = .ok (.istore_n 1, 1) := by decide +kernel
theorem dX1_parseWord_2 : decode cX1_parseWord 2 = .ok (.iconst 0, 1) := by decide +kernel
theorem dX1_parseWord_3 : decode cX1_parseWord 3 = .ok (.istore_n 2, 1) := by decide +kernel
theorem dX1_parseWord_4 : decode cX1_parseWord 4 = .ok (.iload_n 1, 1) := by decide +kernel
theorem dX1_parseWord_5 : decode cX1_parseWord 5 = .ok (.bipush 6, 2) := by decide +kernel
theorem dX1_parseWord_7 : decode cX1_parseWord 7 = .ok (.if_icmp .ge 62, 3) := by decide +kernel
theorem dX1_parseWord_10 : decode cX1_parseWord 10 = .ok (.aload_n 0, 1) := by decide +kernel
theorem dX1_parseWord_11 : decode cX1_parseWord 11 = .ok (.getfield 14, 3) := by decide +kernel
theorem dX1_parseWord_14 : decode cX1_parseWord 14 = .ok (.aload_n 0, 1) := by decide +kernel
theorem dX1_parseWord_15 : decode cX1_parseWord 15 = .ok (.getfield 29, 3) := by decide +kernel
theorem dX1_parseWord_18 : decode cX1_parseWord 18 = .ok (.invokevirtual 50, 3) := by decide +kernel
theorem dX1_parseWord_21 : decode cX1_parseWord 21 = .ok (.invokestatic 108, 3) := by decide +kernel
theorem dX1_parseWord_24 : decode cX1_parseWord 24 = .ok (.ifCond .eq 45, 3) := by decide +kernel
theorem dX1_parseWord_27 : decode cX1_parseWord 27 = .ok (.iload_n 2, 1) := by decide +kernel
theorem dX1_parseWord_28 : decode cX1_parseWord 28 = .ok (.aload_n 0, 1) := by decide +kernel
theorem dX1_parseWord_29 : decode cX1_parseWord 29 = .ok (.getfield 14, 3) := by decide +kernel
theorem dX1_parseWord_32 : decode cX1_parseWord 32 = .ok (.aload_n 0, 1) := by decide +kernel
theorem dX1_parseWord_33 : decode cX1_parseWord 33 = .ok (.getfield 29, 3) := by decide +kernel
theorem dX1_parseWord_36 : decode cX1_parseWord 36 = .ok (.invokevirtual 50, 3) := by decide +kernel
theorem dX1_parseWord_39 : decode cX1_parseWord 39 = .ok (.bipush 108, 2) := by decide +kernel
theorem dX1_parseWord_41 : decode cX1_parseWord 41 = .ok (.if_icmp .ne 9, 3) := by decide +kernel
theorem dX1_parseWord_44 : decode cX1_parseWord 44 = .ok (.iconst 1, 1) := by decide +kernel
theorem dX1_parseWord_45 : decode cX1_parseWord 45 = .ok (.iload_n 1, 1) := by decide +kernel
theorem dX1_parseWord_46 : decode cX1_parseWord 46 = .ok (.ishl, 1) := by decide +kernel
theorem dX1_parseWord_47 : decode cX1_parseWord 47 = .ok (.goto 4, 3) := by decide +kernel
theorem dX1_parseWord_50 : decode cX1_parseWord 50 = .ok (.iconst 0, 1) := by decide +kernel
theorem dX1_parseWord_51 : decode cX1_parseWord 51 = .ok (.ior, 1) := by decide +kernel
theorem dX1_parseWord_52 : decode cX1_parseWord 52 = .ok (.istore_n 2, 1) := by decide +kernel
theorem dX1_parseWord_53 : decode cX1_parseWord 53 = .ok (.iinc 1 1, 3) := by decide +kernel
theorem dX1_parseWord_56 : decode cX1_parseWord 56 = .ok (.aload_n 0, 1) := by decide +kernel
theorem dX1_parseWord_57 : decode cX1_parseWord 57 = .ok (.dup, 1) := by decide +kernel
theorem dX1_parseWord_58 : decode cX1_parseWord 58 = .ok (.getfield 29, 3) := by decide +kernel
theorem dX1_parseWord_61 : decode cX1_parseWord 61 = .ok (.iconst 1, 1) := by decide +kernel
theorem dX1_parseWord_62 : decode cX1_parseWord 62 = .ok (.iadd, 1) := by decide +kernel
theorem dX1_parseWord_63 : decode cX1_parseWord 63 = .ok (.putfield 29, 3) := by decide +kernel
theorem dX1_parseWord_66 : decode cX1_parseWord 66 = .ok (.goto (-62), 3) := by decide +kernel
theorem dX1_parseWord_69 : decode cX1_parseWord 69 = .ok (.aload_n 0, 1) := by decide +kernel
theorem dX1_parseWord_70 : decode cX1_parseWord 70 = .ok (.iload_n 1, 1) := by decide +kernel
theorem dX1_parseWord_71 : decode cX1_parseWord 71 = .ok (.iload_n 2, 1) := by decide +kernel
theorem dX1_parseWord_72 : decode cX1_parseWord 72 = .ok (.invokestatic 111, 3) := by decide +kernel
theorem dX1_parseWord_75 : decode cX1_parseWord 75 = .ok (.putfield 36, 3) := by decide +kernel
theorem dX1_parseWord_78 : decode cX1_parseWord 78 = .ok (.iload_n 1, 1) := by decide +kernel
theorem dX1_parseWord_79 : decode cX1_parseWord 79 = .ok (.ifCond .le 7, 3) := by decide +kernel
theorem dX1_parseWord_82 : decode cX1_parseWord 82 = .ok (.iconst 1, 1) := by decide +kernel
theorem dX1_parseWord_83 : decode cX1_parseWord 83 = .ok (.goto 4, 3) := by decide +kernel
theorem dX1_parseWord_86 : decode cX1_parseWord 86 = .ok (.iconst 0, 1) := by decide +kernel
theorem dX1_parseWord_87 : decode cX1_parseWord 87 = .ok (.ireturn, 1) := by decide +kernel
theorem dX1_isLetter_0 : decode cX1_isLetter 0 = .ok (.iload_n 0, 1) := by decide +kernel
theorem dX1_isLetter_1 : decode cX1_isLetter 1 = .ok (.bipush 108, 2) := by decide +kernel
theorem dX1_isLetter_3 : decode cX1_isLetter 3 = .ok (.if_icmp .eq 9, 3) := by decide +kernel
theorem dX1_isLetter_6 : decode cX1_isLetter 6 = .ok (.iload_n 0, 1) := by decide +kernel
theorem dX1_isLetter_7 : decode cX1_isLetter 7 = .ok (.bipush 115, 2) := by decide +kernel
theorem dX1_isLetter_9 : decode cX1_isLetter 9 = .ok (.if_icmp .ne 7, 3) := by decide +kernel
theorem dX1_isLetter_12 : decode cX1_isLetter 12 = .ok (.iconst 1, 1) := by decide +kernel
theorem dX1_isLetter_13 : decode cX1_isLetter 13 = .ok (.goto 4, 3) := by decide +kernel
theorem dX1_isLetter_16 : decode cX1_isLetter 16 = .ok (.iconst 0, 1) := by decide +kernel
theorem dX1_isLetter_17 : decode cX1_isLetter 17 = .ok (.ireturn, 1) := by decide +kernel
theorem dX2_init_0 : decode cX2_init 0 = .ok (.aload_n 0, 1) := by decide +kernel
theorem dX2_init_1 : decode cX2_init 1 = .ok (.invokespecial 1, 3) := by decide +kernel
theorem dX2_init_4 : decode cX2_init 4 = .ok (.aload_n 0, 1) := by decide +kernel
theorem dX2_init_5 : decode cX2_init 5 = .ok (.iconst 0, 1) := by decide +kernel
theorem dX2_init_6 : decode cX2_init 6 = .ok (.putfield 7, 3) := by decide +kernel
theorem dX2_init_9 : decode cX2_init 9 = .ok (.aload_n 0, 1) := by decide +kernel
theorem dX2_init_10 : decode cX2_init 10 = .ok (.iload_n 1, 1) := by decide +kernel
theorem dX2_init_11 : decode cX2_init 11 = .ok (.ifCond .ge 7, 3) := by decide +kernel
theorem dX2_init_14 : decode cX2_init 14 = .ok (.iconst 0, 1) := by decide +kernel
theorem dX2_init_15 : decode cX2_init 15 = .ok (.goto 4, 3) := by decide +kernel
theorem dX2_init_18 : decode cX2_init 18 = .ok (.iload_n 1, 1) := by decide +kernel
theorem dX2_init_19 : decode cX2_init 19 = .ok (.newarray .int, 2) := by decide +kernel
theorem dX2_init_21 : decode cX2_init 21 = .ok (.putfield 13, 3) := by decide +kernel
theorem dX2_init_24 : decode cX2_init 24 = .ok (.return_, 1) := by decide +kernel
theorem dX2_size_0 : decode cX2_size 0 = .ok (.aload_n 0, 1) := by decide +kernel
theorem dX2_size_1 : decode cX2_size 1 = .ok (.getfield 7, 3) := by decide +kernel
theorem dX2_size_4 : decode cX2_size 4 = .ok (.ireturn, 1) := by decide +kernel
theorem dX2_at_0 : decode cX2_at 0 = .ok (.iload_n 1, 1) := by decide +kernel
theorem dX2_at_1 : decode cX2_at 1 = .ok (.ifCond .lt 29, 3) := by decide +kernel
theorem dX2_at_4 : decode cX2_at 4 = .ok (.iload_n 1, 1) := by decide +kernel
theorem dX2_at_5 : decode cX2_at 5 = .ok (.aload_n 0, 1) := by decide +kernel
theorem dX2_at_6 : decode cX2_at 6 = .ok (.getfield 7, 3) := by decide +kernel
theorem dX2_at_9 : decode cX2_at 9 = .ok (.if_icmp .ge 21, 3) := by decide +kernel
theorem dX2_at_12 : decode cX2_at 12 = .ok (.iload_n 1, 1) := by decide +kernel
theorem dX2_at_13 : decode cX2_at 13 = .ok (.aload_n 0, 1) := by decide +kernel
theorem dX2_at_14 : decode cX2_at 14 = .ok (.getfield 13, 3) := by decide +kernel
theorem dX2_at_17 : decode cX2_at 17 = .ok (.arraylength, 1) := by decide +kernel
theorem dX2_at_18 : decode cX2_at 18 = .ok (.if_icmp .ge 12, 3) := by decide +kernel
theorem dX2_at_21 : decode cX2_at 21 = .ok (.aload_n 0, 1) := by decide +kernel
theorem dX2_at_22 : decode cX2_at 22 = .ok (.getfield 13, 3) := by decide +kernel
theorem dX2_at_25 : decode cX2_at 25 = .ok (.iload_n 1, 1) := by decide +kernel
theorem dX2_at_26 : decode cX2_at 26 = .ok (.iaload, 1) := by decide +kernel
theorem dX2_at_27 : decode cX2_at 27 = .ok (.goto 4, 3) := by decide +kernel
theorem dX2_at_30 : decode cX2_at 30 = .ok (.iconst 0, 1) := by decide +kernel
theorem dX2_at_31 : decode cX2_at 31 = .ok (.ireturn, 1) := by decide +kernel
theorem dX2_put_0 : decode cX2_put 0 = .ok (.iload_n 1, 1) := by decide +kernel
theorem dX2_put_1 : decode cX2_put 1 = .ok (.ifCond .lt 27, 3) := by decide +kernel
theorem dX2_put_4 : decode cX2_put 4 = .ok (.iload_n 1, 1) := by decide +kernel
theorem dX2_put_5 : decode cX2_put 5 = .ok (.aload_n 0, 1) := by decide +kernel
theorem dX2_put_6 : decode cX2_put 6 = .ok (.getfield 7, 3) := by decide +kernel
theorem dX2_put_9 : decode cX2_put 9 = .ok (.if_icmp .ge 19, 3) := by decide +kernel
theorem dX2_put_12 : decode cX2_put 12 = .ok (.iload_n 1, 1) := by decide +kernel
theorem dX2_put_13 : decode cX2_put 13 = .ok (.aload_n 0, 1) := by decide +kernel
theorem dX2_put_14 : decode cX2_put 14 = .ok (.getfield 13, 3) := by decide +kernel
theorem dX2_put_17 : decode cX2_put 17 = .ok (.arraylength, 1) := by decide +kernel
theorem dX2_put_18 : decode cX2_put 18 = .ok (.if_icmp .ge 10, 3) := by decide +kernel
theorem dX2_put_21 : decode cX2_put 21 = .ok (.aload_n 0, 1) := by decide +kernel
theorem dX2_put_22 : decode cX2_put 22 = .ok (.getfield 13, 3) := by decide +kernel
theorem dX2_put_25 : decode cX2_put 25 = .ok (.iload_n 1, 1) := by decide +kernel
theorem dX2_put_26 : decode cX2_put 26 = .ok (.iload_n 2, 1) := by decide +kernel
theorem dX2_put_27 : decode cX2_put 27 = .ok (.iastore, 1) := by decide +kernel
theorem dX2_put_28 : decode cX2_put 28 = .ok (.return_, 1) := by decide +kernel
theorem dX2_raise_0 : decode cX2_raise 0 = .ok (.aload_n 0, 1) := by decide +kernel
theorem dX2_raise_1 : decode cX2_raise 1 = .ok (.iload_n 1, 1) := by decide +kernel
theorem dX2_raise_2 : decode cX2_raise 2 = .ok (.aload_n 0, 1) := by decide +kernel
theorem dX2_raise_3 : decode cX2_raise 3 = .ok (.iload_n 1, 1) := by decide +kernel
theorem dX2_raise_4 : decode cX2_raise 4 = .ok (.invokevirtual 17, 3) := by decide +kernel
theorem dX2_raise_7 : decode cX2_raise 7 = .ok (.iload_n 2, 1) := by decide +kernel
theorem dX2_raise_8 : decode cX2_raise 8 = .ok (.iadd, 1) := by decide +kernel
theorem dX2_raise_9 : decode cX2_raise 9 = .ok (.invokevirtual 21, 3) := by decide +kernel
theorem dX2_raise_12 : decode cX2_raise 12 = .ok (.return_, 1) := by decide +kernel
theorem dX2_add_0 : decode cX2_add 0 = .ok (.aload_n 0, 1) := by decide +kernel
theorem dX2_add_1 : decode cX2_add 1 = .ok (.getfield 7, 3) := by decide +kernel
theorem dX2_add_4 : decode cX2_add 4 = .ok (.ifCond .lt 35, 3) := by decide +kernel
theorem dX2_add_7 : decode cX2_add 7 = .ok (.aload_n 0, 1) := by decide +kernel
theorem dX2_add_8 : decode cX2_add 8 = .ok (.getfield 7, 3) := by decide +kernel
theorem dX2_add_11 : decode cX2_add 11 = .ok (.aload_n 0, 1) := by decide +kernel
theorem dX2_add_12 : decode cX2_add 12 = .ok (.getfield 13, 3) := by decide +kernel
theorem dX2_add_15 : decode cX2_add 15 = .ok (.arraylength, 1) := by decide +kernel
theorem dX2_add_16 : decode cX2_add 16 = .ok (.if_icmp .ge 23, 3) := by decide +kernel
theorem dX2_add_19 : decode cX2_add 19 = .ok (.aload_n 0, 1) := by decide +kernel
theorem dX2_add_20 : decode cX2_add 20 = .ok (.getfield 13, 3) := by decide +kernel
theorem dX2_add_23 : decode cX2_add 23 = .ok (.aload_n 0, 1) := by decide +kernel
theorem dX2_add_24 : decode cX2_add 24 = .ok (.getfield 7, 3) := by decide +kernel
theorem dX2_add_27 : decode cX2_add 27 = .ok (.iload_n 1, 1) := by decide +kernel
theorem dX2_add_28 : decode cX2_add 28 = .ok (.iastore, 1) := by decide +kernel
theorem dX2_add_29 : decode cX2_add 29 = .ok (.aload_n 0, 1) := by decide +kernel
theorem dX2_add_30 : decode cX2_add 30 = .ok (.dup, 1) := by decide +kernel
theorem dX2_add_31 : decode cX2_add 31 = .ok (.getfield 7, 3) := by decide +kernel
theorem dX2_add_34 : decode cX2_add 34 = .ok (.iconst 1, 1) := by decide +kernel
theorem dX2_add_35 : decode cX2_add 35 = .ok (.iadd, 1) := by decide +kernel
theorem dX2_add_36 : decode cX2_add 36 = .ok (.putfield 7, 3) := by decide +kernel
theorem dX2_add_39 : decode cX2_add 39 = .ok (.return_, 1) := by decide +kernel
theorem dX2_fill_0 : decode cX2_fill 0 = .ok (.aload_n 0, 1) := by decide +kernel
theorem dX2_fill_1 : decode cX2_fill 1 = .ok (.iconst 0, 1) := by decide +kernel
theorem dX2_fill_2 : decode cX2_fill 2 = .ok (.iload_n 1, 1) := by decide +kernel
theorem dX2_fill_3 : decode cX2_fill 3 = .ok (.aload_n 0, 1) := by decide +kernel
theorem dX2_fill_4 : decode cX2_fill 4 = .ok (.getfield 13, 3) := by decide +kernel
theorem dX2_fill_7 : decode cX2_fill 7 = .ok (.arraylength, 1) := by decide +kernel
theorem dX2_fill_8 : decode cX2_fill 8 = .ok (.invokestatic 25, 3) := by decide +kernel
theorem dX2_fill_11 : decode cX2_fill 11 = .ok (.invokestatic 31, 3) := by decide +kernel
theorem dX2_fill_14 : decode cX2_fill 14 = .ok (.putfield 7, 3) := by decide +kernel
theorem dX2_fill_17 : decode cX2_fill 17 = .ok (.iconst 0, 1) := by decide +kernel
theorem dX2_fill_18 : decode cX2_fill 18 = .ok (.istore_n 3, 1) := by decide +kernel
theorem dX2_fill_19 : decode cX2_fill 19 = .ok (.iload_n 3, 1) := by decide +kernel
theorem dX2_fill_20 : decode cX2_fill 20 = .ok (.aload_n 0, 1) := by decide +kernel
theorem dX2_fill_21 : decode cX2_fill 21 = .ok (.getfield 7, 3) := by decide +kernel
theorem dX2_fill_24 : decode cX2_fill 24 = .ok (.if_icmp .ge 25, 3) := by decide +kernel
theorem dX2_fill_27 : decode cX2_fill 27 = .ok (.iload_n 3, 1) := by decide +kernel
theorem dX2_fill_28 : decode cX2_fill 28 = .ok (.aload_n 0, 1) := by decide +kernel
theorem dX2_fill_29 : decode cX2_fill 29 = .ok (.getfield 13, 3) := by decide +kernel
theorem dX2_fill_32 : decode cX2_fill 32 = .ok (.arraylength, 1) := by decide +kernel
theorem dX2_fill_33 : decode cX2_fill 33 = .ok (.if_icmp .ge 16, 3) := by decide +kernel
theorem dX2_fill_36 : decode cX2_fill 36 = .ok (.aload_n 0, 1) := by decide +kernel
theorem dX2_fill_37 : decode cX2_fill 37 = .ok (.getfield 13, 3) := by decide +kernel
theorem dX2_fill_40 : decode cX2_fill 40 = .ok (.iload_n 3, 1) := by decide +kernel
theorem dX2_fill_41 : decode cX2_fill 41 = .ok (.iload_n 2, 1) := by decide +kernel
theorem dX2_fill_42 : decode cX2_fill 42 = .ok (.iastore, 1) := by decide +kernel
theorem dX2_fill_43 : decode cX2_fill 43 = .ok (.iinc 3 1, 3) := by decide +kernel
theorem dX2_fill_46 : decode cX2_fill 46 = .ok (.goto (-27), 3) := by decide +kernel
theorem dX2_fill_49 : decode cX2_fill 49 = .ok (.return_, 1) := by decide +kernel
theorem dX2_shorten_0 : decode cX2_shorten 0 = .ok (.aload_n 0, 1) := by decide +kernel
theorem dX2_shorten_1 : decode cX2_shorten 1 = .ok (.iconst 0, 1) := by decide +kernel
theorem dX2_shorten_2 : decode cX2_shorten 2 = .ok (.iload_n 1, 1) := by decide +kernel
theorem dX2_shorten_3 : decode cX2_shorten 3 = .ok (.aload_n 0, 1) := by decide +kernel
theorem dX2_shorten_4 : decode cX2_shorten 4 = .ok (.getfield 7, 3) := by decide +kernel
theorem dX2_shorten_7 : decode cX2_shorten 7 = .ok (.invokestatic 25, 3) := by decide +kernel
theorem dX2_shorten_10 : decode cX2_shorten 10 = .ok (.invokestatic 31, 3) := by decide +kernel
theorem dX2_shorten_13 : decode cX2_shorten 13 = .ok (.putfield 7, 3) := by decide +kernel
theorem dX2_shorten_16 : decode cX2_shorten 16 = .ok (.return_, 1) := by decide +kernel
theorem dX2_copyFrom_0 : decode cX2_copyFrom 0 = .ok (.aload_n 0, 1) := by decide +kernel
theorem dX2_copyFrom_1 : decode cX2_copyFrom 1 = .ok (.aload_n 1, 1) := by decide +kernel
theorem dX2_copyFrom_2 : decode cX2_copyFrom 2 = .ok (.invokevirtual 34, 3) := by decide +kernel
theorem dX2_copyFrom_5 : decode cX2_copyFrom 5 = .ok (.aload_n 0, 1) := by decide +kernel
theorem dX2_copyFrom_6 : decode cX2_copyFrom 6 = .ok (.getfield 13, 3) := by decide +kernel
theorem dX2_copyFrom_9 : decode cX2_copyFrom 9 = .ok (.arraylength, 1) := by decide +kernel
theorem dX2_copyFrom_10 : decode cX2_copyFrom 10 = .ok (.invokestatic 25, 3) := by decide +kernel
theorem dX2_copyFrom_13 : decode cX2_copyFrom 13 = .ok (.putfield 7, 3) := by decide +kernel
theorem dX2_copyFrom_16 : decode cX2_copyFrom 16 = .ok (.iconst 0, 1) := by decide +kernel
theorem dX2_copyFrom_17 : decode cX2_copyFrom 17 = .ok (.istore_n 2, 1) := by decide +kernel
theorem dX2_copyFrom_18 : decode cX2_copyFrom 18 = .ok (.iload_n 2, 1) := by decide +kernel
theorem dX2_copyFrom_19 : decode cX2_copyFrom 19 = .ok (.aload_n 0, 1) := by decide +kernel
theorem dX2_copyFrom_20 : decode cX2_copyFrom 20 = .ok (.getfield 7, 3) := by decide +kernel
theorem dX2_copyFrom_23 : decode cX2_copyFrom 23 = .ok (.if_icmp .ge 29, 3) := by decide +kernel
theorem dX2_copyFrom_26 : decode cX2_copyFrom 26 = .ok (.iload_n 2, 1) := by decide +kernel
theorem dX2_copyFrom_27 : decode cX2_copyFrom 27 = .ok (.aload_n 0, 1) := by decide +kernel
theorem dX2_copyFrom_28 : decode cX2_copyFrom 28 = .ok (.getfield 13, 3) := by decide +kernel
theorem dX2_copyFrom_31 : decode cX2_copyFrom 31 = .ok (.arraylength, 1) := by decide +kernel
theorem dX2_copyFrom_32 : decode cX2_copyFrom 32 = .ok (.if_icmp .ge 20, 3) := by decide +kernel
theorem dX2_copyFrom_35 : decode cX2_copyFrom 35 = .ok (.aload_n 0, 1) := by decide +kernel
theorem dX2_copyFrom_36 : decode cX2_copyFrom 36 = .ok (.getfield 13, 3) := by decide +kernel
theorem dX2_copyFrom_39 : decode cX2_copyFrom 39 = .ok (.iload_n 2, 1) := by decide +kernel
theorem dX2_copyFrom_40 : decode cX2_copyFrom 40 = .ok (.aload_n 1, 1) := by decide +kernel
theorem dX2_copyFrom_41 : decode cX2_copyFrom 41 = .ok (.iload_n 2, 1) := by decide +kernel
theorem dX2_copyFrom_42 : decode cX2_copyFrom 42 = .ok (.invokevirtual 17, 3) := by decide +kernel
theorem dX2_copyFrom_45 : decode cX2_copyFrom 45 = .ok (.iastore, 1) := by decide +kernel
theorem dX2_copyFrom_46 : decode cX2_copyFrom 46 = .ok (.iinc 2 1, 3) := by decide +kernel
theorem dX2_copyFrom_49 : decode cX2_copyFrom 49 = .ok (.goto (-31), 3) := by decide +kernel
theorem dX2_copyFrom_52 : decode cX2_copyFrom 52 = .ok (.return_, 1) := by decide +kernel
theorem dX2_total_0 : decode cX2_total 0 = .ok (.iconst 0, 1) := by decide +kernel
theorem dX2_total_1 : decode cX2_total 1 = .ok (.istore_n 1, 1) := by decide +kernel
theorem dX2_total_2 : decode cX2_total 2 = .ok (.iconst 0, 1) := by decide +kernel
theorem dX2_total_3 : decode cX2_total 3 = .ok (.istore_n 2, 1) := by decide +kernel
theorem dX2_total_4 : decode cX2_total 4 = .ok (.iload_n 2, 1) := by decide +kernel
theorem dX2_total_5 : decode cX2_total 5 = .ok (.aload_n 0, 1) := by decide +kernel
theorem dX2_total_6 : decode cX2_total 6 = .ok (.getfield 7, 3) := by decide +kernel
theorem dX2_total_9 : decode cX2_total 9 = .ok (.if_icmp .ge 27, 3) := by decide +kernel
theorem dX2_total_12 : decode cX2_total 12 = .ok (.iload_n 2, 1) := by decide +kernel
theorem dX2_total_13 : decode cX2_total 13 = .ok (.aload_n 0, 1) := by decide +kernel
theorem dX2_total_14 : decode cX2_total 14 = .ok (.getfield 13, 3) := by decide +kernel
theorem dX2_total_17 : decode cX2_total 17 = .ok (.arraylength, 1) := by decide +kernel
theorem dX2_total_18 : decode cX2_total 18 = .ok (.if_icmp .ge 18, 3) := by decide +kernel
theorem dX2_total_21 : decode cX2_total 21 = .ok (.iload_n 1, 1) := by decide +kernel
theorem dX2_total_22 : decode cX2_total 22 = .ok (.aload_n 0, 1) := by decide +kernel
theorem dX2_total_23 : decode cX2_total 23 = .ok (.getfield 13, 3) := by decide +kernel
theorem dX2_total_26 : decode cX2_total 26 = .ok (.iload_n 2, 1) := by decide +kernel
theorem dX2_total_27 : decode cX2_total 27 = .ok (.iaload, 1) := by decide +kernel
theorem dX2_total_28 : decode cX2_total 28 = .ok (.iadd, 1) := by decide +kernel
theorem dX2_total_29 : decode cX2_total 29 = .ok (.istore_n 1, 1) := by decide +kernel
theorem dX2_total_30 : decode cX2_total 30 = .ok (.iinc 2 1, 3) := by decide +kernel
theorem dX2_total_33 : decode cX2_total 33 = .ok (.goto (-29), 3) := by decide +kernel
theorem dX2_total_36 : decode cX2_total 36 = .ok (.iload_n 1, 1) := by decide +kernel
theorem dX2_total_37 : decode cX2_total 37 = .ok (.ireturn, 1) := by decide +kernel
theorem dX2_numberAboveZero_0 : decode cX2_numberAboveZero 0 = .ok (.iconst 0, 1) := by decide +kernel
theorem dX2_numberAboveZero_1 : decode cX2_numberAboveZero 1 = .ok (.istore_n 1, 1) := by decide +kernel
theorem dX2_numberAboveZero_2 : decode cX2_numberAboveZero 2 = .ok (.iconst 0, 1) := by decide +kernel
theorem dX2_numberAboveZero_3 : decode cX2_numberAboveZero 3 = .ok (.istore_n 2, 1) := by decide +kernel
theorem dX2_numberAboveZero_4 : decode cX2_numberAboveZero 4 = .ok (.iload_n 2, 1) := by decide +kernel
theorem dX2_numberAboveZero_5 : decode cX2_numberAboveZero 5 = .ok (.aload_n 0, 1) := by decide +kernel
theorem dX2_numberAboveZero_6 : decode cX2_numberAboveZero 6 = .ok (.getfield 7, 3) := by decide +kernel
theorem dX2_numberAboveZero_9 : decode cX2_numberAboveZero 9 = .ok (.if_icmp .ge 30, 3) := by decide +kernel
theorem dX2_numberAboveZero_12 : decode cX2_numberAboveZero 12 = .ok (.iload_n 2, 1) := by decide +kernel
theorem dX2_numberAboveZero_13 : decode cX2_numberAboveZero 13 = .ok (.aload_n 0, 1) := by decide +kernel
theorem dX2_numberAboveZero_14 : decode cX2_numberAboveZero 14 = .ok (.getfield 13, 3) := by decide +kernel
theorem dX2_numberAboveZero_17 : decode cX2_numberAboveZero 17 = .ok (.arraylength, 1) := by decide +kernel
theorem dX2_numberAboveZero_18 : decode cX2_numberAboveZero 18 = .ok (.if_icmp .ge 21, 3) := by decide +kernel
theorem dX2_numberAboveZero_21 : decode cX2_numberAboveZero 21 = .ok (.aload_n 0, 1) := by decide +kernel
theorem dX2_numberAboveZero_22 : decode cX2_numberAboveZero 22 = .ok (.getfield 13, 3) := by decide +kernel
theorem dX2_numberAboveZero_25 : decode cX2_numberAboveZero 25 = .ok (.iload_n 2, 1) := by decide +kernel
theorem dX2_numberAboveZero_26 : decode cX2_numberAboveZero 26 = .ok (.iaload, 1) := by decide +kernel
theorem dX2_numberAboveZero_27 : decode cX2_numberAboveZero 27 = .ok (.ifCond .le 6, 3) := by decide +kernel
theorem dX2_numberAboveZero_30 : decode cX2_numberAboveZero 30 = .ok (.iinc 1 1, 3) := by decide +kernel
theorem dX2_numberAboveZero_33 : decode cX2_numberAboveZero 33 = .ok (.iinc 2 1, 3) := by decide +kernel
theorem dX2_numberAboveZero_36 : decode cX2_numberAboveZero 36 = .ok (.goto (-32), 3) := by decide +kernel
theorem dX2_numberAboveZero_39 : decode cX2_numberAboveZero 39 = .ok (.iload_n 1, 1) := by decide +kernel
theorem dX2_numberAboveZero_40 : decode cX2_numberAboveZero 40 = .ok (.ireturn, 1) := by decide +kernel
theorem dX3_number_0 : decode cX3_number 0 = .ok (.aload_n 0, 1) := by decide +kernel
theorem dX3_number_1 : decode cX3_number 1 = .ok (.invokevirtual 9, 3) := by decide +kernel
theorem dX3_number_4 : decode cX3_number 4 = .ok (.ireturn, 1) := by decide +kernel
theorem dX3_sumOfLengths_0 : decode cX3_sumOfLengths 0 = .ok (.iconst 0, 1) := by decide +kernel
theorem dX3_sumOfLengths_1 : decode cX3_sumOfLengths 1 = .ok (.istore_n 1, 1) := by decide +kernel
theorem dX3_sumOfLengths_2 : decode cX3_sumOfLengths 2 = .ok (.iconst 0, 1) := by decide +kernel
theorem dX3_sumOfLengths_3 : decode cX3_sumOfLengths 3 = .ok (.istore_n 2, 1) := by decide +kernel
theorem dX3_sumOfLengths_4 : decode cX3_sumOfLengths 4 = .ok (.iload_n 2, 1) := by decide +kernel
theorem dX3_sumOfLengths_5 : decode cX3_sumOfLengths 5 = .ok (.bipush 7, 2) := by decide +kernel
theorem dX3_sumOfLengths_7 : decode cX3_sumOfLengths 7 = .ok (.if_icmp .ge 20, 3) := by decide +kernel
theorem dX3_sumOfLengths_10 : decode cX3_sumOfLengths 10 = .ok (.iload_n 1, 1) := by decide +kernel
theorem dX3_sumOfLengths_11 : decode cX3_sumOfLengths 11 = .ok (.aload_n 0, 1) := by decide +kernel
theorem dX3_sumOfLengths_12 : decode cX3_sumOfLengths 12 = .ok (.iload_n 2, 1) := by decide +kernel
theorem dX3_sumOfLengths_13 : decode cX3_sumOfLengths 13 = .ok (.invokevirtual 15, 3) := by decide +kernel
theorem dX3_sumOfLengths_16 : decode cX3_sumOfLengths 16 = .ok (.invokestatic 19, 3) := by decide +kernel
theorem dX3_sumOfLengths_19 : decode cX3_sumOfLengths 19 = .ok (.iadd, 1) := by decide +kernel
theorem dX3_sumOfLengths_20 : decode cX3_sumOfLengths 20 = .ok (.istore_n 1, 1) := by decide +kernel
theorem dX3_sumOfLengths_21 : decode cX3_sumOfLengths 21 = .ok (.iinc 2 1, 3) := by decide +kernel
theorem dX3_sumOfLengths_24 : decode cX3_sumOfLengths 24 = .ok (.goto (-20), 3) := by decide +kernel
theorem dX3_sumOfLengths_27 : decode cX3_sumOfLengths 27 = .ok (.iload_n 1, 1) := by decide +kernel
theorem dX3_sumOfLengths_28 : decode cX3_sumOfLengths 28 = .ok (.ireturn, 1) := by decide +kernel
theorem dX3_owner_0 : decode cX3_owner 0 = .ok (.iconst 0, 1) := by decide +kernel
theorem dX3_owner_1 : decode cX3_owner 1 = .ok (.istore_n 2, 1) := by decide +kernel
theorem dX3_owner_2 : decode cX3_owner 2 = .ok (.iload_n 2, 1) := by decide +kernel
theorem dX3_owner_3 : decode cX3_owner 3 = .ok (.bipush 7, 2) := by decide +kernel
theorem dX3_owner_5 : decode cX3_owner 5 = .ok (.if_icmp .ge 20, 3) := by decide +kernel
theorem dX3_owner_8 : decode cX3_owner 8 = .ok (.aload_n 0, 1) := by decide +kernel
theorem dX3_owner_9 : decode cX3_owner 9 = .ok (.iload_n 2, 1) := by decide +kernel
theorem dX3_owner_10 : decode cX3_owner 10 = .ok (.invokevirtual 15, 3) := by decide +kernel
theorem dX3_owner_13 : decode cX3_owner 13 = .ok (.iload_n 1, 1) := by decide +kernel
theorem dX3_owner_14 : decode cX3_owner 14 = .ok (.if_icmp .ne 5, 3) := by decide +kernel
theorem dX3_owner_17 : decode cX3_owner 17 = .ok (.iload_n 2, 1) := by decide +kernel
theorem dX3_owner_18 : decode cX3_owner 18 = .ok (.ireturn, 1) := by decide +kernel
theorem dX3_owner_19 : decode cX3_owner 19 = .ok (.iinc 2 1, 3) := by decide +kernel
theorem dX3_owner_22 : decode cX3_owner 22 = .ok (.goto (-20), 3) := by decide +kernel
theorem dX3_owner_25 : decode cX3_owner 25 = .ok (.iconst (-1), 1) := by decide +kernel
theorem dX3_owner_26 : decode cX3_owner 26 = .ok (.ireturn, 1) := by decide +kernel
theorem dX3_standing_0 : decode cX3_standing 0 = .ok (.aload_n 0, 1) := by decide +kernel
theorem dX3_standing_1 : decode cX3_standing 1 = .ok (.iload_n 1, 1) := by decide +kernel
theorem dX3_standing_2 : decode cX3_standing 2 = .ok (.invokevirtual 15, 3) := by decide +kernel
theorem dX3_standing_5 : decode cX3_standing 5 = .ok (.istore_n 3, 1) := by decide +kernel
theorem dX3_standing_6 : decode cX3_standing 6 = .ok (.aload_n 0, 1) := by decide +kernel
theorem dX3_standing_7 : decode cX3_standing 7 = .ok (.iload_n 2, 1) := by decide +kernel
theorem dX3_standing_8 : decode cX3_standing 8 = .ok (.invokevirtual 15, 3) := by decide +kernel
theorem dX3_standing_11 : decode cX3_standing 11 = .ok (.istore 4, 2) := by decide +kernel
theorem dX3_standing_13 : decode cX3_standing 13 = .ok (.iload_n 3, 1) := by decide +kernel
theorem dX3_standing_14 : decode cX3_standing 14 = .ok (.ifCond .eq 8, 3) := by decide +kernel
theorem dX3_standing_17 : decode cX3_standing 17 = .ok (.iload 4, 2) := by decide +kernel
theorem dX3_standing_19 : decode cX3_standing 19 = .ok (.ifCond .ne 5, 3) := by decide +kernel
theorem dX3_standing_22 : decode cX3_standing 22 = .ok (.iconst 0, 1) := by decide +kernel
theorem dX3_standing_23 : decode cX3_standing 23 = .ok (.ireturn, 1) := by decide +kernel
theorem dX3_standing_24 : decode cX3_standing 24 = .ok (.iload_n 1, 1) := by decide +kernel
theorem dX3_standing_25 : decode cX3_standing 25 = .ok (.iload_n 2, 1) := by decide +kernel
theorem dX3_standing_26 : decode cX3_standing 26 = .ok (.if_icmp .ne 5, 3) := by decide +kernel
theorem dX3_standing_29 : decode cX3_standing 29 = .ok (.iconst 3, 1) := by decide +kernel
theorem dX3_standing_30 : decode cX3_standing 30 = .ok (.ireturn, 1) := by decide +kernel
theorem dX3_standing_31 : decode cX3_standing 31 = .ok (.iload_n 3, 1) := by decide +kernel
theorem dX3_standing_32 : decode cX3_standing 32 = .ok (.iload 4, 2) := by decide +kernel
theorem dX3_standing_34 : decode cX3_standing 34 = .ok (.invokestatic 24, 3) := by decide +kernel
theorem dX3_standing_37 : decode cX3_standing 37 = .ok (.ifCond .eq 5, 3) := by decide +kernel
theorem dX3_standing_40 : decode cX3_standing 40 = .ok (.iconst 1, 1) := by decide +kernel
theorem dX3_standing_41 : decode cX3_standing 41 = .ok (.ireturn, 1) := by decide +kernel
theorem dX3_standing_42 : decode cX3_standing 42 = .ok (.iload 4, 2) := by decide +kernel
theorem dX3_standing_44 : decode cX3_standing 44 = .ok (.iload_n 3, 1) := by decide +kernel
theorem dX3_standing_45 : decode cX3_standing 45 = .ok (.invokestatic 24, 3) := by decide +kernel
theorem dX3_standing_48 : decode cX3_standing 48 = .ok (.ifCond .eq 7, 3) := by decide +kernel
theorem dX3_standing_51 : decode cX3_standing 51 = .ok (.iconst 2, 1) := by decide +kernel
theorem dX3_standing_52 : decode cX3_standing 52 = .ok (.goto 4, 3) := by decide +kernel
theorem dX3_standing_55 : decode cX3_standing 55 = .ok (.iconst 0, 1) := by decide +kernel
theorem dX3_standing_56 : decode cX3_standing 56 = .ok (.ireturn, 1) := by decide +kernel
theorem dX3_areClear_0 : decode cX3_areClear 0 = .ok (.iconst 0, 1) := by decide +kernel
theorem dX3_areClear_1 : decode cX3_areClear 1 = .ok (.istore_n 1, 1) := by decide +kernel
theorem dX3_areClear_2 : decode cX3_areClear 2 = .ok (.iload_n 1, 1) := by decide +kernel
theorem dX3_areClear_3 : decode cX3_areClear 3 = .ok (.bipush 7, 2) := by decide +kernel
theorem dX3_areClear_5 : decode cX3_areClear 5 = .ok (.if_icmp .ge 33, 3) := by decide +kernel
theorem dX3_areClear_8 : decode cX3_areClear 8 = .ok (.iconst 0, 1) := by decide +kernel
theorem dX3_areClear_9 : decode cX3_areClear 9 = .ok (.istore_n 2, 1) := by decide +kernel
theorem dX3_areClear_10 : decode cX3_areClear 10 = .ok (.iload_n 2, 1) := by decide +kernel
theorem dX3_areClear_11 : decode cX3_areClear 11 = .ok (.iload_n 1, 1) := by decide +kernel
theorem dX3_areClear_12 : decode cX3_areClear 12 = .ok (.if_icmp .ge 20, 3) := by decide +kernel
theorem dX3_areClear_15 : decode cX3_areClear 15 = .ok (.aload_n 0, 1) := by decide +kernel
theorem dX3_areClear_16 : decode cX3_areClear 16 = .ok (.iload_n 1, 1) := by decide +kernel
theorem dX3_areClear_17 : decode cX3_areClear 17 = .ok (.iload_n 2, 1) := by decide +kernel
theorem dX3_areClear_18 : decode cX3_areClear 18 = .ok (.invokestatic 28, 3) := by decide +kernel
theorem dX3_areClear_21 : decode cX3_areClear 21 = .ok (.ifCond .eq 5, 3) := by decide +kernel
theorem dX3_areClear_24 : decode cX3_areClear 24 = .ok (.iconst 0, 1) := by decide +kernel
theorem dX3_areClear_25 : decode cX3_areClear 25 = .ok (.ireturn, 1) := by decide +kernel
theorem dX3_areClear_26 : decode cX3_areClear 26 = .ok (.iinc 2 1, 3) := by decide +kernel
theorem dX3_areClear_29 : decode cX3_areClear 29 = .ok (.goto (-19), 3) := by decide +kernel
theorem dX3_areClear_32 : decode cX3_areClear 32 = .ok (.iinc 1 1, 3) := by decide +kernel
theorem dX3_areClear_35 : decode cX3_areClear 35 = .ok (.goto (-33), 3) := by decide +kernel
theorem dX3_areClear_38 : decode cX3_areClear 38 = .ok (.iconst 1, 1) := by decide +kernel
theorem dX3_areClear_39 : decode cX3_areClear 39 = .ok (.ireturn, 1) := by decide +kernel
theorem dX3_areDistinct_0 : decode cX3_areDistinct 0 = .ok (.iconst 0, 1) := by decide +kernel
theorem dX3_areDistinct_1 : decode cX3_areDistinct 1 = .ok (.istore_n 1, 1) := by decide +kernel
theorem dX3_areDistinct_2 : decode cX3_areDistinct 2 = .ok (.iload_n 1, 1) := by decide +kernel
theorem dX3_areDistinct_3 : decode cX3_areDistinct 3 = .ok (.bipush 7, 2) := by decide +kernel
theorem dX3_areDistinct_5 : decode cX3_areDistinct 5 = .ok (.if_icmp .ge 32, 3) := by decide +kernel
theorem dX3_areDistinct_8 : decode cX3_areDistinct 8 = .ok (.aload_n 0, 1) := by decide +kernel
theorem dX3_areDistinct_9 : decode cX3_areDistinct 9 = .ok (.iload_n 1, 1) := by decide +kernel
theorem dX3_areDistinct_10 : decode cX3_areDistinct 10 = .ok (.invokevirtual 15, 3) := by decide +kernel
theorem dX3_areDistinct_13 : decode cX3_areDistinct 13 = .ok (.ifCond .eq 18, 3) := by decide +kernel
theorem dX3_areDistinct_16 : decode cX3_areDistinct 16 = .ok (.aload_n 0, 1) := by decide +kernel
theorem dX3_areDistinct_17 : decode cX3_areDistinct 17 = .ok (.aload_n 0, 1) := by decide +kernel
theorem dX3_areDistinct_18 : decode cX3_areDistinct 18 = .ok (.iload_n 1, 1) := by decide +kernel
theorem dX3_areDistinct_19 : decode cX3_areDistinct 19 = .ok (.invokevirtual 15, 3) := by decide +kernel
theorem dX3_areDistinct_22 : decode cX3_areDistinct 22 = .ok (.invokestatic 34, 3) := by decide +kernel
theorem dX3_areDistinct_25 : decode cX3_areDistinct 25 = .ok (.iload_n 1, 1) := by decide +kernel
theorem dX3_areDistinct_26 : decode cX3_areDistinct 26 = .ok (.if_icmp .eq 5, 3) := by decide +kernel
theorem dX3_areDistinct_29 : decode cX3_areDistinct 29 = .ok (.iconst 0, 1) := by decide +kernel
theorem dX3_areDistinct_30 : decode cX3_areDistinct 30 = .ok (.ireturn, 1) := by decide +kernel
theorem dX3_areDistinct_31 : decode cX3_areDistinct 31 = .ok (.iinc 1 1, 3) := by decide +kernel
theorem dX3_areDistinct_34 : decode cX3_areDistinct 34 = .ok (.goto (-32), 3) := by decide +kernel
theorem dX3_areDistinct_37 : decode cX3_areDistinct 37 = .ok (.iconst 1, 1) := by decide +kernel
theorem dX3_areDistinct_38 : decode cX3_areDistinct 38 = .ok (.ireturn, 1) := by decide +kernel
theorem dX3_freeByWords_0 : decode cX3_freeByWords 0 = .ok (.iconst 0, 1) := by decide +kernel
theorem dX3_freeByWords_1 : decode cX3_freeByWords 1 = .ok (.istore_n 2, 1) := by decide +kernel
theorem dX3_freeByWords_2 : decode cX3_freeByWords 2 = .ok (.iconst 1, 1) := by decide +kernel
theorem dX3_freeByWords_3 : decode cX3_freeByWords 3 = .ok (.iload_n 1, 1) := by decide +kernel
theorem dX3_freeByWords_4 : decode cX3_freeByWords 4 = .ok (.ishl, 1) := by decide +kernel
theorem dX3_freeByWords_5 : decode cX3_freeByWords 5 = .ok (.istore_n 3, 1) := by decide +kernel
theorem dX3_freeByWords_6 : decode cX3_freeByWords 6 = .ok (.iconst 0, 1) := by decide +kernel
theorem dX3_freeByWords_7 : decode cX3_freeByWords 7 = .ok (.istore 4, 2) := by decide +kernel
theorem dX3_freeByWords_9 : decode cX3_freeByWords 9 = .ok (.iload 4, 2) := by decide +kernel
theorem dX3_freeByWords_11 : decode cX3_freeByWords 11 = .ok (.iload_n 3, 1) := by decide +kernel
theorem dX3_freeByWords_12 : decode cX3_freeByWords 12 = .ok (.if_icmp .ge 25, 3) := by decide +kernel
theorem dX3_freeByWords_15 : decode cX3_freeByWords 15 = .ok (.aload_n 0, 1) := by decide +kernel
theorem dX3_freeByWords_16 : decode cX3_freeByWords 16 = .ok (.iload_n 1, 1) := by decide +kernel
theorem dX3_freeByWords_17 : decode cX3_freeByWords 17 = .ok (.iload 4, 2) := by decide +kernel
theorem dX3_freeByWords_19 : decode cX3_freeByWords 19 = .ok (.invokestatic 38, 3) := by decide +kernel
theorem dX3_freeByWords_22 : decode cX3_freeByWords 22 = .ok (.invokestatic 42, 3) := by decide +kernel
theorem dX3_freeByWords_25 : decode cX3_freeByWords 25 = .ok (.ifCond .eq 6, 3) := by decide +kernel
theorem dX3_freeByWords_28 : decode cX3_freeByWords 28 = .ok (.iinc 2 1, 3) := by decide +kernel
theorem dX3_freeByWords_31 : decode cX3_freeByWords 31 = .ok (.iinc 4 1, 3) := by decide +kernel
theorem dX3_freeByWords_34 : decode cX3_freeByWords 34 = .ok (.goto (-25), 3) := by decide +kernel
theorem dX3_freeByWords_37 : decode cX3_freeByWords 37 = .ok (.iload_n 2, 1) := by decide +kernel
theorem dX3_freeByWords_38 : decode cX3_freeByWords 38 = .ok (.ireturn, 1) := by decide +kernel
theorem dX3_isFree_0 : decode cX3_isFree 0 = .ok (.iconst 0, 1) := by decide +kernel
theorem dX3_isFree_1 : decode cX3_isFree 1 = .ok (.istore_n 2, 1) := by decide +kernel
theorem dX3_isFree_2 : decode cX3_isFree 2 = .ok (.iload_n 2, 1) := by decide +kernel
theorem dX3_isFree_3 : decode cX3_isFree 3 = .ok (.bipush 7, 2) := by decide +kernel
theorem dX3_isFree_5 : decode cX3_isFree 5 = .ok (.if_icmp .ge 37, 3) := by decide +kernel
theorem dX3_isFree_8 : decode cX3_isFree 8 = .ok (.aload_n 0, 1) := by decide +kernel
theorem dX3_isFree_9 : decode cX3_isFree 9 = .ok (.iload_n 2, 1) := by decide +kernel
theorem dX3_isFree_10 : decode cX3_isFree 10 = .ok (.invokevirtual 15, 3) := by decide +kernel
theorem dX3_isFree_13 : decode cX3_isFree 13 = .ok (.istore_n 3, 1) := by decide +kernel
theorem dX3_isFree_14 : decode cX3_isFree 14 = .ok (.iload_n 3, 1) := by decide +kernel
theorem dX3_isFree_15 : decode cX3_isFree 15 = .ok (.ifCond .eq 21, 3) := by decide +kernel
theorem dX3_isFree_18 : decode cX3_isFree 18 = .ok (.iload_n 3, 1) := by decide +kernel
theorem dX3_isFree_19 : decode cX3_isFree 19 = .ok (.iload_n 1, 1) := by decide +kernel
theorem dX3_isFree_20 : decode cX3_isFree 20 = .ok (.invokestatic 24, 3) := by decide +kernel
theorem dX3_isFree_23 : decode cX3_isFree 23 = .ok (.ifCond .ne 11, 3) := by decide +kernel
theorem dX3_isFree_26 : decode cX3_isFree 26 = .ok (.iload_n 1, 1) := by decide +kernel
theorem dX3_isFree_27 : decode cX3_isFree 27 = .ok (.iload_n 3, 1) := by decide +kernel
theorem dX3_isFree_28 : decode cX3_isFree 28 = .ok (.invokestatic 24, 3) := by decide +kernel
theorem dX3_isFree_31 : decode cX3_isFree 31 = .ok (.ifCond .eq 5, 3) := by decide +kernel
theorem dX3_isFree_34 : decode cX3_isFree 34 = .ok (.iconst 0, 1) := by decide +kernel
theorem dX3_isFree_35 : decode cX3_isFree 35 = .ok (.ireturn, 1) := by decide +kernel
theorem dX3_isFree_36 : decode cX3_isFree 36 = .ok (.iinc 2 1, 3) := by decide +kernel
theorem dX3_isFree_39 : decode cX3_isFree 39 = .ok (.goto (-37), 3) := by decide +kernel
theorem dX3_isFree_42 : decode cX3_isFree 42 = .ok (.iconst 1, 1) := by decide +kernel
theorem dX3_isFree_43 : decode cX3_isFree 43 = .ok (.ireturn, 1) := by decide +kernel
theorem dX3_freeByBars_0 : decode cX3_freeByBars 0 = .ok (.iconst 1, 1) := by decide +kernel
theorem dX3_freeByBars_1 : decode cX3_freeByBars 1 = .ok (.iload_n 1, 1) := by decide +kernel
theorem dX3_freeByBars_2 : decode cX3_freeByBars 2 = .ok (.ishl, 1) := by decide +kernel
theorem dX3_freeByBars_3 : decode cX3_freeByBars 3 = .ok (.istore_n 2, 1) := by decide +kernel
theorem dX3_freeByBars_4 : decode cX3_freeByBars 4 = .ok (.iconst 0, 1) := by decide +kernel
theorem dX3_freeByBars_5 : decode cX3_freeByBars 5 = .ok (.istore_n 3, 1) := by decide +kernel
theorem dX3_freeByBars_6 : decode cX3_freeByBars 6 = .ok (.iload_n 3, 1) := by decide +kernel
theorem dX3_freeByBars_7 : decode cX3_freeByBars 7 = .ok (.bipush 7, 2) := by decide +kernel
theorem dX3_freeByBars_9 : decode cX3_freeByBars 9 = .ok (.if_icmp .ge 46, 3) := by decide +kernel
theorem dX3_freeByBars_12 : decode cX3_freeByBars 12 = .ok (.aload_n 0, 1) := by decide +kernel
theorem dX3_freeByBars_13 : decode cX3_freeByBars 13 = .ok (.iload_n 3, 1) := by decide +kernel
theorem dX3_freeByBars_14 : decode cX3_freeByBars 14 = .ok (.invokevirtual 15, 3) := by decide +kernel
theorem dX3_freeByBars_17 : decode cX3_freeByBars 17 = .ok (.iload_n 1, 1) := by decide +kernel
theorem dX3_freeByBars_18 : decode cX3_freeByBars 18 = .ok (.invokestatic 46, 3) := by decide +kernel
theorem dX3_freeByBars_21 : decode cX3_freeByBars 21 = .ok (.istore 4, 2) := by decide +kernel
theorem dX3_freeByBars_23 : decode cX3_freeByBars 23 = .ok (.iload 4, 2) := by decide +kernel
theorem dX3_freeByBars_25 : decode cX3_freeByBars 25 = .ok (.ifCond .eq 24, 3) := by decide +kernel
theorem dX3_freeByBars_28 : decode cX3_freeByBars 28 = .ok (.aload_n 0, 1) := by decide +kernel
theorem dX3_freeByBars_29 : decode cX3_freeByBars 29 = .ok (.iload_n 3, 1) := by decide +kernel
theorem dX3_freeByBars_30 : decode cX3_freeByBars 30 = .ok (.iload_n 1, 1) := by decide +kernel
theorem dX3_freeByBars_31 : decode cX3_freeByBars 31 = .ok (.invokestatic 49, 3) := by decide +kernel
theorem dX3_freeByBars_34 : decode cX3_freeByBars 34 = .ok (.ifCond .ne 15, 3) := by decide +kernel
theorem dX3_freeByBars_37 : decode cX3_freeByBars 37 = .ok (.iload_n 2, 1) := by decide +kernel
theorem dX3_freeByBars_38 : decode cX3_freeByBars 38 = .ok (.iconst 1, 1) := by decide +kernel
theorem dX3_freeByBars_39 : decode cX3_freeByBars 39 = .ok (.iload_n 1, 1) := by decide +kernel
theorem dX3_freeByBars_40 : decode cX3_freeByBars 40 = .ok (.iload 4, 2) := by decide +kernel
theorem dX3_freeByBars_42 : decode cX3_freeByBars 42 = .ok (.invokestatic 19, 3) := by decide +kernel
theorem dX3_freeByBars_45 : decode cX3_freeByBars 45 = .ok (.isub, 1) := by decide +kernel
theorem dX3_freeByBars_46 : decode cX3_freeByBars 46 = .ok (.ishl, 1) := by decide +kernel
theorem dX3_freeByBars_47 : decode cX3_freeByBars 47 = .ok (.isub, 1) := by decide +kernel
theorem dX3_freeByBars_48 : decode cX3_freeByBars 48 = .ok (.istore_n 2, 1) := by decide +kernel
theorem dX3_freeByBars_49 : decode cX3_freeByBars 49 = .ok (.iinc 3 1, 3) := by decide +kernel
theorem dX3_freeByBars_52 : decode cX3_freeByBars 52 = .ok (.goto (-46), 3) := by decide +kernel
theorem dX3_freeByBars_55 : decode cX3_freeByBars 55 = .ok (.iload_n 2, 1) := by decide +kernel
theorem dX3_freeByBars_56 : decode cX3_freeByBars 56 = .ok (.ireturn, 1) := by decide +kernel
theorem dX3_isBarredByAnother_0 : decode cX3_isBarredByAnother 0 = .ok (.aload_n 0, 1) := by decide +kernel
theorem dX3_isBarredByAnother_1 : decode cX3_isBarredByAnother 1 = .ok (.iload_n 1, 1) := by decide +kernel
theorem dX3_isBarredByAnother_2 : decode cX3_isBarredByAnother 2 = .ok (.invokevirtual 15, 3) := by decide +kernel
theorem dX3_isBarredByAnother_5 : decode cX3_isBarredByAnother 5 = .ok (.iload_n 2, 1) := by decide +kernel
theorem dX3_isBarredByAnother_6 : decode cX3_isBarredByAnother 6 = .ok (.invokestatic 46, 3) := by decide +kernel
theorem dX3_isBarredByAnother_9 : decode cX3_isBarredByAnother 9 = .ok (.istore_n 3, 1) := by decide +kernel
theorem dX3_isBarredByAnother_10 : decode cX3_isBarredByAnother 10 = .ok (.iconst 0, 1) := by decide +kernel
theorem dX3_isBarredByAnother_11 : decode cX3_isBarredByAnother 11 = .ok (.istore 4, 2) := by decide +kernel
theorem dX3_isBarredByAnother_13 : decode cX3_isBarredByAnother 13 = .ok (.iload 4, 2) := by decide +kernel
theorem dX3_isBarredByAnother_15 : decode cX3_isBarredByAnother 15 = .ok (.bipush 7, 2) := by decide +kernel
theorem dX3_isBarredByAnother_17 : decode cX3_isBarredByAnother 17 = .ok (.if_icmp .ge 61, 3) := by decide +kernel
theorem dX3_isBarredByAnother_20 : decode cX3_isBarredByAnother 20 = .ok (.aload_n 0, 1) := by decide +kernel
theorem dX3_isBarredByAnother_21 : decode cX3_isBarredByAnother 21 = .ok (.iload 4, 2) := by decide +kernel
theorem dX3_isBarredByAnother_23 : decode cX3_isBarredByAnother 23 = .ok (.invokevirtual 15, 3) := by decide +kernel
theorem dX3_isBarredByAnother_26 : decode cX3_isBarredByAnother 26 = .ok (.iload_n 2, 1) := by decide +kernel
theorem dX3_isBarredByAnother_27 : decode cX3_isBarredByAnother 27 = .ok (.invokestatic 46, 3) := by decide +kernel
theorem dX3_isBarredByAnother_30 : decode cX3_isBarredByAnother 30 = .ok (.istore 5, 2) := by decide +kernel
theorem dX3_isBarredByAnother_32 : decode cX3_isBarredByAnother 32 = .ok (.iload 5, 2) := by decide +kernel
theorem dX3_isBarredByAnother_34 : decode cX3_isBarredByAnother 34 = .ok (.iload_n 3, 1) := by decide +kernel
theorem dX3_isBarredByAnother_35 : decode cX3_isBarredByAnother 35 = .ok (.if_icmp .ne 9, 3) := by decide +kernel
theorem dX3_isBarredByAnother_38 : decode cX3_isBarredByAnother 38 = .ok (.iload 4, 2) := by decide +kernel
theorem dX3_isBarredByAnother_40 : decode cX3_isBarredByAnother 40 = .ok (.iload_n 1, 1) := by decide +kernel
theorem dX3_isBarredByAnother_41 : decode cX3_isBarredByAnother 41 = .ok (.if_icmp .ge 7, 3) := by decide +kernel
theorem dX3_isBarredByAnother_44 : decode cX3_isBarredByAnother 44 = .ok (.iconst 1, 1) := by decide +kernel
theorem dX3_isBarredByAnother_45 : decode cX3_isBarredByAnother 45 = .ok (.goto 4, 3) := by decide +kernel
theorem dX3_isBarredByAnother_48 : decode cX3_isBarredByAnother 48 = .ok (.iconst 0, 1) := by decide +kernel
theorem dX3_isBarredByAnother_49 : decode cX3_isBarredByAnother 49 = .ok (.istore 6, 2) := by decide +kernel
theorem dX3_isBarredByAnother_51 : decode cX3_isBarredByAnother 51 = .ok (.iload 5, 2) := by decide +kernel
theorem dX3_isBarredByAnother_53 : decode cX3_isBarredByAnother 53 = .ok (.ifCond .eq 19, 3) := by decide +kernel
theorem dX3_isBarredByAnother_56 : decode cX3_isBarredByAnother 56 = .ok (.iload 6, 2) := by decide +kernel
theorem dX3_isBarredByAnother_58 : decode cX3_isBarredByAnother 58 = .ok (.ifCond .eq 14, 3) := by decide +kernel
theorem dX3_isBarredByAnother_61 : decode cX3_isBarredByAnother 61 = .ok (.iload 5, 2) := by decide +kernel
theorem dX3_isBarredByAnother_63 : decode cX3_isBarredByAnother 63 = .ok (.iload_n 3, 1) := by decide +kernel
theorem dX3_isBarredByAnother_64 : decode cX3_isBarredByAnother 64 = .ok (.invokestatic 24, 3) := by decide +kernel
theorem dX3_isBarredByAnother_67 : decode cX3_isBarredByAnother 67 = .ok (.ifCond .eq 5, 3) := by decide +kernel
theorem dX3_isBarredByAnother_70 : decode cX3_isBarredByAnother 70 = .ok (.iconst 1, 1) := by decide +kernel
theorem dX3_isBarredByAnother_71 : decode cX3_isBarredByAnother 71 = .ok (.ireturn, 1) := by decide +kernel
theorem dX3_isBarredByAnother_72 : decode cX3_isBarredByAnother 72 = .ok (.iinc 4 1, 3) := by decide +kernel
theorem dX3_isBarredByAnother_75 : decode cX3_isBarredByAnother 75 = .ok (.goto (-62), 3) := by decide +kernel
theorem dX3_isBarredByAnother_78 : decode cX3_isBarredByAnother 78 = .ok (.iconst 0, 1) := by decide +kernel
theorem dX3_isBarredByAnother_79 : decode cX3_isBarredByAnother 79 = .ok (.ireturn, 1) := by decide +kernel
theorem dX4_of_0 : decode cX4_of 0 = .ok (.iload_n 0, 1) := by decide +kernel
theorem dX4_of_1 : decode cX4_of 1 = .ok (.iload_n 1, 1) := by decide +kernel
theorem dX4_of_2 : decode cX4_of 2 = .ok (.iconst 3, 1) := by decide +kernel
theorem dX4_of_3 : decode cX4_of 3 = .ok (.ishl, 1) := by decide +kernel
theorem dX4_of_4 : decode cX4_of 4 = .ok (.ior, 1) := by decide +kernel
theorem dX4_of_5 : decode cX4_of 5 = .ok (.iload_n 2, 1) := by decide +kernel
theorem dX4_of_6 : decode cX4_of 6 = .ok (.bipush 9, 2) := by decide +kernel
theorem dX4_of_8 : decode cX4_of 8 = .ok (.ishl, 1) := by decide +kernel
theorem dX4_of_9 : decode cX4_of 9 = .ok (.ior, 1) := by decide +kernel
theorem dX4_of_10 : decode cX4_of 10 = .ok (.ireturn, 1) := by decide +kernel
theorem dX4_echo_0 : decode cX4_echo 0 = .ok (.iload_n 0, 1) := by decide +kernel
theorem dX4_echo_1 : decode cX4_echo 1 = .ok (.iload_n 1, 1) := by decide +kernel
theorem dX4_echo_2 : decode cX4_echo 2 = .ok (.iconst 1, 1) := by decide +kernel
theorem dX4_echo_3 : decode cX4_echo 3 = .ok (.iadd, 1) := by decide +kernel
theorem dX4_echo_4 : decode cX4_echo 4 = .ok (.bipush 6, 2) := by decide +kernel
theorem dX4_echo_6 : decode cX4_echo 6 = .ok (.ishl, 1) := by decide +kernel
theorem dX4_echo_7 : decode cX4_echo 7 = .ok (.ior, 1) := by decide +kernel
theorem dX4_echo_8 : decode cX4_echo 8 = .ok (.iload_n 2, 1) := by decide +kernel
theorem dX4_echo_9 : decode cX4_echo 9 = .ok (.ldc 9, 2) := by decide +kernel
theorem dX4_echo_11 : decode cX4_echo 11 = .ok (.imul, 1) := by decide +kernel
theorem dX4_echo_12 : decode cX4_echo 12 = .ok (.ior, 1) := by decide +kernel
theorem dX4_echo_13 : decode cX4_echo 13 = .ok (.ireturn, 1) := by decide +kernel
theorem dX4_told_0 : decode cX4_told 0 = .ok (.iload_n 0, 1) := by decide +kernel
theorem dX4_told_1 : decode cX4_told 1 = .ok (.bipush 7, 2) := by decide +kernel
theorem dX4_told_3 : decode cX4_told 3 = .ok (.iand, 1) := by decide +kernel
theorem dX4_told_4 : decode cX4_told 4 = .ok (.ireturn, 1) := by decide +kernel
theorem dX4_whistler_0 : decode cX4_whistler 0 = .ok (.iload_n 0, 1) := by decide +kernel
theorem dX4_whistler_1 : decode cX4_whistler 1 = .ok (.iconst 3, 1) := by decide +kernel
theorem dX4_whistler_2 : decode cX4_whistler 2 = .ok (.ishr, 1) := by decide +kernel
theorem dX4_whistler_3 : decode cX4_whistler 3 = .ok (.bipush 7, 2) := by decide +kernel
theorem dX4_whistler_5 : decode cX4_whistler 5 = .ok (.iand, 1) := by decide +kernel
theorem dX4_whistler_6 : decode cX4_whistler 6 = .ok (.ireturn, 1) := by decide +kernel
theorem dX4_echoer_0 : decode cX4_echoer 0 = .ok (.iload_n 0, 1) := by decide +kernel
theorem dX4_echoer_1 : decode cX4_echoer 1 = .ok (.bipush 6, 2) := by decide +kernel
theorem dX4_echoer_3 : decode cX4_echoer 3 = .ok (.ishr, 1) := by decide +kernel
theorem dX4_echoer_4 : decode cX4_echoer 4 = .ok (.bipush 7, 2) := by decide +kernel
theorem dX4_echoer_6 : decode cX4_echoer 6 = .ok (.iand, 1) := by decide +kernel
theorem dX4_echoer_7 : decode cX4_echoer 7 = .ok (.iconst 1, 1) := by decide +kernel
theorem dX4_echoer_8 : decode cX4_echoer 8 = .ok (.isub, 1) := by decide +kernel
theorem dX4_echoer_9 : decode cX4_echoer 9 = .ok (.ireturn, 1) := by decide +kernel
theorem dX4_word_0 : decode cX4_word 0 = .ok (.iload_n 0, 1) := by decide +kernel
theorem dX4_word_1 : decode cX4_word 1 = .ok (.bipush 9, 2) := by decide +kernel
theorem dX4_word_3 : decode cX4_word 3 = .ok (.ishr, 1) := by decide +kernel
theorem dX4_word_4 : decode cX4_word 4 = .ok (.sipush 511, 3) := by decide +kernel
theorem dX4_word_7 : decode cX4_word 7 = .ok (.iand, 1) := by decide +kernel
theorem dX4_word_8 : decode cX4_word 8 = .ok (.ireturn, 1) := by decide +kernel
theorem dX4_hoursToCome_0 : decode cX4_hoursToCome 0 = .ok (.iload_n 0, 1) := by decide +kernel
theorem dX4_hoursToCome_1 : decode cX4_hoursToCome 1 = .ok (.bipush 18, 2) := by decide +kernel
theorem dX4_hoursToCome_3 : decode cX4_hoursToCome 3 = .ok (.ishr, 1) := by decide +kernel
theorem dX4_hoursToCome_4 : decode cX4_hoursToCome 4 = .ok (.bipush 7, 2) := by decide +kernel
theorem dX4_hoursToCome_6 : decode cX4_hoursToCome 6 = .ok (.iand, 1) := by decide +kernel
theorem dX4_hoursToCome_7 : decode cX4_hoursToCome 7 = .ok (.ireturn, 1) := by decide +kernel
theorem dX4_anHourLater_0 : decode cX4_anHourLater 0 = .ok (.iload_n 0, 1) := by decide +kernel
theorem dX4_anHourLater_1 : decode cX4_anHourLater 1 = .ok (.ldc 9, 2) := by decide +kernel
theorem dX4_anHourLater_3 : decode cX4_anHourLater 3 = .ok (.isub, 1) := by decide +kernel
theorem dX4_anHourLater_4 : decode cX4_anHourLater 4 = .ok (.ireturn, 1) := by decide +kernel
theorem dX4_isExposed_0 : decode cX4_isExposed 0 = .ok (.iload_n 0, 1) := by decide +kernel
theorem dX4_isExposed_1 : decode cX4_isExposed 1 = .ok (.ldc 10, 2) := by decide +kernel
theorem dX4_isExposed_3 : decode cX4_isExposed 3 = .ok (.iand, 1) := by decide +kernel
theorem dX4_isExposed_4 : decode cX4_isExposed 4 = .ok (.ifCond .eq 7, 3) := by decide +kernel
theorem dX4_isExposed_7 : decode cX4_isExposed 7 = .ok (.iconst 1, 1) := by decide +kernel
theorem dX4_isExposed_8 : decode cX4_isExposed 8 = .ok (.goto 4, 3) := by decide +kernel
theorem dX4_isExposed_11 : decode cX4_isExposed 11 = .ok (.iconst 0, 1) := by decide +kernel
theorem dX4_isExposed_12 : decode cX4_isExposed 12 = .ok (.ireturn, 1) := by decide +kernel
theorem dX4_asExposed_0 : decode cX4_asExposed 0 = .ok (.iload_n 0, 1) := by decide +kernel
theorem dX4_asExposed_1 : decode cX4_asExposed 1 = .ok (.ldc 10, 2) := by decide +kernel
theorem dX4_asExposed_3 : decode cX4_asExposed 3 = .ok (.ior, 1) := by decide +kernel
theorem dX4_asExposed_4 : decode cX4_asExposed 4 = .ok (.ireturn, 1) := by decide +kernel
theorem dX4_number_0 : decode cX4_number 0 = .ok (.iload_n 1, 1) := by decide +kernel
theorem dX4_number_1 : decode cX4_number 1 = .ok (.tableswitch 54 0 3 #[31, 36, 41, 46], 31) := by decide +kernel
theorem dX4_number_32 : decode cX4_number 32 = .ok (.iload_n 0, 1) := by decide +kernel
theorem dX4_number_33 : decode cX4_number 33 = .ok (.invokestatic 11, 3) := by decide +kernel
theorem dX4_number_36 : decode cX4_number 36 = .ok (.ireturn, 1) := by decide +kernel
theorem dX4_number_37 : decode cX4_number 37 = .ok (.iload_n 0, 1) := by decide +kernel
theorem dX4_number_38 : decode cX4_number 38 = .ok (.invokestatic 15, 3) := by decide +kernel
theorem dX4_number_41 : decode cX4_number 41 = .ok (.ireturn, 1) := by decide +kernel
theorem dX4_number_42 : decode cX4_number 42 = .ok (.iload_n 0, 1) := by decide +kernel
theorem dX4_number_43 : decode cX4_number 43 = .ok (.invokestatic 18, 3) := by decide +kernel
theorem dX4_number_46 : decode cX4_number 46 = .ok (.ireturn, 1) := by decide +kernel
theorem dX4_number_47 : decode cX4_number 47 = .ok (.iload_n 0, 1) := by decide +kernel
theorem dX4_number_48 : decode cX4_number 48 = .ok (.invokestatic 21, 3) := by decide +kernel
theorem dX4_number_51 : decode cX4_number 51 = .ok (.invokestatic 24, 3) := by decide +kernel
theorem dX4_number_54 : decode cX4_number 54 = .ok (.ireturn, 1) := by decide +kernel
theorem dX4_number_55 : decode cX4_number 55 = .ok (.iload_n 0, 1) := by decide +kernel
theorem dX4_number_56 : decode cX4_number 56 = .ok (.invokestatic 21, 3) := by decide +kernel
theorem dX4_number_59 : decode cX4_number 59 = .ok (.invokestatic 29, 3) := by decide +kernel
theorem dX4_number_62 : decode cX4_number 62 = .ok (.ireturn, 1) := by decide +kernel
theorem dX5_init_0 : decode cX5_init 0 = .ok (.aload_n 0, 1) := by decide +kernel
theorem dX5_init_1 : decode cX5_init 1 = .ok (.invokespecial 3, 3) := by decide +kernel
theorem dX5_init_4 : decode cX5_init 4 = .ok (.aload_n 0, 1) := by decide +kernel
theorem dX5_init_5 : decode cX5_init 5 = .ok (.new 9, 3) := by decide +kernel
theorem dX5_init_8 : decode cX5_init 8 = .ok (.dup, 1) := by decide +kernel
theorem dX5_init_9 : decode cX5_init 9 = .ok (.bipush 7, 2) := by decide +kernel
theorem dX5_init_11 : decode cX5_init 11 = .ok (.invokespecial 11, 3) := by decide +kernel
theorem dX5_init_14 : decode cX5_init 14 = .ok (.putfield 14, 3) := by decide +kernel
theorem dX5_init_17 : decode cX5_init 17 = .ok (.aload_n 0, 1) := by decide +kernel
theorem dX5_init_18 : decode cX5_init 18 = .ok (.new 9, 3) := by decide +kernel
theorem dX5_init_21 : decode cX5_init 21 = .ok (.dup, 1) := by decide +kernel
theorem dX5_init_22 : decode cX5_init 22 = .ok (.bipush 7, 2) := by decide +kernel
theorem dX5_init_24 : decode cX5_init 24 = .ok (.invokespecial 11, 3) := by decide +kernel
theorem dX5_init_27 : decode cX5_init 27 = .ok (.putfield 20, 3) := by decide +kernel
theorem dX5_init_30 : decode cX5_init 30 = .ok (.aload_n 0, 1) := by decide +kernel
theorem dX5_init_31 : decode cX5_init 31 = .ok (.new 9, 3) := by decide +kernel
theorem dX5_init_34 : decode cX5_init 34 = .ok (.dup, 1) := by decide +kernel
theorem dX5_init_35 : decode cX5_init 35 = .ok (.bipush 7, 2) := by decide +kernel
theorem dX5_init_37 : decode cX5_init 37 = .ok (.invokespecial 11, 3) := by decide +kernel
theorem dX5_init_40 : decode cX5_init 40 = .ok (.putfield 23, 3) := by decide +kernel
theorem dX5_init_43 : decode cX5_init 43 = .ok (.aload_n 0, 1) := by decide +kernel
theorem dX5_init_44 : decode cX5_init 44 = .ok (.new 9, 3) := by decide +kernel
theorem dX5_init_47 : decode cX5_init 47 = .ok (.dup, 1) := by decide +kernel
theorem dX5_init_48 : decode cX5_init 48 = .ok (.bipush 7, 2) := by decide +kernel
theorem dX5_init_50 : decode cX5_init 50 = .ok (.invokespecial 11, 3) := by decide +kernel
theorem dX5_init_53 : decode cX5_init 53 = .ok (.putfield 26, 3) := by decide +kernel
theorem dX5_init_56 : decode cX5_init 56 = .ok (.aload_n 0, 1) := by decide +kernel
theorem dX5_init_57 : decode cX5_init 57 = .ok (.new 9, 3) := by decide +kernel
theorem dX5_init_60 : decode cX5_init 60 = .ok (.dup, 1) := by decide +kernel
theorem dX5_init_61 : decode cX5_init 61 = .ok (.bipush 7, 2) := by decide +kernel
theorem dX5_init_63 : decode cX5_init 63 = .ok (.invokespecial 11, 3) := by decide +kernel
theorem dX5_init_66 : decode cX5_init 66 = .ok (.putfield 29, 3) := by decide +kernel
theorem dX5_init_69 : decode cX5_init 69 = .ok (.aload_n 0, 1) := by decide +kernel
theorem dX5_init_70 : decode cX5_init 70 = .ok (.new 9, 3) := by decide +kernel
theorem dX5_init_73 : decode cX5_init 73 = .ok (.dup, 1) := by decide +kernel
theorem dX5_init_74 : decode cX5_init 74 = .ok (.bipush 7, 2) := by decide +kernel
theorem dX5_init_76 : decode cX5_init 76 = .ok (.invokespecial 11, 3) := by decide +kernel
theorem dX5_init_79 : decode cX5_init 79 = .ok (.putfield 32, 3) := by decide +kernel
theorem dX5_init_82 : decode cX5_init 82 = .ok (.aload_n 0, 1) := by decide +kernel
theorem dX5_init_83 : decode cX5_init 83 = .ok (.new 9, 3) := by decide +kernel
theorem dX5_init_86 : decode cX5_init 86 = .ok (.dup, 1) := by decide +kernel
theorem dX5_init_87 : decode cX5_init 87 = .ok (.bipush 7, 2) := by decide +kernel
theorem dX5_init_89 : decode cX5_init 89 = .ok (.invokespecial 11, 3) := by decide +kernel
theorem dX5_init_92 : decode cX5_init 92 = .ok (.putfield 35, 3) := by decide +kernel
theorem dX5_init_95 : decode cX5_init 95 = .ok (.aload_n 0, 1) := by decide +kernel
theorem dX5_init_96 : decode cX5_init 96 = .ok (.new 9, 3) := by decide +kernel
theorem dX5_init_99 : decode cX5_init 99 = .ok (.dup, 1) := by decide +kernel
theorem dX5_init_100 : decode cX5_init 100 = .ok (.bipush 7, 2) := by decide +kernel
theorem dX5_init_102 : decode cX5_init 102 = .ok (.invokespecial 11, 3) := by decide +kernel
theorem dX5_init_105 : decode cX5_init 105 = .ok (.putfield 38, 3) := by decide +kernel
theorem dX5_init_108 : decode cX5_init 108 = .ok (.aload_n 0, 1) := by decide +kernel
theorem dX5_init_109 : decode cX5_init 109 = .ok (.new 9, 3) := by decide +kernel
theorem dX5_init_112 : decode cX5_init 112 = .ok (.dup, 1) := by decide +kernel
theorem dX5_init_113 : decode cX5_init 113 = .ok (.iconst 4, 1) := by decide +kernel
theorem dX5_init_114 : decode cX5_init 114 = .ok (.invokespecial 11, 3) := by decide +kernel
theorem dX5_init_117 : decode cX5_init 117 = .ok (.putfield 41, 3) := by decide +kernel
theorem dX5_init_120 : decode cX5_init 120 = .ok (.aload_n 0, 1) := by decide +kernel
theorem dX5_init_121 : decode cX5_init 121 = .ok (.new 9, 3) := by decide +kernel
theorem dX5_init_124 : decode cX5_init 124 = .ok (.dup, 1) := by decide +kernel
theorem dX5_init_125 : decode cX5_init 125 = .ok (.iconst 4, 1) := by decide +kernel
theorem dX5_init_126 : decode cX5_init 126 = .ok (.invokespecial 11, 3) := by decide +kernel
theorem dX5_init_129 : decode cX5_init 129 = .ok (.putfield 44, 3) := by decide +kernel
theorem dX5_init_132 : decode cX5_init 132 = .ok (.aload_n 0, 1) := by decide +kernel
theorem dX5_init_133 : decode cX5_init 133 = .ok (.new 9, 3) := by decide +kernel
theorem dX5_init_136 : decode cX5_init 136 = .ok (.dup, 1) := by decide +kernel
theorem dX5_init_137 : decode cX5_init 137 = .ok (.iconst 4, 1) := by decide +kernel
theorem dX5_init_138 : decode cX5_init 138 = .ok (.invokespecial 11, 3) := by decide +kernel
theorem dX5_init_141 : decode cX5_init 141 = .ok (.putfield 47, 3) := by decide +kernel
theorem dX5_init_144 : decode cX5_init 144 = .ok (.aload_n 0, 1) := by decide +kernel
theorem dX5_init_145 : decode cX5_init 145 = .ok (.new 9, 3) := by decide +kernel
theorem dX5_init_148 : decode cX5_init 148 = .ok (.dup, 1) := by decide +kernel
theorem dX5_init_149 : decode cX5_init 149 = .ok (.sipush 147, 3) := by decide +kernel
theorem dX5_init_152 : decode cX5_init 152 = .ok (.invokespecial 11, 3) := by decide +kernel
theorem dX5_init_155 : decode cX5_init 155 = .ok (.putfield 50, 3) := by decide +kernel
theorem dX5_init_158 : decode cX5_init 158 = .ok (.aload_n 0, 1) := by decide +kernel
theorem dX5_init_159 : decode cX5_init 159 = .ok (.new 9, 3) := by decide +kernel
theorem dX5_init_162 : decode cX5_init 162 = .ok (.dup, 1) := by decide +kernel
theorem dX5_init_163 : decode cX5_init 163 = .ok (.sipush 140, 3) := by decide +kernel
theorem dX5_init_166 : decode cX5_init 166 = .ok (.invokespecial 11, 3) := by decide +kernel
theorem dX5_init_169 : decode cX5_init 169 = .ok (.putfield 53, 3) := by decide +kernel
theorem dX5_init_172 : decode cX5_init 172 = .ok (.aload_n 0, 1) := by decide +kernel
theorem dX5_init_173 : decode cX5_init 173 = .ok (.iconst 0, 1) := by decide +kernel
theorem dX5_init_174 : decode cX5_init 174 = .ok (.putfield 56, 3) := by decide +kernel
theorem dX5_init_177 : decode cX5_init 177 = .ok (.aload_n 0, 1) := by decide +kernel
theorem dX5_init_178 : decode cX5_init 178 = .ok (.iconst 0, 1) := by decide +kernel
theorem dX5_init_179 : decode cX5_init 179 = .ok (.putfield 60, 3) := by decide +kernel
theorem dX5_init_182 : decode cX5_init 182 = .ok (.aload_n 0, 1) := by decide +kernel
theorem dX5_init_183 : decode cX5_init 183 = .ok (.iconst 0, 1) := by decide +kernel
theorem dX5_init_184 : decode cX5_init 184 = .ok (.putfield 63, 3) := by decide +kernel
theorem dX5_init_187 : decode cX5_init 187 = .ok (.aload_n 0, 1) := by decide +kernel
theorem dX5_init_188 : decode cX5_init 188 = .ok (.iconst 0, 1) := by decide +kernel
theorem dX5_init_189 : decode cX5_init 189 = .ok (.putfield 66, 3) := by decide +kernel
theorem dX5_init_192 : decode cX5_init 192 = .ok (.aload_n 0, 1) := by decide +kernel
theorem dX5_init_193 : decode cX5_init 193 = .ok (.invokevirtual 69, 3) := by decide +kernel
theorem dX5_init_196 : decode cX5_init 196 = .ok (.return_, 1) := by decide +kernel
theorem dX5_reset_0 : decode cX5_reset 0 = .ok (.aload_n 0, 1) := by decide +kernel
theorem dX5_reset_1 : decode cX5_reset 1 = .ok (.getfield 14, 3) := by decide +kernel
theorem dX5_reset_4 : decode cX5_reset 4 = .ok (.bipush 7, 2) := by decide +kernel
theorem dX5_reset_6 : decode cX5_reset 6 = .ok (.iconst 0, 1) := by decide +kernel
theorem dX5_reset_7 : decode cX5_reset 7 = .ok (.invokevirtual 72, 3) := by decide +kernel
theorem dX5_reset_10 : decode cX5_reset 10 = .ok (.aload_n 0, 1) := by decide +kernel
theorem dX5_reset_11 : decode cX5_reset 11 = .ok (.getfield 20, 3) := by decide +kernel
theorem dX5_reset_14 : decode cX5_reset 14 = .ok (.bipush 7, 2) := by decide +kernel
theorem dX5_reset_16 : decode cX5_reset 16 = .ok (.iconst 0, 1) := by decide +kernel
theorem dX5_reset_17 : decode cX5_reset 17 = .ok (.invokevirtual 72, 3) := by decide +kernel
theorem dX5_reset_20 : decode cX5_reset 20 = .ok (.aload_n 0, 1) := by decide +kernel
theorem dX5_reset_21 : decode cX5_reset 21 = .ok (.getfield 23, 3) := by decide +kernel
theorem dX5_reset_24 : decode cX5_reset 24 = .ok (.bipush 7, 2) := by decide +kernel
theorem dX5_reset_26 : decode cX5_reset 26 = .ok (.bipush 10, 2) := by decide +kernel
theorem dX5_reset_28 : decode cX5_reset 28 = .ok (.invokevirtual 72, 3) := by decide +kernel
theorem dX5_reset_31 : decode cX5_reset 31 = .ok (.aload_n 0, 1) := by decide +kernel
theorem dX5_reset_32 : decode cX5_reset 32 = .ok (.getfield 26, 3) := by decide +kernel
theorem dX5_reset_35 : decode cX5_reset 35 = .ok (.bipush 7, 2) := by decide +kernel
theorem dX5_reset_37 : decode cX5_reset 37 = .ok (.bipush 10, 2) := by decide +kernel
theorem dX5_reset_39 : decode cX5_reset 39 = .ok (.invokevirtual 72, 3) := by decide +kernel
theorem dX5_reset_42 : decode cX5_reset 42 = .ok (.aload_n 0, 1) := by decide +kernel
theorem dX5_reset_43 : decode cX5_reset 43 = .ok (.getfield 29, 3) := by decide +kernel
theorem dX5_reset_46 : decode cX5_reset 46 = .ok (.bipush 7, 2) := by decide +kernel
theorem dX5_reset_48 : decode cX5_reset 48 = .ok (.iconst 0, 1) := by decide +kernel
theorem dX5_reset_49 : decode cX5_reset 49 = .ok (.invokevirtual 72, 3) := by decide +kernel
theorem dX5_reset_52 : decode cX5_reset 52 = .ok (.aload_n 0, 1) := by decide +kernel
theorem dX5_reset_53 : decode cX5_reset 53 = .ok (.getfield 32, 3) := by decide +kernel
theorem dX5_reset_56 : decode cX5_reset 56 = .ok (.bipush 7, 2) := by decide +kernel
theorem dX5_reset_58 : decode cX5_reset 58 = .ok (.iconst 0, 1) := by decide +kernel
theorem dX5_reset_59 : decode cX5_reset 59 = .ok (.invokevirtual 72, 3) := by decide +kernel
theorem dX5_reset_62 : decode cX5_reset 62 = .ok (.aload_n 0, 1) := by decide +kernel
theorem dX5_reset_63 : decode cX5_reset 63 = .ok (.getfield 35, 3) := by decide +kernel
theorem dX5_reset_66 : decode cX5_reset 66 = .ok (.bipush 7, 2) := by decide +kernel
theorem dX5_reset_68 : decode cX5_reset 68 = .ok (.iconst 0, 1) := by decide +kernel
theorem dX5_reset_69 : decode cX5_reset 69 = .ok (.invokevirtual 72, 3) := by decide +kernel
theorem dX5_reset_72 : decode cX5_reset 72 = .ok (.aload_n 0, 1) := by decide +kernel
theorem dX5_reset_73 : decode cX5_reset 73 = .ok (.getfield 38, 3) := by decide +kernel
theorem dX5_reset_76 : decode cX5_reset 76 = .ok (.bipush 7, 2) := by decide +kernel
theorem dX5_reset_78 : decode cX5_reset 78 = .ok (.iconst 0, 1) := by decide +kernel
theorem dX5_reset_79 : decode cX5_reset 79 = .ok (.invokevirtual 72, 3) := by decide +kernel
theorem dX5_reset_82 : decode cX5_reset 82 = .ok (.aload_n 0, 1) := by decide +kernel
theorem dX5_reset_83 : decode cX5_reset 83 = .ok (.getfield 41, 3) := by decide +kernel
theorem dX5_reset_86 : decode cX5_reset 86 = .ok (.iconst 4, 1) := by decide +kernel
theorem dX5_reset_87 : decode cX5_reset 87 = .ok (.iconst 0, 1) := by decide +kernel
theorem dX5_reset_88 : decode cX5_reset 88 = .ok (.invokevirtual 72, 3) := by decide +kernel
theorem dX5_reset_91 : decode cX5_reset 91 = .ok (.aload_n 0, 1) := by decide +kernel
theorem dX5_reset_92 : decode cX5_reset 92 = .ok (.getfield 44, 3) := by decide +kernel
theorem dX5_reset_95 : decode cX5_reset 95 = .ok (.iconst 4, 1) := by decide +kernel
theorem dX5_reset_96 : decode cX5_reset 96 = .ok (.iconst 0, 1) := by decide +kernel
theorem dX5_reset_97 : decode cX5_reset 97 = .ok (.invokevirtual 72, 3) := by decide +kernel
theorem dX5_reset_100 : decode cX5_reset 100 = .ok (.aload_n 0, 1) := by decide +kernel
theorem dX5_reset_101 : decode cX5_reset 101 = .ok (.getfield 47, 3) := by decide +kernel
theorem dX5_reset_104 : decode cX5_reset 104 = .ok (.iconst 4, 1) := by decide +kernel
theorem dX5_reset_105 : decode cX5_reset 105 = .ok (.iconst 0, 1) := by decide +kernel
theorem dX5_reset_106 : decode cX5_reset 106 = .ok (.invokevirtual 72, 3) := by decide +kernel
theorem dX5_reset_109 : decode cX5_reset 109 = .ok (.aload_n 0, 1) := by decide +kernel
theorem dX5_reset_110 : decode cX5_reset 110 = .ok (.getfield 50, 3) := by decide +kernel
theorem dX5_reset_113 : decode cX5_reset 113 = .ok (.iconst 0, 1) := by decide +kernel
theorem dX5_reset_114 : decode cX5_reset 114 = .ok (.iconst 0, 1) := by decide +kernel
theorem dX5_reset_115 : decode cX5_reset 115 = .ok (.invokevirtual 72, 3) := by decide +kernel
theorem dX5_reset_118 : decode cX5_reset 118 = .ok (.aload_n 0, 1) := by decide +kernel
theorem dX5_reset_119 : decode cX5_reset 119 = .ok (.getfield 53, 3) := by decide +kernel
theorem dX5_reset_122 : decode cX5_reset 122 = .ok (.iconst 0, 1) := by decide +kernel
theorem dX5_reset_123 : decode cX5_reset 123 = .ok (.iconst 0, 1) := by decide +kernel
theorem dX5_reset_124 : decode cX5_reset 124 = .ok (.invokevirtual 72, 3) := by decide +kernel
theorem dX5_reset_127 : decode cX5_reset 127 = .ok (.aload_n 0, 1) := by decide +kernel
theorem dX5_reset_128 : decode cX5_reset 128 = .ok (.iconst 0, 1) := by decide +kernel
theorem dX5_reset_129 : decode cX5_reset 129 = .ok (.putfield 56, 3) := by decide +kernel
theorem dX5_reset_132 : decode cX5_reset 132 = .ok (.aload_n 0, 1) := by decide +kernel
theorem dX5_reset_133 : decode cX5_reset 133 = .ok (.iconst 0, 1) := by decide +kernel
theorem dX5_reset_134 : decode cX5_reset 134 = .ok (.putfield 60, 3) := by decide +kernel
theorem dX5_reset_137 : decode cX5_reset 137 = .ok (.aload_n 0, 1) := by decide +kernel
theorem dX5_reset_138 : decode cX5_reset 138 = .ok (.iconst 0, 1) := by decide +kernel
theorem dX5_reset_139 : decode cX5_reset 139 = .ok (.putfield 63, 3) := by decide +kernel
theorem dX5_reset_142 : decode cX5_reset 142 = .ok (.aload_n 0, 1) := by decide +kernel
theorem dX5_reset_143 : decode cX5_reset 143 = .ok (.iconst 0, 1) := by decide +kernel
theorem dX5_reset_144 : decode cX5_reset 144 = .ok (.putfield 66, 3) := by decide +kernel
theorem dX5_reset_147 : decode cX5_reset 147 = .ok (.return_, 1) := by decide +kernel
theorem dX5_copyFrom_0 : decode cX5_copyFrom 0 = .ok (.aload_n 0, 1) := by decide +kernel
theorem dX5_copyFrom_1 : decode cX5_copyFrom 1 = .ok (.getfield 14, 3) := by decide +kernel
theorem dX5_copyFrom_4 : decode cX5_copyFrom 4 = .ok (.aload_n 1, 1) := by decide +kernel
theorem dX5_copyFrom_5 : decode cX5_copyFrom 5 = .ok (.getfield 14, 3) := by decide +kernel
theorem dX5_copyFrom_8 : decode cX5_copyFrom 8 = .ok (.invokevirtual 76, 3) := by decide +kernel
theorem dX5_copyFrom_11 : decode cX5_copyFrom 11 = .ok (.aload_n 0, 1) := by decide +kernel
theorem dX5_copyFrom_12 : decode cX5_copyFrom 12 = .ok (.getfield 20, 3) := by decide +kernel
theorem dX5_copyFrom_15 : decode cX5_copyFrom 15 = .ok (.aload_n 1, 1) := by decide +kernel
theorem dX5_copyFrom_16 : decode cX5_copyFrom 16 = .ok (.getfield 20, 3) := by decide +kernel
theorem dX5_copyFrom_19 : decode cX5_copyFrom 19 = .ok (.invokevirtual 76, 3) := by decide +kernel
theorem dX5_copyFrom_22 : decode cX5_copyFrom 22 = .ok (.aload_n 0, 1) := by decide +kernel
theorem dX5_copyFrom_23 : decode cX5_copyFrom 23 = .ok (.getfield 23, 3) := by decide +kernel
theorem dX5_copyFrom_26 : decode cX5_copyFrom 26 = .ok (.aload_n 1, 1) := by decide +kernel
theorem dX5_copyFrom_27 : decode cX5_copyFrom 27 = .ok (.getfield 23, 3) := by decide +kernel
theorem dX5_copyFrom_30 : decode cX5_copyFrom 30 = .ok (.invokevirtual 76, 3) := by decide +kernel
theorem dX5_copyFrom_33 : decode cX5_copyFrom 33 = .ok (.aload_n 0, 1) := by decide +kernel
theorem dX5_copyFrom_34 : decode cX5_copyFrom 34 = .ok (.getfield 26, 3) := by decide +kernel
theorem dX5_copyFrom_37 : decode cX5_copyFrom 37 = .ok (.aload_n 1, 1) := by decide +kernel
theorem dX5_copyFrom_38 : decode cX5_copyFrom 38 = .ok (.getfield 26, 3) := by decide +kernel
theorem dX5_copyFrom_41 : decode cX5_copyFrom 41 = .ok (.invokevirtual 76, 3) := by decide +kernel
theorem dX5_copyFrom_44 : decode cX5_copyFrom 44 = .ok (.aload_n 0, 1) := by decide +kernel
theorem dX5_copyFrom_45 : decode cX5_copyFrom 45 = .ok (.getfield 29, 3) := by decide +kernel
theorem dX5_copyFrom_48 : decode cX5_copyFrom 48 = .ok (.aload_n 1, 1) := by decide +kernel
theorem dX5_copyFrom_49 : decode cX5_copyFrom 49 = .ok (.getfield 29, 3) := by decide +kernel
theorem dX5_copyFrom_52 : decode cX5_copyFrom 52 = .ok (.invokevirtual 76, 3) := by decide +kernel
theorem dX5_copyFrom_55 : decode cX5_copyFrom 55 = .ok (.aload_n 0, 1) := by decide +kernel
theorem dX5_copyFrom_56 : decode cX5_copyFrom 56 = .ok (.getfield 32, 3) := by decide +kernel
theorem dX5_copyFrom_59 : decode cX5_copyFrom 59 = .ok (.aload_n 1, 1) := by decide +kernel
theorem dX5_copyFrom_60 : decode cX5_copyFrom 60 = .ok (.getfield 32, 3) := by decide +kernel
theorem dX5_copyFrom_63 : decode cX5_copyFrom 63 = .ok (.invokevirtual 76, 3) := by decide +kernel
theorem dX5_copyFrom_66 : decode cX5_copyFrom 66 = .ok (.aload_n 0, 1) := by decide +kernel
theorem dX5_copyFrom_67 : decode cX5_copyFrom 67 = .ok (.getfield 35, 3) := by decide +kernel
theorem dX5_copyFrom_70 : decode cX5_copyFrom 70 = .ok (.aload_n 1, 1) := by decide +kernel
theorem dX5_copyFrom_71 : decode cX5_copyFrom 71 = .ok (.getfield 35, 3) := by decide +kernel
theorem dX5_copyFrom_74 : decode cX5_copyFrom 74 = .ok (.invokevirtual 76, 3) := by decide +kernel
theorem dX5_copyFrom_77 : decode cX5_copyFrom 77 = .ok (.aload_n 0, 1) := by decide +kernel
theorem dX5_copyFrom_78 : decode cX5_copyFrom 78 = .ok (.getfield 38, 3) := by decide +kernel
theorem dX5_copyFrom_81 : decode cX5_copyFrom 81 = .ok (.aload_n 1, 1) := by decide +kernel
theorem dX5_copyFrom_82 : decode cX5_copyFrom 82 = .ok (.getfield 38, 3) := by decide +kernel
theorem dX5_copyFrom_85 : decode cX5_copyFrom 85 = .ok (.invokevirtual 76, 3) := by decide +kernel
theorem dX5_copyFrom_88 : decode cX5_copyFrom 88 = .ok (.aload_n 0, 1) := by decide +kernel
theorem dX5_copyFrom_89 : decode cX5_copyFrom 89 = .ok (.getfield 41, 3) := by decide +kernel
theorem dX5_copyFrom_92 : decode cX5_copyFrom 92 = .ok (.aload_n 1, 1) := by decide +kernel
theorem dX5_copyFrom_93 : decode cX5_copyFrom 93 = .ok (.getfield 41, 3) := by decide +kernel
theorem dX5_copyFrom_96 : decode cX5_copyFrom 96 = .ok (.invokevirtual 76, 3) := by decide +kernel
theorem dX5_copyFrom_99 : decode cX5_copyFrom 99 = .ok (.aload_n 0, 1) := by decide +kernel
theorem dX5_copyFrom_100 : decode cX5_copyFrom 100 = .ok (.getfield 44, 3) := by decide +kernel
theorem dX5_copyFrom_103 : decode cX5_copyFrom 103 = .ok (.aload_n 1, 1) := by decide +kernel
theorem dX5_copyFrom_104 : decode cX5_copyFrom 104 = .ok (.getfield 44, 3) := by decide +kernel
theorem dX5_copyFrom_107 : decode cX5_copyFrom 107 = .ok (.invokevirtual 76, 3) := by decide +kernel
theorem dX5_copyFrom_110 : decode cX5_copyFrom 110 = .ok (.aload_n 0, 1) := by decide +kernel
theorem dX5_copyFrom_111 : decode cX5_copyFrom 111 = .ok (.getfield 47, 3) := by decide +kernel
theorem dX5_copyFrom_114 : decode cX5_copyFrom 114 = .ok (.aload_n 1, 1) := by decide +kernel
theorem dX5_copyFrom_115 : decode cX5_copyFrom 115 = .ok (.getfield 47, 3) := by decide +kernel
theorem dX5_copyFrom_118 : decode cX5_copyFrom 118 = .ok (.invokevirtual 76, 3) := by decide +kernel
theorem dX5_copyFrom_121 : decode cX5_copyFrom 121 = .ok (.aload_n 0, 1) := by decide +kernel
theorem dX5_copyFrom_122 : decode cX5_copyFrom 122 = .ok (.getfield 50, 3) := by decide +kernel
theorem dX5_copyFrom_125 : decode cX5_copyFrom 125 = .ok (.aload_n 1, 1) := by decide +kernel
theorem dX5_copyFrom_126 : decode cX5_copyFrom 126 = .ok (.getfield 50, 3) := by decide +kernel
theorem dX5_copyFrom_129 : decode cX5_copyFrom 129 = .ok (.invokevirtual 76, 3) := by decide +kernel
theorem dX5_copyFrom_132 : decode cX5_copyFrom 132 = .ok (.aload_n 0, 1) := by decide +kernel
theorem dX5_copyFrom_133 : decode cX5_copyFrom 133 = .ok (.getfield 53, 3) := by decide +kernel
theorem dX5_copyFrom_136 : decode cX5_copyFrom 136 = .ok (.aload_n 1, 1) := by decide +kernel
theorem dX5_copyFrom_137 : decode cX5_copyFrom 137 = .ok (.getfield 53, 3) := by decide +kernel
theorem dX5_copyFrom_140 : decode cX5_copyFrom 140 = .ok (.invokevirtual 76, 3) := by decide +kernel
theorem dX5_copyFrom_143 : decode cX5_copyFrom 143 = .ok (.aload_n 0, 1) := by decide +kernel
theorem dX5_copyFrom_144 : decode cX5_copyFrom 144 = .ok (.aload_n 1, 1) := by decide +kernel
theorem dX5_copyFrom_145 : decode cX5_copyFrom 145 = .ok (.getfield 56, 3) := by decide +kernel
theorem dX5_copyFrom_148 : decode cX5_copyFrom 148 = .ok (.putfield 56, 3) := by decide +kernel
theorem dX5_copyFrom_151 : decode cX5_copyFrom 151 = .ok (.aload_n 0, 1) := by decide +kernel
theorem dX5_copyFrom_152 : decode cX5_copyFrom 152 = .ok (.aload_n 1, 1) := by decide +kernel
theorem dX5_copyFrom_153 : decode cX5_copyFrom 153 = .ok (.getfield 60, 3) := by decide +kernel
theorem dX5_copyFrom_156 : decode cX5_copyFrom 156 = .ok (.putfield 60, 3) := by decide +kernel
theorem dX5_copyFrom_159 : decode cX5_copyFrom 159 = .ok (.aload_n 0, 1) := by decide +kernel
theorem dX5_copyFrom_160 : decode cX5_copyFrom 160 = .ok (.aload_n 1, 1) := by decide +kernel
theorem dX5_copyFrom_161 : decode cX5_copyFrom 161 = .ok (.getfield 63, 3) := by decide +kernel
theorem dX5_copyFrom_164 : decode cX5_copyFrom 164 = .ok (.putfield 63, 3) := by decide +kernel
theorem dX5_copyFrom_167 : decode cX5_copyFrom 167 = .ok (.aload_n 0, 1) := by decide +kernel
theorem dX5_copyFrom_168 : decode cX5_copyFrom 168 = .ok (.aload_n 1, 1) := by decide +kernel
theorem dX5_copyFrom_169 : decode cX5_copyFrom 169 = .ok (.getfield 66, 3) := by decide +kernel
theorem dX5_copyFrom_172 : decode cX5_copyFrom 172 = .ok (.putfield 66, 3) := by decide +kernel
theorem dX5_copyFrom_175 : decode cX5_copyFrom 175 = .ok (.return_, 1) := by decide +kernel
theorem dX5_giveSign_0 : decode cX5_giveSign 0 = .ok (.aload_n 0, 1) := by decide +kernel
theorem dX5_giveSign_1 : decode cX5_giveSign 1 = .ok (.getfield 14, 3) := by decide +kernel
theorem dX5_giveSign_4 : decode cX5_giveSign 4 = .ok (.iload_n 1, 1) := by decide +kernel
theorem dX5_giveSign_5 : decode cX5_giveSign 5 = .ok (.iload_n 2, 1) := by decide +kernel
theorem dX5_giveSign_6 : decode cX5_giveSign 6 = .ok (.invokevirtual 80, 3) := by decide +kernel
theorem dX5_giveSign_9 : decode cX5_giveSign 9 = .ok (.iload_n 2, 1) := by decide +kernel
theorem dX5_giveSign_10 : decode cX5_giveSign 10 = .ok (.invokestatic 83, 3) := by decide +kernel
theorem dX5_giveSign_13 : decode cX5_giveSign 13 = .ok (.ireturn, 1) := by decide +kernel
theorem dX5_takeSign_0 : decode cX5_takeSign 0 = .ok (.aload_n 0, 1) := by decide +kernel
theorem dX5_takeSign_1 : decode cX5_takeSign 1 = .ok (.getfield 14, 3) := by decide +kernel
theorem dX5_takeSign_4 : decode cX5_takeSign 4 = .ok (.iload_n 1, 1) := by decide +kernel
theorem dX5_takeSign_5 : decode cX5_takeSign 5 = .ok (.iconst 0, 1) := by decide +kernel
theorem dX5_takeSign_6 : decode cX5_takeSign 6 = .ok (.invokevirtual 80, 3) := by decide +kernel
theorem dX5_takeSign_9 : decode cX5_takeSign 9 = .ok (.aload_n 0, 1) := by decide +kernel
theorem dX5_takeSign_10 : decode cX5_takeSign 10 = .ok (.getfield 14, 3) := by decide +kernel
theorem dX5_takeSign_13 : decode cX5_takeSign 13 = .ok (.invokestatic 88, 3) := by decide +kernel
theorem dX5_takeSign_16 : decode cX5_takeSign 16 = .ok (.ireturn, 1) := by decide +kernel
theorem dX5_givePriority_0 : decode cX5_givePriority 0 = .ok (.aload_n 0, 1) := by decide +kernel
theorem dX5_givePriority_1 : decode cX5_givePriority 1 = .ok (.getfield 20, 3) := by decide +kernel
theorem dX5_givePriority_4 : decode cX5_givePriority 4 = .ok (.iload_n 1, 1) := by decide +kernel
theorem dX5_givePriority_5 : decode cX5_givePriority 5 = .ok (.invokevirtual 94, 3) := by decide +kernel
theorem dX5_givePriority_8 : decode cX5_givePriority 8 = .ok (.istore_n 3, 1) := by decide +kernel
theorem dX5_givePriority_9 : decode cX5_givePriority 9 = .ok (.aload_n 0, 1) := by decide +kernel
theorem dX5_givePriority_10 : decode cX5_givePriority 10 = .ok (.getfield 20, 3) := by decide +kernel
theorem dX5_givePriority_13 : decode cX5_givePriority 13 = .ok (.iload_n 1, 1) := by decide +kernel
theorem dX5_givePriority_14 : decode cX5_givePriority 14 = .ok (.iload_n 2, 1) := by decide +kernel
theorem dX5_givePriority_15 : decode cX5_givePriority 15 = .ok (.invokevirtual 80, 3) := by decide +kernel
theorem dX5_givePriority_18 : decode cX5_givePriority 18 = .ok (.iload_n 3, 1) := by decide +kernel
theorem dX5_givePriority_19 : decode cX5_givePriority 19 = .ok (.ireturn, 1) := by decide +kernel
theorem dX5_tellPlatform_0 : decode cX5_tellPlatform 0 = .ok (.aload_n 0, 1) := by decide +kernel
theorem dX5_tellPlatform_1 : decode cX5_tellPlatform 1 = .ok (.getfield 41, 3) := by decide +kernel
theorem dX5_tellPlatform_4 : decode cX5_tellPlatform 4 = .ok (.iload_n 1, 1) := by decide +kernel
theorem dX5_tellPlatform_5 : decode cX5_tellPlatform 5 = .ok (.iload_n 2, 1) := by decide +kernel
theorem dX5_tellPlatform_6 : decode cX5_tellPlatform 6 = .ok (.invokevirtual 80, 3) := by decide +kernel
theorem dX5_tellPlatform_9 : decode cX5_tellPlatform 9 = .ok (.aload_n 0, 1) := by decide +kernel
theorem dX5_tellPlatform_10 : decode cX5_tellPlatform 10 = .ok (.getfield 44, 3) := by decide +kernel
theorem dX5_tellPlatform_13 : decode cX5_tellPlatform 13 = .ok (.iload_n 1, 1) := by decide +kernel
theorem dX5_tellPlatform_14 : decode cX5_tellPlatform 14 = .ok (.iload_n 3, 1) := by decide +kernel
theorem dX5_tellPlatform_15 : decode cX5_tellPlatform 15 = .ok (.invokevirtual 80, 3) := by decide +kernel
theorem dX5_tellPlatform_18 : decode cX5_tellPlatform 18 = .ok (.aload_n 0, 1) := by decide +kernel
theorem dX5_tellPlatform_19 : decode cX5_tellPlatform 19 = .ok (.getfield 41, 3) := by decide +kernel
theorem dX5_tellPlatform_22 : decode cX5_tellPlatform 22 = .ok (.invokevirtual 97, 3) := by decide +kernel
theorem dX5_tellPlatform_25 : decode cX5_tellPlatform 25 = .ok (.ireturn, 1) := by decide +kernel
theorem dX5_blow_0 : decode cX5_blow 0 = .ok (.aload_n 0, 1) := by decide +kernel
theorem dX5_blow_1 : decode cX5_blow 1 = .ok (.getfield 23, 3) := by decide +kernel
theorem dX5_blow_4 : decode cX5_blow 4 = .ok (.iload_n 1, 1) := by decide +kernel
theorem dX5_blow_5 : decode cX5_blow 5 = .ok (.aload_n 0, 1) := by decide +kernel
theorem dX5_blow_6 : decode cX5_blow 6 = .ok (.iload_n 1, 1) := by decide +kernel
theorem dX5_blow_7 : decode cX5_blow 7 = .ok (.iload_n 2, 1) := by decide +kernel
theorem dX5_blow_8 : decode cX5_blow 8 = .ok (.invokevirtual 101, 3) := by decide +kernel
theorem dX5_blow_11 : decode cX5_blow 11 = .ok (.ineg, 1) := by decide +kernel
theorem dX5_blow_12 : decode cX5_blow 12 = .ok (.invokevirtual 105, 3) := by decide +kernel
theorem dX5_blow_15 : decode cX5_blow 15 = .ok (.aload_n 0, 1) := by decide +kernel
theorem dX5_blow_16 : decode cX5_blow 16 = .ok (.dup, 1) := by decide +kernel
theorem dX5_blow_17 : decode cX5_blow 17 = .ok (.getfield 60, 3) := by decide +kernel
theorem dX5_blow_20 : decode cX5_blow 20 = .ok (.iconst 1, 1) := by decide +kernel
theorem dX5_blow_21 : decode cX5_blow 21 = .ok (.iadd, 1) := by decide +kernel
theorem dX5_blow_22 : decode cX5_blow 22 = .ok (.putfield 60, 3) := by decide +kernel
theorem dX5_blow_25 : decode cX5_blow 25 = .ok (.iload_n 2, 1) := by decide +kernel
theorem dX5_blow_26 : decode cX5_blow 26 = .ok (.iload_n 1, 1) := by decide +kernel
theorem dX5_blow_27 : decode cX5_blow 27 = .ok (.if_icmp .eq 12, 3) := by decide +kernel
theorem dX5_blow_30 : decode cX5_blow 30 = .ok (.aload_n 0, 1) := by decide +kernel
theorem dX5_blow_31 : decode cX5_blow 31 = .ok (.getfield 35, 3) := by decide +kernel
theorem dX5_blow_34 : decode cX5_blow 34 = .ok (.iload_n 1, 1) := by decide +kernel
theorem dX5_blow_35 : decode cX5_blow 35 = .ok (.iconst 1, 1) := by decide +kernel
theorem dX5_blow_36 : decode cX5_blow 36 = .ok (.invokevirtual 105, 3) := by decide +kernel
theorem dX5_blow_39 : decode cX5_blow 39 = .ok (.iload_n 2, 1) := by decide +kernel
theorem dX5_blow_40 : decode cX5_blow 40 = .ok (.iload_n 1, 1) := by decide +kernel
theorem dX5_blow_41 : decode cX5_blow 41 = .ok (.aload_n 0, 1) := by decide +kernel
theorem dX5_blow_42 : decode cX5_blow 42 = .ok (.getfield 14, 3) := by decide +kernel
theorem dX5_blow_45 : decode cX5_blow 45 = .ok (.iload_n 2, 1) := by decide +kernel
theorem dX5_blow_46 : decode cX5_blow 46 = .ok (.invokevirtual 94, 3) := by decide +kernel
theorem dX5_blow_49 : decode cX5_blow 49 = .ok (.invokestatic 108, 3) := by decide +kernel
theorem dX5_blow_52 : decode cX5_blow 52 = .ok (.istore_n 3, 1) := by decide +kernel
theorem dX5_blow_53 : decode cX5_blow 53 = .ok (.aload_n 0, 1) := by decide +kernel
theorem dX5_blow_54 : decode cX5_blow 54 = .ok (.getfield 50, 3) := by decide +kernel
theorem dX5_blow_57 : decode cX5_blow 57 = .ok (.iload_n 3, 1) := by decide +kernel
theorem dX5_blow_58 : decode cX5_blow 58 = .ok (.invokevirtual 114, 3) := by decide +kernel
theorem dX5_blow_61 : decode cX5_blow 61 = .ok (.iconst 0, 1) := by decide +kernel
theorem dX5_blow_62 : decode cX5_blow 62 = .ok (.istore 4, 2) := by decide +kernel
theorem dX5_blow_64 : decode cX5_blow 64 = .ok (.iload 4, 2) := by decide +kernel
theorem dX5_blow_66 : decode cX5_blow 66 = .ok (.iconst 4, 1) := by decide +kernel
theorem dX5_blow_67 : decode cX5_blow 67 = .ok (.if_icmp .ge 60, 3) := by decide +kernel
theorem dX5_blow_70 : decode cX5_blow 70 = .ok (.aload_n 0, 1) := by decide +kernel
theorem dX5_blow_71 : decode cX5_blow 71 = .ok (.getfield 41, 3) := by decide +kernel
theorem dX5_blow_74 : decode cX5_blow 74 = .ok (.iload 4, 2) := by decide +kernel
theorem dX5_blow_76 : decode cX5_blow 76 = .ok (.invokevirtual 94, 3) := by decide +kernel
theorem dX5_blow_79 : decode cX5_blow 79 = .ok (.ifCond .le 42, 3) := by decide +kernel
theorem dX5_blow_82 : decode cX5_blow 82 = .ok (.aload_n 0, 1) := by decide +kernel
theorem dX5_blow_83 : decode cX5_blow 83 = .ok (.getfield 44, 3) := by decide +kernel
theorem dX5_blow_86 : decode cX5_blow 86 = .ok (.iload 4, 2) := by decide +kernel
theorem dX5_blow_88 : decode cX5_blow 88 = .ok (.invokevirtual 94, 3) := by decide +kernel
theorem dX5_blow_91 : decode cX5_blow 91 = .ok (.iload_n 1, 1) := by decide +kernel
theorem dX5_blow_92 : decode cX5_blow 92 = .ok (.ishr, 1) := by decide +kernel
theorem dX5_blow_93 : decode cX5_blow 93 = .ok (.iconst 1, 1) := by decide +kernel
theorem dX5_blow_94 : decode cX5_blow 94 = .ok (.iand, 1) := by decide +kernel
theorem dX5_blow_95 : decode cX5_blow 95 = .ok (.iconst 1, 1) := by decide +kernel
theorem dX5_blow_96 : decode cX5_blow 96 = .ok (.if_icmp .ne 25, 3) := by decide +kernel
theorem dX5_blow_99 : decode cX5_blow 99 = .ok (.aload_n 0, 1) := by decide +kernel
theorem dX5_blow_100 : decode cX5_blow 100 = .ok (.getfield 53, 3) := by decide +kernel
theorem dX5_blow_103 : decode cX5_blow 103 = .ok (.iload_n 3, 1) := by decide +kernel
theorem dX5_blow_104 : decode cX5_blow 104 = .ok (.iload 4, 2) := by decide +kernel
theorem dX5_blow_106 : decode cX5_blow 106 = .ok (.aload_n 0, 1) := by decide +kernel
theorem dX5_blow_107 : decode cX5_blow 107 = .ok (.getfield 41, 3) := by decide +kernel
theorem dX5_blow_110 : decode cX5_blow 110 = .ok (.iload 4, 2) := by decide +kernel
theorem dX5_blow_112 : decode cX5_blow 112 = .ok (.invokevirtual 94, 3) := by decide +kernel
theorem dX5_blow_115 : decode cX5_blow 115 = .ok (.invokestatic 117, 3) := by decide +kernel
theorem dX5_blow_118 : decode cX5_blow 118 = .ok (.invokevirtual 114, 3) := by decide +kernel
theorem dX5_blow_121 : decode cX5_blow 121 = .ok (.iinc 4 1, 3) := by decide +kernel
theorem dX5_blow_124 : decode cX5_blow 124 = .ok (.goto (-60), 3) := by decide +kernel
theorem dX5_blow_127 : decode cX5_blow 127 = .ok (.aload_n 0, 1) := by decide +kernel
theorem dX5_blow_128 : decode cX5_blow 128 = .ok (.getfield 23, 3) := by decide +kernel
theorem dX5_blow_131 : decode cX5_blow 131 = .ok (.iload_n 1, 1) := by decide +kernel
theorem dX5_blow_132 : decode cX5_blow 132 = .ok (.invokevirtual 94, 3) := by decide +kernel
theorem dX5_blow_135 : decode cX5_blow 135 = .ok (.ireturn, 1) := by decide +kernel
theorem dX5_steamToBlow_0 : decode cX5_steamToBlow 0 = .ok (.aload_n 0, 1) := by decide +kernel
theorem dX5_steamToBlow_1 : decode cX5_steamToBlow 1 = .ok (.getfield 14, 3) := by decide +kernel
theorem dX5_steamToBlow_4 : decode cX5_steamToBlow 4 = .ok (.iload_n 2, 1) := by decide +kernel
theorem dX5_steamToBlow_5 : decode cX5_steamToBlow 5 = .ok (.invokevirtual 94, 3) := by decide +kernel
theorem dX5_steamToBlow_8 : decode cX5_steamToBlow 8 = .ok (.invokestatic 83, 3) := by decide +kernel
theorem dX5_steamToBlow_11 : decode cX5_steamToBlow 11 = .ok (.istore_n 3, 1) := by decide +kernel
theorem dX5_steamToBlow_12 : decode cX5_steamToBlow 12 = .ok (.iload_n 1, 1) := by decide +kernel
theorem dX5_steamToBlow_13 : decode cX5_steamToBlow 13 = .ok (.iload_n 2, 1) := by decide +kernel
theorem dX5_steamToBlow_14 : decode cX5_steamToBlow 14 = .ok (.if_icmp .ne 7, 3) := by decide +kernel
theorem dX5_steamToBlow_17 : decode cX5_steamToBlow 17 = .ok (.iload_n 3, 1) := by decide +kernel
theorem dX5_steamToBlow_18 : decode cX5_steamToBlow 18 = .ok (.goto 6, 3) := by decide +kernel
theorem dX5_steamToBlow_21 : decode cX5_steamToBlow 21 = .ok (.iconst 2, 1) := by decide +kernel
theorem dX5_steamToBlow_22 : decode cX5_steamToBlow 22 = .ok (.iload_n 3, 1) := by decide +kernel
theorem dX5_steamToBlow_23 : decode cX5_steamToBlow 23 = .ok (.imul, 1) := by decide +kernel
theorem dX5_steamToBlow_24 : decode cX5_steamToBlow 24 = .ok (.ireturn, 1) := by decide +kernel
theorem dX5_exposeLiar_0 : decode cX5_exposeLiar 0 = .ok (.aload_n 0, 1) := by decide +kernel
theorem dX5_exposeLiar_1 : decode cX5_exposeLiar 1 = .ok (.iload_n 1, 1) := by decide +kernel
theorem dX5_exposeLiar_2 : decode cX5_exposeLiar 2 = .ok (.invokevirtual 120, 3) := by decide +kernel
theorem dX5_exposeLiar_5 : decode cX5_exposeLiar 5 = .ok (.istore_n 2, 1) := by decide +kernel
theorem dX5_exposeLiar_6 : decode cX5_exposeLiar 6 = .ok (.aload_n 0, 1) := by decide +kernel
theorem dX5_exposeLiar_7 : decode cX5_exposeLiar 7 = .ok (.getfield 50, 3) := by decide +kernel
theorem dX5_exposeLiar_10 : decode cX5_exposeLiar 10 = .ok (.iload_n 2, 1) := by decide +kernel
theorem dX5_exposeLiar_11 : decode cX5_exposeLiar 11 = .ok (.aload_n 0, 1) := by decide +kernel
theorem dX5_exposeLiar_12 : decode cX5_exposeLiar 12 = .ok (.getfield 50, 3) := by decide +kernel
theorem dX5_exposeLiar_15 : decode cX5_exposeLiar 15 = .ok (.iload_n 2, 1) := by decide +kernel
theorem dX5_exposeLiar_16 : decode cX5_exposeLiar 16 = .ok (.invokevirtual 94, 3) := by decide +kernel
theorem dX5_exposeLiar_19 : decode cX5_exposeLiar 19 = .ok (.invokestatic 123, 3) := by decide +kernel
theorem dX5_exposeLiar_22 : decode cX5_exposeLiar 22 = .ok (.invokevirtual 80, 3) := by decide +kernel
theorem dX5_exposeLiar_25 : decode cX5_exposeLiar 25 = .ok (.aload_n 0, 1) := by decide +kernel
theorem dX5_exposeLiar_26 : decode cX5_exposeLiar 26 = .ok (.getfield 38, 3) := by decide +kernel
theorem dX5_exposeLiar_29 : decode cX5_exposeLiar 29 = .ok (.iload_n 1, 1) := by decide +kernel
theorem dX5_exposeLiar_30 : decode cX5_exposeLiar 30 = .ok (.iconst 1, 1) := by decide +kernel
theorem dX5_exposeLiar_31 : decode cX5_exposeLiar 31 = .ok (.invokevirtual 105, 3) := by decide +kernel
theorem dX5_exposeLiar_34 : decode cX5_exposeLiar 34 = .ok (.aload_n 0, 1) := by decide +kernel
theorem dX5_exposeLiar_35 : decode cX5_exposeLiar 35 = .ok (.getfield 29, 3) := by decide +kernel
theorem dX5_exposeLiar_38 : decode cX5_exposeLiar 38 = .ok (.iload_n 1, 1) := by decide +kernel
theorem dX5_exposeLiar_39 : decode cX5_exposeLiar 39 = .ok (.iconst 3, 1) := by decide +kernel
theorem dX5_exposeLiar_40 : decode cX5_exposeLiar 40 = .ok (.invokevirtual 105, 3) := by decide +kernel
theorem dX5_exposeLiar_43 : decode cX5_exposeLiar 43 = .ok (.aload_n 0, 1) := by decide +kernel
theorem dX5_exposeLiar_44 : decode cX5_exposeLiar 44 = .ok (.getfield 29, 3) := by decide +kernel
theorem dX5_exposeLiar_47 : decode cX5_exposeLiar 47 = .ok (.iload_n 1, 1) := by decide +kernel
theorem dX5_exposeLiar_48 : decode cX5_exposeLiar 48 = .ok (.invokevirtual 94, 3) := by decide +kernel
theorem dX5_exposeLiar_51 : decode cX5_exposeLiar 51 = .ok (.ireturn, 1) := by decide +kernel
theorem dX5_silence_0 : decode cX5_silence 0 = .ok (.aload_n 0, 1) := by decide +kernel
theorem dX5_silence_1 : decode cX5_silence 1 = .ok (.getfield 29, 3) := by decide +kernel
theorem dX5_silence_4 : decode cX5_silence 4 = .ok (.iload_n 1, 1) := by decide +kernel
theorem dX5_silence_5 : decode cX5_silence 5 = .ok (.iload_n 2, 1) := by decide +kernel
theorem dX5_silence_6 : decode cX5_silence 6 = .ok (.invokevirtual 80, 3) := by decide +kernel
theorem dX5_silence_9 : decode cX5_silence 9 = .ok (.aload_n 0, 1) := by decide +kernel
theorem dX5_silence_10 : decode cX5_silence 10 = .ok (.getfield 29, 3) := by decide +kernel
theorem dX5_silence_13 : decode cX5_silence 13 = .ok (.invokevirtual 97, 3) := by decide +kernel
theorem dX5_silence_16 : decode cX5_silence 16 = .ok (.ireturn, 1) := by decide +kernel
theorem dX5_fineOf_0 : decode cX5_fineOf 0 = .ok (.iconst 2, 1) := by decide +kernel
theorem dX5_fineOf_1 : decode cX5_fineOf 1 = .ok (.aload_n 0, 1) := by decide +kernel
theorem dX5_fineOf_2 : decode cX5_fineOf 2 = .ok (.getfield 29, 3) := by decide +kernel
theorem dX5_fineOf_5 : decode cX5_fineOf 5 = .ok (.iload_n 1, 1) := by decide +kernel
theorem dX5_fineOf_6 : decode cX5_fineOf 6 = .ok (.invokevirtual 94, 3) := by decide +kernel
theorem dX5_fineOf_9 : decode cX5_fineOf 9 = .ok (.imul, 1) := by decide +kernel
theorem dX5_fineOf_10 : decode cX5_fineOf 10 = .ok (.ireturn, 1) := by decide +kernel
theorem dX5_payFine_0 : decode cX5_payFine 0 = .ok (.aload_n 0, 1) := by decide +kernel
theorem dX5_payFine_1 : decode cX5_payFine 1 = .ok (.iload_n 1, 1) := by decide +kernel
theorem dX5_payFine_2 : decode cX5_payFine 2 = .ok (.invokevirtual 126, 3) := by decide +kernel
theorem dX5_payFine_5 : decode cX5_payFine 5 = .ok (.istore_n 2, 1) := by decide +kernel
theorem dX5_payFine_6 : decode cX5_payFine 6 = .ok (.aload_n 0, 1) := by decide +kernel
theorem dX5_payFine_7 : decode cX5_payFine 7 = .ok (.getfield 26, 3) := by decide +kernel
theorem dX5_payFine_10 : decode cX5_payFine 10 = .ok (.iload_n 1, 1) := by decide +kernel
theorem dX5_payFine_11 : decode cX5_payFine 11 = .ok (.iload_n 2, 1) := by decide +kernel
theorem dX5_payFine_12 : decode cX5_payFine 12 = .ok (.ineg, 1) := by decide +kernel
theorem dX5_payFine_13 : decode cX5_payFine 13 = .ok (.invokevirtual 105, 3) := by decide +kernel
theorem dX5_payFine_16 : decode cX5_payFine 16 = .ok (.aload_n 0, 1) := by decide +kernel
theorem dX5_payFine_17 : decode cX5_payFine 17 = .ok (.dup, 1) := by decide +kernel
theorem dX5_payFine_18 : decode cX5_payFine 18 = .ok (.getfield 66, 3) := by decide +kernel
theorem dX5_payFine_21 : decode cX5_payFine 21 = .ok (.iload_n 2, 1) := by decide +kernel
theorem dX5_payFine_22 : decode cX5_payFine 22 = .ok (.iadd, 1) := by decide +kernel
theorem dX5_payFine_23 : decode cX5_payFine 23 = .ok (.putfield 66, 3) := by decide +kernel
theorem dX5_payFine_26 : decode cX5_payFine 26 = .ok (.aload_n 0, 1) := by decide +kernel
theorem dX5_payFine_27 : decode cX5_payFine 27 = .ok (.getfield 29, 3) := by decide +kernel
theorem dX5_payFine_30 : decode cX5_payFine 30 = .ok (.iload_n 1, 1) := by decide +kernel
theorem dX5_payFine_31 : decode cX5_payFine 31 = .ok (.iconst 0, 1) := by decide +kernel
theorem dX5_payFine_32 : decode cX5_payFine 32 = .ok (.invokevirtual 80, 3) := by decide +kernel
theorem dX5_payFine_35 : decode cX5_payFine 35 = .ok (.aload_n 0, 1) := by decide +kernel
theorem dX5_payFine_36 : decode cX5_payFine 36 = .ok (.getfield 26, 3) := by decide +kernel
theorem dX5_payFine_39 : decode cX5_payFine 39 = .ok (.iload_n 1, 1) := by decide +kernel
theorem dX5_payFine_40 : decode cX5_payFine 40 = .ok (.invokevirtual 94, 3) := by decide +kernel
theorem dX5_payFine_43 : decode cX5_payFine 43 = .ok (.ireturn, 1) := by decide +kernel
theorem dX5_endHour_0 : decode cX5_endHour 0 = .ok (.aload_n 0, 1) := by decide +kernel
theorem dX5_endHour_1 : decode cX5_endHour 1 = .ok (.invokevirtual 129, 3) := by decide +kernel
theorem dX5_endHour_4 : decode cX5_endHour 4 = .ok (.istore_n 1, 1) := by decide +kernel
theorem dX5_endHour_5 : decode cX5_endHour 5 = .ok (.iload_n 1, 1) := by decide +kernel
theorem dX5_endHour_6 : decode cX5_endHour 6 = .ok (.bipush (-2), 2) := by decide +kernel
theorem dX5_endHour_8 : decode cX5_endHour 8 = .ok (.if_icmp .ne 16, 3) := by decide +kernel
theorem dX5_endHour_11 : decode cX5_endHour 11 = .ok (.aload_n 0, 1) := by decide +kernel
theorem dX5_endHour_12 : decode cX5_endHour 12 = .ok (.dup, 1) := by decide +kernel
theorem dX5_endHour_13 : decode cX5_endHour 13 = .ok (.getfield 63, 3) := by decide +kernel
theorem dX5_endHour_16 : decode cX5_endHour 16 = .ok (.iconst 1, 1) := by decide +kernel
theorem dX5_endHour_17 : decode cX5_endHour 17 = .ok (.iadd, 1) := by decide +kernel
theorem dX5_endHour_18 : decode cX5_endHour 18 = .ok (.putfield 63, 3) := by decide +kernel
theorem dX5_endHour_21 : decode cX5_endHour 21 = .ok (.goto 26, 3) := by decide +kernel
theorem dX5_endHour_24 : decode cX5_endHour 24 = .ok (.iload_n 1, 1) := by decide +kernel
theorem dX5_endHour_25 : decode cX5_endHour 25 = .ok (.iconst (-1), 1) := by decide +kernel
theorem dX5_endHour_26 : decode cX5_endHour 26 = .ok (.if_icmp .eq 21, 3) := by decide +kernel
theorem dX5_endHour_29 : decode cX5_endHour 29 = .ok (.aload_n 0, 1) := by decide +kernel
theorem dX5_endHour_30 : decode cX5_endHour 30 = .ok (.getfield 32, 3) := by decide +kernel
theorem dX5_endHour_33 : decode cX5_endHour 33 = .ok (.iload_n 1, 1) := by decide +kernel
theorem dX5_endHour_34 : decode cX5_endHour 34 = .ok (.iconst 1, 1) := by decide +kernel
theorem dX5_endHour_35 : decode cX5_endHour 35 = .ok (.invokevirtual 105, 3) := by decide +kernel
theorem dX5_endHour_38 : decode cX5_endHour 38 = .ok (.aload_n 0, 1) := by decide +kernel
theorem dX5_endHour_39 : decode cX5_endHour 39 = .ok (.getfield 26, 3) := by decide +kernel
theorem dX5_endHour_42 : decode cX5_endHour 42 = .ok (.iload_n 1, 1) := by decide +kernel
theorem dX5_endHour_43 : decode cX5_endHour 43 = .ok (.iconst 3, 1) := by decide +kernel
theorem dX5_endHour_44 : decode cX5_endHour 44 = .ok (.invokevirtual 105, 3) := by decide +kernel
theorem dX5_endHour_47 : decode cX5_endHour 47 = .ok (.iconst 0, 1) := by decide +kernel
theorem dX5_endHour_48 : decode cX5_endHour 48 = .ok (.istore_n 2, 1) := by decide +kernel
theorem dX5_endHour_49 : decode cX5_endHour 49 = .ok (.iload_n 2, 1) := by decide +kernel
theorem dX5_endHour_50 : decode cX5_endHour 50 = .ok (.bipush 7, 2) := by decide +kernel
theorem dX5_endHour_52 : decode cX5_endHour 52 = .ok (.if_icmp .ge 14, 3) := by decide +kernel
theorem dX5_endHour_55 : decode cX5_endHour 55 = .ok (.aload_n 0, 1) := by decide +kernel
theorem dX5_endHour_56 : decode cX5_endHour 56 = .ok (.iload_n 2, 1) := by decide +kernel
theorem dX5_endHour_57 : decode cX5_endHour 57 = .ok (.invokevirtual 132, 3) := by decide +kernel
theorem dX5_endHour_60 : decode cX5_endHour 60 = .ok (.iinc 2 1, 3) := by decide +kernel
theorem dX5_endHour_63 : decode cX5_endHour 63 = .ok (.goto (-14), 3) := by decide +kernel
theorem dX5_endHour_66 : decode cX5_endHour 66 = .ok (.aload_n 0, 1) := by decide +kernel
theorem dX5_endHour_67 : decode cX5_endHour 67 = .ok (.dup, 1) := by decide +kernel
theorem dX5_endHour_68 : decode cX5_endHour 68 = .ok (.getfield 56, 3) := by decide +kernel
theorem dX5_endHour_71 : decode cX5_endHour 71 = .ok (.iconst 1, 1) := by decide +kernel
theorem dX5_endHour_72 : decode cX5_endHour 72 = .ok (.iadd, 1) := by decide +kernel
theorem dX5_endHour_73 : decode cX5_endHour 73 = .ok (.putfield 56, 3) := by decide +kernel
theorem dX5_endHour_76 : decode cX5_endHour 76 = .ok (.aload_n 0, 1) := by decide +kernel
theorem dX5_endHour_77 : decode cX5_endHour 77 = .ok (.invokevirtual 135, 3) := by decide +kernel
theorem dX5_endHour_80 : decode cX5_endHour 80 = .ok (.iload_n 1, 1) := by decide +kernel
theorem dX5_endHour_81 : decode cX5_endHour 81 = .ok (.ireturn, 1) := by decide +kernel
theorem dX5_rest_0 : decode cX5_rest 0 = .ok (.aload_n 0, 1) := by decide +kernel
theorem dX5_rest_1 : decode cX5_rest 1 = .ok (.getfield 29, 3) := by decide +kernel
theorem dX5_rest_4 : decode cX5_rest 4 = .ok (.iload_n 1, 1) := by decide +kernel
theorem dX5_rest_5 : decode cX5_rest 5 = .ok (.invokevirtual 94, 3) := by decide +kernel
theorem dX5_rest_8 : decode cX5_rest 8 = .ok (.ifCond .le 15, 3) := by decide +kernel
theorem dX5_rest_11 : decode cX5_rest 11 = .ok (.aload_n 0, 1) := by decide +kernel
theorem dX5_rest_12 : decode cX5_rest 12 = .ok (.getfield 29, 3) := by decide +kernel
theorem dX5_rest_15 : decode cX5_rest 15 = .ok (.iload_n 1, 1) := by decide +kernel
theorem dX5_rest_16 : decode cX5_rest 16 = .ok (.iconst (-1), 1) := by decide +kernel
theorem dX5_rest_17 : decode cX5_rest 17 = .ok (.invokevirtual 105, 3) := by decide +kernel
theorem dX5_rest_20 : decode cX5_rest 20 = .ok (.goto 26, 3) := by decide +kernel
theorem dX5_rest_23 : decode cX5_rest 23 = .ok (.aload_n 0, 1) := by decide +kernel
theorem dX5_rest_24 : decode cX5_rest 24 = .ok (.getfield 23, 3) := by decide +kernel
theorem dX5_rest_27 : decode cX5_rest 27 = .ok (.iload_n 1, 1) := by decide +kernel
theorem dX5_rest_28 : decode cX5_rest 28 = .ok (.bipush 20, 2) := by decide +kernel
theorem dX5_rest_30 : decode cX5_rest 30 = .ok (.aload_n 0, 1) := by decide +kernel
theorem dX5_rest_31 : decode cX5_rest 31 = .ok (.getfield 23, 3) := by decide +kernel
theorem dX5_rest_34 : decode cX5_rest 34 = .ok (.iload_n 1, 1) := by decide +kernel
theorem dX5_rest_35 : decode cX5_rest 35 = .ok (.invokevirtual 94, 3) := by decide +kernel
theorem dX5_rest_38 : decode cX5_rest 38 = .ok (.iconst 2, 1) := by decide +kernel
theorem dX5_rest_39 : decode cX5_rest 39 = .ok (.iadd, 1) := by decide +kernel
theorem dX5_rest_40 : decode cX5_rest 40 = .ok (.invokestatic 138, 3) := by decide +kernel
theorem dX5_rest_43 : decode cX5_rest 43 = .ok (.invokevirtual 80, 3) := by decide +kernel
theorem dX5_rest_46 : decode cX5_rest 46 = .ok (.return_, 1) := by decide +kernel
theorem dX5_hearEchoes_0 : decode cX5_hearEchoes 0 = .ok (.aload_n 0, 1) := by decide +kernel
theorem dX5_hearEchoes_1 : decode cX5_hearEchoes 1 = .ok (.getfield 50, 3) := by decide +kernel
theorem dX5_hearEchoes_4 : decode cX5_hearEchoes 4 = .ok (.iconst 0, 1) := by decide +kernel
theorem dX5_hearEchoes_5 : decode cX5_hearEchoes 5 = .ok (.iconst 0, 1) := by decide +kernel
theorem dX5_hearEchoes_6 : decode cX5_hearEchoes 6 = .ok (.invokevirtual 72, 3) := by decide +kernel
theorem dX5_hearEchoes_9 : decode cX5_hearEchoes 9 = .ok (.iconst 0, 1) := by decide +kernel
theorem dX5_hearEchoes_10 : decode cX5_hearEchoes 10 = .ok (.istore_n 1, 1) := by decide +kernel
theorem dX5_hearEchoes_11 : decode cX5_hearEchoes 11 = .ok (.iconst 0, 1) := by decide +kernel
theorem dX5_hearEchoes_12 : decode cX5_hearEchoes 12 = .ok (.istore_n 2, 1) := by decide +kernel
theorem dX5_hearEchoes_13 : decode cX5_hearEchoes 13 = .ok (.iload_n 2, 1) := by decide +kernel
theorem dX5_hearEchoes_14 : decode cX5_hearEchoes 14 = .ok (.aload_n 0, 1) := by decide +kernel
theorem dX5_hearEchoes_15 : decode cX5_hearEchoes 15 = .ok (.getfield 53, 3) := by decide +kernel
theorem dX5_hearEchoes_18 : decode cX5_hearEchoes 18 = .ok (.invokevirtual 143, 3) := by decide +kernel
theorem dX5_hearEchoes_21 : decode cX5_hearEchoes 21 = .ok (.if_icmp .ge 63, 3) := by decide +kernel
theorem dX5_hearEchoes_24 : decode cX5_hearEchoes 24 = .ok (.aload_n 0, 1) := by decide +kernel
theorem dX5_hearEchoes_25 : decode cX5_hearEchoes 25 = .ok (.getfield 53, 3) := by decide +kernel
theorem dX5_hearEchoes_28 : decode cX5_hearEchoes 28 = .ok (.iload_n 2, 1) := by decide +kernel
theorem dX5_hearEchoes_29 : decode cX5_hearEchoes 29 = .ok (.invokevirtual 94, 3) := by decide +kernel
theorem dX5_hearEchoes_32 : decode cX5_hearEchoes 32 = .ok (.invokestatic 146, 3) := by decide +kernel
theorem dX5_hearEchoes_35 : decode cX5_hearEchoes 35 = .ok (.istore_n 3, 1) := by decide +kernel
theorem dX5_hearEchoes_36 : decode cX5_hearEchoes 36 = .ok (.iload_n 3, 1) := by decide +kernel
theorem dX5_hearEchoes_37 : decode cX5_hearEchoes 37 = .ok (.invokestatic 149, 3) := by decide +kernel
theorem dX5_hearEchoes_40 : decode cX5_hearEchoes 40 = .ok (.ifCond .ne 26, 3) := by decide +kernel
theorem dX5_hearEchoes_43 : decode cX5_hearEchoes 43 = .ok (.aload_n 0, 1) := by decide +kernel
theorem dX5_hearEchoes_44 : decode cX5_hearEchoes 44 = .ok (.getfield 50, 3) := by decide +kernel
theorem dX5_hearEchoes_47 : decode cX5_hearEchoes 47 = .ok (.iload_n 3, 1) := by decide +kernel
theorem dX5_hearEchoes_48 : decode cX5_hearEchoes 48 = .ok (.invokevirtual 114, 3) := by decide +kernel
theorem dX5_hearEchoes_51 : decode cX5_hearEchoes 51 = .ok (.aload_n 0, 1) := by decide +kernel
theorem dX5_hearEchoes_52 : decode cX5_hearEchoes 52 = .ok (.getfield 47, 3) := by decide +kernel
theorem dX5_hearEchoes_55 : decode cX5_hearEchoes 55 = .ok (.iload_n 3, 1) := by decide +kernel
theorem dX5_hearEchoes_56 : decode cX5_hearEchoes 56 = .ok (.invokestatic 152, 3) := by decide +kernel
theorem dX5_hearEchoes_59 : decode cX5_hearEchoes 59 = .ok (.iconst 1, 1) := by decide +kernel
theorem dX5_hearEchoes_60 : decode cX5_hearEchoes 60 = .ok (.invokevirtual 105, 3) := by decide +kernel
theorem dX5_hearEchoes_63 : decode cX5_hearEchoes 63 = .ok (.goto 15, 3) := by decide +kernel
theorem dX5_hearEchoes_66 : decode cX5_hearEchoes 66 = .ok (.aload_n 0, 1) := by decide +kernel
theorem dX5_hearEchoes_67 : decode cX5_hearEchoes 67 = .ok (.getfield 53, 3) := by decide +kernel
theorem dX5_hearEchoes_70 : decode cX5_hearEchoes 70 = .ok (.iload_n 1, 1) := by decide +kernel
theorem dX5_hearEchoes_71 : decode cX5_hearEchoes 71 = .ok (.iload_n 3, 1) := by decide +kernel
theorem dX5_hearEchoes_72 : decode cX5_hearEchoes 72 = .ok (.invokevirtual 80, 3) := by decide +kernel
theorem dX5_hearEchoes_75 : decode cX5_hearEchoes 75 = .ok (.iinc 1 1, 3) := by decide +kernel
theorem dX5_hearEchoes_78 : decode cX5_hearEchoes 78 = .ok (.iinc 2 1, 3) := by decide +kernel
theorem dX5_hearEchoes_81 : decode cX5_hearEchoes 81 = .ok (.goto (-68), 3) := by decide +kernel
theorem dX5_hearEchoes_84 : decode cX5_hearEchoes 84 = .ok (.aload_n 0, 1) := by decide +kernel
theorem dX5_hearEchoes_85 : decode cX5_hearEchoes 85 = .ok (.getfield 53, 3) := by decide +kernel
theorem dX5_hearEchoes_88 : decode cX5_hearEchoes 88 = .ok (.iload_n 1, 1) := by decide +kernel
theorem dX5_hearEchoes_89 : decode cX5_hearEchoes 89 = .ok (.invokevirtual 155, 3) := by decide +kernel
theorem dX5_hearEchoes_92 : decode cX5_hearEchoes 92 = .ok (.return_, 1) := by decide +kernel
theorem dX5_wayGoesTo_0 : decode cX5_wayGoesTo 0 = .ok (.iconst (-1), 1) := by decide +kernel
theorem dX5_wayGoesTo_1 : decode cX5_wayGoesTo 1 = .ok (.istore_n 1, 1) := by decide +kernel
theorem dX5_wayGoesTo_2 : decode cX5_wayGoesTo 2 = .ok (.iconst (-1), 1) := by decide +kernel
theorem dX5_wayGoesTo_3 : decode cX5_wayGoesTo 3 = .ok (.istore_n 2, 1) := by decide +kernel
theorem dX5_wayGoesTo_4 : decode cX5_wayGoesTo 4 = .ok (.iconst 0, 1) := by decide +kernel
theorem dX5_wayGoesTo_5 : decode cX5_wayGoesTo 5 = .ok (.istore_n 3, 1) := by decide +kernel
theorem dX5_wayGoesTo_6 : decode cX5_wayGoesTo 6 = .ok (.iload_n 3, 1) := by decide +kernel
theorem dX5_wayGoesTo_7 : decode cX5_wayGoesTo 7 = .ok (.aload_n 0, 1) := by decide +kernel
theorem dX5_wayGoesTo_8 : decode cX5_wayGoesTo 8 = .ok (.getfield 50, 3) := by decide +kernel
theorem dX5_wayGoesTo_11 : decode cX5_wayGoesTo 11 = .ok (.invokevirtual 143, 3) := by decide +kernel
theorem dX5_wayGoesTo_14 : decode cX5_wayGoesTo 14 = .ok (.if_icmp .ge 69, 3) := by decide +kernel
theorem dX5_wayGoesTo_17 : decode cX5_wayGoesTo 17 = .ok (.aload_n 0, 1) := by decide +kernel
theorem dX5_wayGoesTo_18 : decode cX5_wayGoesTo 18 = .ok (.getfield 50, 3) := by decide +kernel
theorem dX5_wayGoesTo_21 : decode cX5_wayGoesTo 21 = .ok (.iload_n 3, 1) := by decide +kernel
theorem dX5_wayGoesTo_22 : decode cX5_wayGoesTo 22 = .ok (.invokevirtual 94, 3) := by decide +kernel
theorem dX5_wayGoesTo_25 : decode cX5_wayGoesTo 25 = .ok (.istore 4, 2) := by decide +kernel
theorem dX5_wayGoesTo_27 : decode cX5_wayGoesTo 27 = .ok (.aload_n 0, 1) := by decide +kernel
theorem dX5_wayGoesTo_28 : decode cX5_wayGoesTo 28 = .ok (.getfield 20, 3) := by decide +kernel
theorem dX5_wayGoesTo_31 : decode cX5_wayGoesTo 31 = .ok (.iload 4, 2) := by decide +kernel
theorem dX5_wayGoesTo_33 : decode cX5_wayGoesTo 33 = .ok (.invokestatic 158, 3) := by decide +kernel
theorem dX5_wayGoesTo_36 : decode cX5_wayGoesTo 36 = .ok (.invokevirtual 94, 3) := by decide +kernel
theorem dX5_wayGoesTo_39 : decode cX5_wayGoesTo 39 = .ok (.istore 5, 2) := by decide +kernel
theorem dX5_wayGoesTo_41 : decode cX5_wayGoesTo 41 = .ok (.iload 4, 2) := by decide +kernel
theorem dX5_wayGoesTo_43 : decode cX5_wayGoesTo 43 = .ok (.invokestatic 161, 3) := by decide +kernel
theorem dX5_wayGoesTo_46 : decode cX5_wayGoesTo 46 = .ok (.ifCond .ne 31, 3) := by decide +kernel
theorem dX5_wayGoesTo_49 : decode cX5_wayGoesTo 49 = .ok (.iload 5, 2) := by decide +kernel
theorem dX5_wayGoesTo_51 : decode cX5_wayGoesTo 51 = .ok (.iload_n 1, 1) := by decide +kernel
theorem dX5_wayGoesTo_52 : decode cX5_wayGoesTo 52 = .ok (.if_icmp .le 25, 3) := by decide +kernel
theorem dX5_wayGoesTo_55 : decode cX5_wayGoesTo 55 = .ok (.iload 5, 2) := by decide +kernel
theorem dX5_wayGoesTo_57 : decode cX5_wayGoesTo 57 = .ok (.istore_n 1, 1) := by decide +kernel
theorem dX5_wayGoesTo_58 : decode cX5_wayGoesTo 58 = .ok (.iload 4, 2) := by decide +kernel
theorem dX5_wayGoesTo_60 : decode cX5_wayGoesTo 60 = .ok (.invokestatic 152, 3) := by decide +kernel
theorem dX5_wayGoesTo_63 : decode cX5_wayGoesTo 63 = .ok (.ifCond .ge 11, 3) := by decide +kernel
theorem dX5_wayGoesTo_66 : decode cX5_wayGoesTo 66 = .ok (.iload 4, 2) := by decide +kernel
theorem dX5_wayGoesTo_68 : decode cX5_wayGoesTo 68 = .ok (.invokestatic 165, 3) := by decide +kernel
theorem dX5_wayGoesTo_71 : decode cX5_wayGoesTo 71 = .ok (.goto 5, 3) := by decide +kernel
theorem dX5_wayGoesTo_74 : decode cX5_wayGoesTo 74 = .ok (.bipush (-2), 2) := by decide +kernel
theorem dX5_wayGoesTo_76 : decode cX5_wayGoesTo 76 = .ok (.istore_n 2, 1) := by decide +kernel
theorem dX5_wayGoesTo_77 : decode cX5_wayGoesTo 77 = .ok (.iinc 3 1, 3) := by decide +kernel
theorem dX5_wayGoesTo_80 : decode cX5_wayGoesTo 80 = .ok (.goto (-74), 3) := by decide +kernel
theorem dX5_wayGoesTo_83 : decode cX5_wayGoesTo 83 = .ok (.iload_n 2, 1) := by decide +kernel
theorem dX5_wayGoesTo_84 : decode cX5_wayGoesTo 84 = .ok (.ireturn, 1) := by decide +kernel
theorem dX5_numberHeard_0 : decode cX5_numberHeard 0 = .ok (.iconst 0, 1) := by decide +kernel
theorem dX5_numberHeard_1 : decode cX5_numberHeard 1 = .ok (.istore_n 1, 1) := by decide +kernel
theorem dX5_numberHeard_2 : decode cX5_numberHeard 2 = .ok (.iconst 0, 1) := by decide +kernel
theorem dX5_numberHeard_3 : decode cX5_numberHeard 3 = .ok (.istore_n 2, 1) := by decide +kernel
theorem dX5_numberHeard_4 : decode cX5_numberHeard 4 = .ok (.iload_n 2, 1) := by decide +kernel
theorem dX5_numberHeard_5 : decode cX5_numberHeard 5 = .ok (.aload_n 0, 1) := by decide +kernel
theorem dX5_numberHeard_6 : decode cX5_numberHeard 6 = .ok (.getfield 50, 3) := by decide +kernel
theorem dX5_numberHeard_9 : decode cX5_numberHeard 9 = .ok (.invokevirtual 143, 3) := by decide +kernel
theorem dX5_numberHeard_12 : decode cX5_numberHeard 12 = .ok (.if_icmp .ge 26, 3) := by decide +kernel
theorem dX5_numberHeard_15 : decode cX5_numberHeard 15 = .ok (.aload_n 0, 1) := by decide +kernel
theorem dX5_numberHeard_16 : decode cX5_numberHeard 16 = .ok (.getfield 50, 3) := by decide +kernel
theorem dX5_numberHeard_19 : decode cX5_numberHeard 19 = .ok (.iload_n 2, 1) := by decide +kernel
theorem dX5_numberHeard_20 : decode cX5_numberHeard 20 = .ok (.invokevirtual 94, 3) := by decide +kernel
theorem dX5_numberHeard_23 : decode cX5_numberHeard 23 = .ok (.invokestatic 161, 3) := by decide +kernel
theorem dX5_numberHeard_26 : decode cX5_numberHeard 26 = .ok (.ifCond .ne 6, 3) := by decide +kernel
theorem dX5_numberHeard_29 : decode cX5_numberHeard 29 = .ok (.iinc 1 1, 3) := by decide +kernel
theorem dX5_numberHeard_32 : decode cX5_numberHeard 32 = .ok (.iinc 2 1, 3) := by decide +kernel
theorem dX5_numberHeard_35 : decode cX5_numberHeard 35 = .ok (.goto (-31), 3) := by decide +kernel
theorem dX5_numberHeard_38 : decode cX5_numberHeard 38 = .ok (.iload_n 1, 1) := by decide +kernel
theorem dX5_numberHeard_39 : decode cX5_numberHeard 39 = .ok (.ireturn, 1) := by decide +kernel
theorem dX5_indexOfHeard_0 : decode cX5_indexOfHeard 0 = .ok (.iconst 0, 1) := by decide +kernel
theorem dX5_indexOfHeard_1 : decode cX5_indexOfHeard 1 = .ok (.istore_n 2, 1) := by decide +kernel
theorem dX5_indexOfHeard_2 : decode cX5_indexOfHeard 2 = .ok (.iconst 0, 1) := by decide +kernel
theorem dX5_indexOfHeard_3 : decode cX5_indexOfHeard 3 = .ok (.istore_n 3, 1) := by decide +kernel
theorem dX5_indexOfHeard_4 : decode cX5_indexOfHeard 4 = .ok (.iload_n 3, 1) := by decide +kernel
theorem dX5_indexOfHeard_5 : decode cX5_indexOfHeard 5 = .ok (.aload_n 0, 1) := by decide +kernel
theorem dX5_indexOfHeard_6 : decode cX5_indexOfHeard 6 = .ok (.getfield 50, 3) := by decide +kernel
theorem dX5_indexOfHeard_9 : decode cX5_indexOfHeard 9 = .ok (.invokevirtual 143, 3) := by decide +kernel
theorem dX5_indexOfHeard_12 : decode cX5_indexOfHeard 12 = .ok (.if_icmp .ge 33, 3) := by decide +kernel
theorem dX5_indexOfHeard_15 : decode cX5_indexOfHeard 15 = .ok (.aload_n 0, 1) := by decide +kernel
theorem dX5_indexOfHeard_16 : decode cX5_indexOfHeard 16 = .ok (.getfield 50, 3) := by decide +kernel
theorem dX5_indexOfHeard_19 : decode cX5_indexOfHeard 19 = .ok (.iload_n 3, 1) := by decide +kernel
theorem dX5_indexOfHeard_20 : decode cX5_indexOfHeard 20 = .ok (.invokevirtual 94, 3) := by decide +kernel
theorem dX5_indexOfHeard_23 : decode cX5_indexOfHeard 23 = .ok (.invokestatic 161, 3) := by decide +kernel
theorem dX5_indexOfHeard_26 : decode cX5_indexOfHeard 26 = .ok (.ifCond .ne 13, 3) := by decide +kernel
theorem dX5_indexOfHeard_29 : decode cX5_indexOfHeard 29 = .ok (.iload_n 2, 1) := by decide +kernel
theorem dX5_indexOfHeard_30 : decode cX5_indexOfHeard 30 = .ok (.iload_n 1, 1) := by decide +kernel
theorem dX5_indexOfHeard_31 : decode cX5_indexOfHeard 31 = .ok (.if_icmp .ne 5, 3) := by decide +kernel
theorem dX5_indexOfHeard_34 : decode cX5_indexOfHeard 34 = .ok (.iload_n 3, 1) := by decide +kernel
theorem dX5_indexOfHeard_35 : decode cX5_indexOfHeard 35 = .ok (.ireturn, 1) := by decide +kernel
theorem dX5_indexOfHeard_36 : decode cX5_indexOfHeard 36 = .ok (.iinc 2 1, 3) := by decide +kernel
theorem dX5_indexOfHeard_39 : decode cX5_indexOfHeard 39 = .ok (.iinc 3 1, 3) := by decide +kernel
theorem dX5_indexOfHeard_42 : decode cX5_indexOfHeard 42 = .ok (.goto (-38), 3) := by decide +kernel
theorem dX5_indexOfHeard_45 : decode cX5_indexOfHeard 45 = .ok (.iconst (-1), 1) := by decide +kernel
theorem dX5_indexOfHeard_46 : decode cX5_indexOfHeard 46 = .ok (.ireturn, 1) := by decide +kernel
theorem dX5_indexOfWhistle_0 : decode cX5_indexOfWhistle 0 = .ok (.iconst 0, 1) := by decide +kernel
theorem dX5_indexOfWhistle_1 : decode cX5_indexOfWhistle 1 = .ok (.istore_n 2, 1) := by decide +kernel
theorem dX5_indexOfWhistle_2 : decode cX5_indexOfWhistle 2 = .ok (.iload_n 2, 1) := by decide +kernel
theorem dX5_indexOfWhistle_3 : decode cX5_indexOfWhistle 3 = .ok (.aload_n 0, 1) := by decide +kernel
theorem dX5_indexOfWhistle_4 : decode cX5_indexOfWhistle 4 = .ok (.getfield 50, 3) := by decide +kernel
theorem dX5_indexOfWhistle_7 : decode cX5_indexOfWhistle 7 = .ok (.invokevirtual 143, 3) := by decide +kernel
theorem dX5_indexOfWhistle_10 : decode cX5_indexOfWhistle 10 = .ok (.if_icmp .ge 40, 3) := by decide +kernel
theorem dX5_indexOfWhistle_13 : decode cX5_indexOfWhistle 13 = .ok (.aload_n 0, 1) := by decide +kernel
theorem dX5_indexOfWhistle_14 : decode cX5_indexOfWhistle 14 = .ok (.getfield 50, 3) := by decide +kernel
theorem dX5_indexOfWhistle_17 : decode cX5_indexOfWhistle 17 = .ok (.iload_n 2, 1) := by decide +kernel
theorem dX5_indexOfWhistle_18 : decode cX5_indexOfWhistle 18 = .ok (.invokevirtual 94, 3) := by decide +kernel
theorem dX5_indexOfWhistle_21 : decode cX5_indexOfWhistle 21 = .ok (.invokestatic 152, 3) := by decide +kernel
theorem dX5_indexOfWhistle_24 : decode cX5_indexOfWhistle 24 = .ok (.ifCond .ge 20, 3) := by decide +kernel
theorem dX5_indexOfWhistle_27 : decode cX5_indexOfWhistle 27 = .ok (.aload_n 0, 1) := by decide +kernel
theorem dX5_indexOfWhistle_28 : decode cX5_indexOfWhistle 28 = .ok (.getfield 50, 3) := by decide +kernel
theorem dX5_indexOfWhistle_31 : decode cX5_indexOfWhistle 31 = .ok (.iload_n 2, 1) := by decide +kernel
theorem dX5_indexOfWhistle_32 : decode cX5_indexOfWhistle 32 = .ok (.invokevirtual 94, 3) := by decide +kernel
theorem dX5_indexOfWhistle_35 : decode cX5_indexOfWhistle 35 = .ok (.invokestatic 165, 3) := by decide +kernel
theorem dX5_indexOfWhistle_38 : decode cX5_indexOfWhistle 38 = .ok (.iload_n 1, 1) := by decide +kernel
theorem dX5_indexOfWhistle_39 : decode cX5_indexOfWhistle 39 = .ok (.if_icmp .ne 5, 3) := by decide +kernel
theorem dX5_indexOfWhistle_42 : decode cX5_indexOfWhistle 42 = .ok (.iload_n 2, 1) := by decide +kernel
theorem dX5_indexOfWhistle_43 : decode cX5_indexOfWhistle 43 = .ok (.ireturn, 1) := by decide +kernel
theorem dX5_indexOfWhistle_44 : decode cX5_indexOfWhistle 44 = .ok (.iinc 2 1, 3) := by decide +kernel
theorem dX5_indexOfWhistle_47 : decode cX5_indexOfWhistle 47 = .ok (.goto (-45), 3) := by decide +kernel
theorem dX5_indexOfWhistle_50 : decode cX5_indexOfWhistle 50 = .ok (.iconst (-1), 1) := by decide +kernel
theorem dX5_indexOfWhistle_51 : decode cX5_indexOfWhistle 51 = .ok (.ireturn, 1) := by decide +kernel
theorem dX5_hasWhistled_0 : decode cX5_hasWhistled 0 = .ok (.aload_n 0, 1) := by decide +kernel
theorem dX5_hasWhistled_1 : decode cX5_hasWhistled 1 = .ok (.iload_n 1, 1) := by decide +kernel
theorem dX5_hasWhistled_2 : decode cX5_hasWhistled 2 = .ok (.invokevirtual 168, 3) := by decide +kernel
theorem dX5_hasWhistled_5 : decode cX5_hasWhistled 5 = .ok (.ifCond .lt 7, 3) := by decide +kernel
theorem dX5_hasWhistled_8 : decode cX5_hasWhistled 8 = .ok (.iconst 1, 1) := by decide +kernel
theorem dX5_hasWhistled_9 : decode cX5_hasWhistled 9 = .ok (.goto 4, 3) := by decide +kernel
theorem dX5_hasWhistled_12 : decode cX5_hasWhistled 12 = .ok (.iconst 0, 1) := by decide +kernel
theorem dX5_hasWhistled_13 : decode cX5_hasWhistled 13 = .ok (.ireturn, 1) := by decide +kernel
theorem dX5_indexOfLie_0 : decode cX5_indexOfLie 0 = .ok (.aload_n 0, 1) := by decide +kernel
theorem dX5_indexOfLie_1 : decode cX5_indexOfLie 1 = .ok (.iload_n 1, 1) := by decide +kernel
theorem dX5_indexOfLie_2 : decode cX5_indexOfLie 2 = .ok (.invokevirtual 168, 3) := by decide +kernel
theorem dX5_indexOfLie_5 : decode cX5_indexOfLie 5 = .ok (.istore_n 2, 1) := by decide +kernel
theorem dX5_indexOfLie_6 : decode cX5_indexOfLie 6 = .ok (.aload_n 0, 1) := by decide +kernel
theorem dX5_indexOfLie_7 : decode cX5_indexOfLie 7 = .ok (.getfield 50, 3) := by decide +kernel
theorem dX5_indexOfLie_10 : decode cX5_indexOfLie 10 = .ok (.iload_n 2, 1) := by decide +kernel
theorem dX5_indexOfLie_11 : decode cX5_indexOfLie 11 = .ok (.invokevirtual 94, 3) := by decide +kernel
theorem dX5_indexOfLie_14 : decode cX5_indexOfLie 14 = .ok (.istore_n 3, 1) := by decide +kernel
theorem dX5_indexOfLie_15 : decode cX5_indexOfLie 15 = .ok (.iload_n 2, 1) := by decide +kernel
theorem dX5_indexOfLie_16 : decode cX5_indexOfLie 16 = .ok (.ifCond .lt 18, 3) := by decide +kernel
theorem dX5_indexOfLie_19 : decode cX5_indexOfLie 19 = .ok (.iload_n 3, 1) := by decide +kernel
theorem dX5_indexOfLie_20 : decode cX5_indexOfLie 20 = .ok (.invokestatic 158, 3) := by decide +kernel
theorem dX5_indexOfLie_23 : decode cX5_indexOfLie 23 = .ok (.iload_n 1, 1) := by decide +kernel
theorem dX5_indexOfLie_24 : decode cX5_indexOfLie 24 = .ok (.if_icmp .eq 10, 3) := by decide +kernel
theorem dX5_indexOfLie_27 : decode cX5_indexOfLie 27 = .ok (.iload_n 3, 1) := by decide +kernel
theorem dX5_indexOfLie_28 : decode cX5_indexOfLie 28 = .ok (.invokestatic 161, 3) := by decide +kernel
theorem dX5_indexOfLie_31 : decode cX5_indexOfLie 31 = .ok (.ifCond .eq 7, 3) := by decide +kernel
theorem dX5_indexOfLie_34 : decode cX5_indexOfLie 34 = .ok (.iconst (-1), 1) := by decide +kernel
theorem dX5_indexOfLie_35 : decode cX5_indexOfLie 35 = .ok (.goto 4, 3) := by decide +kernel
theorem dX5_indexOfLie_38 : decode cX5_indexOfLie 38 = .ok (.iload_n 2, 1) := by decide +kernel
theorem dX5_indexOfLie_39 : decode cX5_indexOfLie 39 = .ok (.ireturn, 1) := by decide +kernel
theorem dX5_hoursToWait_0 : decode cX5_hoursToWait 0 = .ok (.aload_n 0, 1) := by decide +kernel
theorem dX5_hoursToWait_1 : decode cX5_hoursToWait 1 = .ok (.getfield 14, 3) := by decide +kernel
theorem dX5_hoursToWait_4 : decode cX5_hoursToWait 4 = .ok (.iload_n 1, 1) := by decide +kernel
theorem dX5_hoursToWait_5 : decode cX5_hoursToWait 5 = .ok (.invokevirtual 94, 3) := by decide +kernel
theorem dX5_hoursToWait_8 : decode cX5_hoursToWait 8 = .ok (.invokestatic 83, 3) := by decide +kernel
theorem dX5_hoursToWait_11 : decode cX5_hoursToWait 11 = .ok (.istore_n 2, 1) := by decide +kernel
theorem dX5_hoursToWait_12 : decode cX5_hoursToWait 12 = .ok (.aload_n 0, 1) := by decide +kernel
theorem dX5_hoursToWait_13 : decode cX5_hoursToWait 13 = .ok (.getfield 23, 3) := by decide +kernel
theorem dX5_hoursToWait_16 : decode cX5_hoursToWait 16 = .ok (.iload_n 1, 1) := by decide +kernel
theorem dX5_hoursToWait_17 : decode cX5_hoursToWait 17 = .ok (.invokevirtual 94, 3) := by decide +kernel
theorem dX5_hoursToWait_20 : decode cX5_hoursToWait 20 = .ok (.istore_n 3, 1) := by decide +kernel
theorem dX5_hoursToWait_21 : decode cX5_hoursToWait 21 = .ok (.aload_n 0, 1) := by decide +kernel
theorem dX5_hoursToWait_22 : decode cX5_hoursToWait 22 = .ok (.getfield 29, 3) := by decide +kernel
theorem dX5_hoursToWait_25 : decode cX5_hoursToWait 25 = .ok (.iload_n 1, 1) := by decide +kernel
theorem dX5_hoursToWait_26 : decode cX5_hoursToWait 26 = .ok (.invokevirtual 94, 3) := by decide +kernel
theorem dX5_hoursToWait_29 : decode cX5_hoursToWait 29 = .ok (.istore 4, 2) := by decide +kernel
theorem dX5_hoursToWait_31 : decode cX5_hoursToWait 31 = .ok (.aload_n 0, 1) := by decide +kernel
theorem dX5_hoursToWait_32 : decode cX5_hoursToWait 32 = .ok (.iload_n 1, 1) := by decide +kernel
theorem dX5_hoursToWait_33 : decode cX5_hoursToWait 33 = .ok (.invokevirtual 171, 3) := by decide +kernel
theorem dX5_hoursToWait_36 : decode cX5_hoursToWait 36 = .ok (.istore 5, 2) := by decide +kernel
theorem dX5_hoursToWait_38 : decode cX5_hoursToWait 38 = .ok (.iconst 0, 1) := by decide +kernel
theorem dX5_hoursToWait_39 : decode cX5_hoursToWait 39 = .ok (.istore 6, 2) := by decide +kernel
theorem dX5_hoursToWait_41 : decode cX5_hoursToWait 41 = .ok (.iload 6, 2) := by decide +kernel
theorem dX5_hoursToWait_43 : decode cX5_hoursToWait 43 = .ok (.sipush 1000, 3) := by decide +kernel
theorem dX5_hoursToWait_46 : decode cX5_hoursToWait 46 = .ok (.if_icmp .ge 47, 3) := by decide +kernel
theorem dX5_hoursToWait_49 : decode cX5_hoursToWait 49 = .ok (.iload 5, 2) := by decide +kernel
theorem dX5_hoursToWait_51 : decode cX5_hoursToWait 51 = .ok (.ifCond .ne 13, 3) := by decide +kernel
theorem dX5_hoursToWait_54 : decode cX5_hoursToWait 54 = .ok (.iload 4, 2) := by decide +kernel
theorem dX5_hoursToWait_56 : decode cX5_hoursToWait 56 = .ok (.ifCond .gt 8, 3) := by decide +kernel
theorem dX5_hoursToWait_59 : decode cX5_hoursToWait 59 = .ok (.iload_n 3, 1) := by decide +kernel
theorem dX5_hoursToWait_60 : decode cX5_hoursToWait 60 = .ok (.iload_n 2, 1) := by decide +kernel
theorem dX5_hoursToWait_61 : decode cX5_hoursToWait 61 = .ok (.if_icmp .ge 32, 3) := by decide +kernel
theorem dX5_hoursToWait_64 : decode cX5_hoursToWait 64 = .ok (.iload 4, 2) := by decide +kernel
theorem dX5_hoursToWait_66 : decode cX5_hoursToWait 66 = .ok (.ifCond .le 9, 3) := by decide +kernel
theorem dX5_hoursToWait_69 : decode cX5_hoursToWait 69 = .ok (.iinc 4 (-1), 3) := by decide +kernel
theorem dX5_hoursToWait_72 : decode cX5_hoursToWait 72 = .ok (.goto 12, 3) := by decide +kernel
theorem dX5_hoursToWait_75 : decode cX5_hoursToWait 75 = .ok (.bipush 20, 2) := by decide +kernel
theorem dX5_hoursToWait_77 : decode cX5_hoursToWait 77 = .ok (.iload_n 3, 1) := by decide +kernel
theorem dX5_hoursToWait_78 : decode cX5_hoursToWait 78 = .ok (.iconst 2, 1) := by decide +kernel
theorem dX5_hoursToWait_79 : decode cX5_hoursToWait 79 = .ok (.iadd, 1) := by decide +kernel
theorem dX5_hoursToWait_80 : decode cX5_hoursToWait 80 = .ok (.invokestatic 138, 3) := by decide +kernel
theorem dX5_hoursToWait_83 : decode cX5_hoursToWait 83 = .ok (.istore_n 3, 1) := by decide +kernel
theorem dX5_hoursToWait_84 : decode cX5_hoursToWait 84 = .ok (.iconst 0, 1) := by decide +kernel
theorem dX5_hoursToWait_85 : decode cX5_hoursToWait 85 = .ok (.istore 5, 2) := by decide +kernel
theorem dX5_hoursToWait_87 : decode cX5_hoursToWait 87 = .ok (.iinc 6 1, 3) := by decide +kernel
theorem dX5_hoursToWait_90 : decode cX5_hoursToWait 90 = .ok (.goto (-49), 3) := by decide +kernel
theorem dX5_hoursToWait_93 : decode cX5_hoursToWait 93 = .ok (.iload 6, 2) := by decide +kernel
theorem dX5_hoursToWait_95 : decode cX5_hoursToWait 95 = .ok (.ireturn, 1) := by decide +kernel
theorem dX5_numberOfLine_0 : decode cX5_numberOfLine 0 = .ok (.iload_n 2, 1) := by decide +kernel
theorem dX5_numberOfLine_1 : decode cX5_numberOfLine 1 = .ok (.tableswitch 138 0 8 #[51, 63, 75, 84, 93, 102, 111, 120, 129], 51) := by decide +kernel
theorem dX5_numberOfLine_52 : decode cX5_numberOfLine 52 = .ok (.aload_n 0, 1) := by decide +kernel
theorem dX5_numberOfLine_53 : decode cX5_numberOfLine 53 = .ok (.getfield 14, 3) := by decide +kernel
theorem dX5_numberOfLine_56 : decode cX5_numberOfLine 56 = .ok (.iload_n 1, 1) := by decide +kernel
theorem dX5_numberOfLine_57 : decode cX5_numberOfLine 57 = .ok (.invokevirtual 94, 3) := by decide +kernel
theorem dX5_numberOfLine_60 : decode cX5_numberOfLine 60 = .ok (.invokestatic 174, 3) := by decide +kernel
theorem dX5_numberOfLine_63 : decode cX5_numberOfLine 63 = .ok (.ireturn, 1) := by decide +kernel
theorem dX5_numberOfLine_64 : decode cX5_numberOfLine 64 = .ok (.aload_n 0, 1) := by decide +kernel
theorem dX5_numberOfLine_65 : decode cX5_numberOfLine 65 = .ok (.getfield 14, 3) := by decide +kernel
theorem dX5_numberOfLine_68 : decode cX5_numberOfLine 68 = .ok (.iload_n 1, 1) := by decide +kernel
theorem dX5_numberOfLine_69 : decode cX5_numberOfLine 69 = .ok (.invokevirtual 94, 3) := by decide +kernel
theorem dX5_numberOfLine_72 : decode cX5_numberOfLine 72 = .ok (.invokestatic 177, 3) := by decide +kernel
theorem dX5_numberOfLine_75 : decode cX5_numberOfLine 75 = .ok (.ireturn, 1) := by decide +kernel
theorem dX5_numberOfLine_76 : decode cX5_numberOfLine 76 = .ok (.aload_n 0, 1) := by decide +kernel
theorem dX5_numberOfLine_77 : decode cX5_numberOfLine 77 = .ok (.getfield 20, 3) := by decide +kernel
theorem dX5_numberOfLine_80 : decode cX5_numberOfLine 80 = .ok (.iload_n 1, 1) := by decide +kernel
theorem dX5_numberOfLine_81 : decode cX5_numberOfLine 81 = .ok (.invokevirtual 94, 3) := by decide +kernel
theorem dX5_numberOfLine_84 : decode cX5_numberOfLine 84 = .ok (.ireturn, 1) := by decide +kernel
theorem dX5_numberOfLine_85 : decode cX5_numberOfLine 85 = .ok (.aload_n 0, 1) := by decide +kernel
theorem dX5_numberOfLine_86 : decode cX5_numberOfLine 86 = .ok (.getfield 23, 3) := by decide +kernel
theorem dX5_numberOfLine_89 : decode cX5_numberOfLine 89 = .ok (.iload_n 1, 1) := by decide +kernel
theorem dX5_numberOfLine_90 : decode cX5_numberOfLine 90 = .ok (.invokevirtual 94, 3) := by decide +kernel
theorem dX5_numberOfLine_93 : decode cX5_numberOfLine 93 = .ok (.ireturn, 1) := by decide +kernel
theorem dX5_numberOfLine_94 : decode cX5_numberOfLine 94 = .ok (.aload_n 0, 1) := by decide +kernel
theorem dX5_numberOfLine_95 : decode cX5_numberOfLine 95 = .ok (.getfield 26, 3) := by decide +kernel
theorem dX5_numberOfLine_98 : decode cX5_numberOfLine 98 = .ok (.iload_n 1, 1) := by decide +kernel
theorem dX5_numberOfLine_99 : decode cX5_numberOfLine 99 = .ok (.invokevirtual 94, 3) := by decide +kernel
theorem dX5_numberOfLine_102 : decode cX5_numberOfLine 102 = .ok (.ireturn, 1) := by decide +kernel
theorem dX5_numberOfLine_103 : decode cX5_numberOfLine 103 = .ok (.aload_n 0, 1) := by decide +kernel
theorem dX5_numberOfLine_104 : decode cX5_numberOfLine 104 = .ok (.getfield 29, 3) := by decide +kernel
theorem dX5_numberOfLine_107 : decode cX5_numberOfLine 107 = .ok (.iload_n 1, 1) := by decide +kernel
theorem dX5_numberOfLine_108 : decode cX5_numberOfLine 108 = .ok (.invokevirtual 94, 3) := by decide +kernel
theorem dX5_numberOfLine_111 : decode cX5_numberOfLine 111 = .ok (.ireturn, 1) := by decide +kernel
theorem dX5_numberOfLine_112 : decode cX5_numberOfLine 112 = .ok (.aload_n 0, 1) := by decide +kernel
theorem dX5_numberOfLine_113 : decode cX5_numberOfLine 113 = .ok (.getfield 32, 3) := by decide +kernel
theorem dX5_numberOfLine_116 : decode cX5_numberOfLine 116 = .ok (.iload_n 1, 1) := by decide +kernel
theorem dX5_numberOfLine_117 : decode cX5_numberOfLine 117 = .ok (.invokevirtual 94, 3) := by decide +kernel
theorem dX5_numberOfLine_120 : decode cX5_numberOfLine 120 = .ok (.ireturn, 1) := by decide +kernel
theorem dX5_numberOfLine_121 : decode cX5_numberOfLine 121 = .ok (.aload_n 0, 1) := by decide +kernel
theorem dX5_numberOfLine_122 : decode cX5_numberOfLine 122 = .ok (.getfield 35, 3) := by decide +kernel
theorem dX5_numberOfLine_125 : decode cX5_numberOfLine 125 = .ok (.iload_n 1, 1) := by decide +kernel
theorem dX5_numberOfLine_126 : decode cX5_numberOfLine 126 = .ok (.invokevirtual 94, 3) := by decide +kernel
theorem dX5_numberOfLine_129 : decode cX5_numberOfLine 129 = .ok (.ireturn, 1) := by decide +kernel
theorem dX5_numberOfLine_130 : decode cX5_numberOfLine 130 = .ok (.aload_n 0, 1) := by decide +kernel
theorem dX5_numberOfLine_131 : decode cX5_numberOfLine 131 = .ok (.getfield 38, 3) := by decide +kernel
theorem dX5_numberOfLine_134 : decode cX5_numberOfLine 134 = .ok (.iload_n 1, 1) := by decide +kernel
theorem dX5_numberOfLine_135 : decode cX5_numberOfLine 135 = .ok (.invokevirtual 94, 3) := by decide +kernel
theorem dX5_numberOfLine_138 : decode cX5_numberOfLine 138 = .ok (.ireturn, 1) := by decide +kernel
theorem dX5_numberOfLine_139 : decode cX5_numberOfLine 139 = .ok (.aload_n 0, 1) := by decide +kernel
theorem dX5_numberOfLine_140 : decode cX5_numberOfLine 140 = .ok (.iload_n 1, 1) := by decide +kernel
theorem dX5_numberOfLine_141 : decode cX5_numberOfLine 141 = .ok (.invokevirtual 171, 3) := by decide +kernel
theorem dX5_numberOfLine_144 : decode cX5_numberOfLine 144 = .ok (.ifCond .eq 7, 3) := by decide +kernel
theorem dX5_numberOfLine_147 : decode cX5_numberOfLine 147 = .ok (.iconst 1, 1) := by decide +kernel
theorem dX5_numberOfLine_148 : decode cX5_numberOfLine 148 = .ok (.goto 4, 3) := by decide +kernel
theorem dX5_numberOfLine_151 : decode cX5_numberOfLine 151 = .ok (.iconst 0, 1) := by decide +kernel
theorem dX5_numberOfLine_152 : decode cX5_numberOfLine 152 = .ok (.ireturn, 1) := by decide +kernel
theorem dX5_numberOfPlatform_0 : decode cX5_numberOfPlatform 0 = .ok (.iload_n 2, 1) := by decide +kernel
theorem dX5_numberOfPlatform_1 : decode cX5_numberOfPlatform 1 = .ok (.tableswitch 54 0 2 #[27, 36, 45], 27) := by decide +kernel
theorem dX5_numberOfPlatform_28 : decode cX5_numberOfPlatform 28 = .ok (.aload_n 0, 1) := by decide +kernel
theorem dX5_numberOfPlatform_29 : decode cX5_numberOfPlatform 29 = .ok (.getfield 41, 3) := by decide +kernel
theorem dX5_numberOfPlatform_32 : decode cX5_numberOfPlatform 32 = .ok (.iload_n 1, 1) := by decide +kernel
theorem dX5_numberOfPlatform_33 : decode cX5_numberOfPlatform 33 = .ok (.invokevirtual 94, 3) := by decide +kernel
theorem dX5_numberOfPlatform_36 : decode cX5_numberOfPlatform 36 = .ok (.ireturn, 1) := by decide +kernel
theorem dX5_numberOfPlatform_37 : decode cX5_numberOfPlatform 37 = .ok (.aload_n 0, 1) := by decide +kernel
theorem dX5_numberOfPlatform_38 : decode cX5_numberOfPlatform 38 = .ok (.getfield 44, 3) := by decide +kernel
theorem dX5_numberOfPlatform_41 : decode cX5_numberOfPlatform 41 = .ok (.iload_n 1, 1) := by decide +kernel
theorem dX5_numberOfPlatform_42 : decode cX5_numberOfPlatform 42 = .ok (.invokevirtual 94, 3) := by decide +kernel
theorem dX5_numberOfPlatform_45 : decode cX5_numberOfPlatform 45 = .ok (.ireturn, 1) := by decide +kernel
theorem dX5_numberOfPlatform_46 : decode cX5_numberOfPlatform 46 = .ok (.aload_n 0, 1) := by decide +kernel
theorem dX5_numberOfPlatform_47 : decode cX5_numberOfPlatform 47 = .ok (.getfield 47, 3) := by decide +kernel
theorem dX5_numberOfPlatform_50 : decode cX5_numberOfPlatform 50 = .ok (.iload_n 1, 1) := by decide +kernel
theorem dX5_numberOfPlatform_51 : decode cX5_numberOfPlatform 51 = .ok (.invokevirtual 94, 3) := by decide +kernel
theorem dX5_numberOfPlatform_54 : decode cX5_numberOfPlatform 54 = .ok (.ireturn, 1) := by decide +kernel
theorem dX5_numberOfPlatform_55 : decode cX5_numberOfPlatform 55 = .ok (.aload_n 0, 1) := by decide +kernel
theorem dX5_numberOfPlatform_56 : decode cX5_numberOfPlatform 56 = .ok (.iload_n 1, 1) := by decide +kernel
theorem dX5_numberOfPlatform_57 : decode cX5_numberOfPlatform 57 = .ok (.invokevirtual 180, 3) := by decide +kernel
theorem dX5_numberOfPlatform_60 : decode cX5_numberOfPlatform 60 = .ok (.ireturn, 1) := by decide +kernel
theorem dX5_echoesToCome_0 : decode cX5_echoesToCome 0 = .ok (.iconst 0, 1) := by decide +kernel
theorem dX5_echoesToCome_1 : decode cX5_echoesToCome 1 = .ok (.istore_n 2, 1) := by decide +kernel
theorem dX5_echoesToCome_2 : decode cX5_echoesToCome 2 = .ok (.iconst 0, 1) := by decide +kernel
theorem dX5_echoesToCome_3 : decode cX5_echoesToCome 3 = .ok (.istore_n 3, 1) := by decide +kernel
theorem dX5_echoesToCome_4 : decode cX5_echoesToCome 4 = .ok (.iload_n 3, 1) := by decide +kernel
theorem dX5_echoesToCome_5 : decode cX5_echoesToCome 5 = .ok (.aload_n 0, 1) := by decide +kernel
theorem dX5_echoesToCome_6 : decode cX5_echoesToCome 6 = .ok (.getfield 53, 3) := by decide +kernel
theorem dX5_echoesToCome_9 : decode cX5_echoesToCome 9 = .ok (.invokevirtual 143, 3) := by decide +kernel
theorem dX5_echoesToCome_12 : decode cX5_echoesToCome 12 = .ok (.if_icmp .ge 27, 3) := by decide +kernel
theorem dX5_echoesToCome_15 : decode cX5_echoesToCome 15 = .ok (.aload_n 0, 1) := by decide +kernel
theorem dX5_echoesToCome_16 : decode cX5_echoesToCome 16 = .ok (.getfield 53, 3) := by decide +kernel
theorem dX5_echoesToCome_19 : decode cX5_echoesToCome 19 = .ok (.iload_n 3, 1) := by decide +kernel
theorem dX5_echoesToCome_20 : decode cX5_echoesToCome 20 = .ok (.invokevirtual 94, 3) := by decide +kernel
theorem dX5_echoesToCome_23 : decode cX5_echoesToCome 23 = .ok (.invokestatic 152, 3) := by decide +kernel
theorem dX5_echoesToCome_26 : decode cX5_echoesToCome 26 = .ok (.iload_n 1, 1) := by decide +kernel
theorem dX5_echoesToCome_27 : decode cX5_echoesToCome 27 = .ok (.if_icmp .ne 6, 3) := by decide +kernel
theorem dX5_echoesToCome_30 : decode cX5_echoesToCome 30 = .ok (.iinc 2 1, 3) := by decide +kernel
theorem dX5_echoesToCome_33 : decode cX5_echoesToCome 33 = .ok (.iinc 3 1, 3) := by decide +kernel
theorem dX5_echoesToCome_36 : decode cX5_echoesToCome 36 = .ok (.goto (-32), 3) := by decide +kernel
theorem dX5_echoesToCome_39 : decode cX5_echoesToCome 39 = .ok (.iload_n 2, 1) := by decide +kernel
theorem dX5_echoesToCome_40 : decode cX5_echoesToCome 40 = .ok (.ireturn, 1) := by decide +kernel
theorem dX5_lettersOnStrip_0 : decode cX5_lettersOnStrip 0 = .ok (.iconst 0, 1) := by decide +kernel
theorem dX5_lettersOnStrip_1 : decode cX5_lettersOnStrip 1 = .ok (.istore_n 1, 1) := by decide +kernel
theorem dX5_lettersOnStrip_2 : decode cX5_lettersOnStrip 2 = .ok (.iconst 0, 1) := by decide +kernel
theorem dX5_lettersOnStrip_3 : decode cX5_lettersOnStrip 3 = .ok (.istore_n 2, 1) := by decide +kernel
theorem dX5_lettersOnStrip_4 : decode cX5_lettersOnStrip 4 = .ok (.iload_n 2, 1) := by decide +kernel
theorem dX5_lettersOnStrip_5 : decode cX5_lettersOnStrip 5 = .ok (.aload_n 0, 1) := by decide +kernel
theorem dX5_lettersOnStrip_6 : decode cX5_lettersOnStrip 6 = .ok (.getfield 50, 3) := by decide +kernel
theorem dX5_lettersOnStrip_9 : decode cX5_lettersOnStrip 9 = .ok (.invokevirtual 143, 3) := by decide +kernel
theorem dX5_lettersOnStrip_12 : decode cX5_lettersOnStrip 12 = .ok (.if_icmp .ge 26, 3) := by decide +kernel
theorem dX5_lettersOnStrip_15 : decode cX5_lettersOnStrip 15 = .ok (.iload_n 1, 1) := by decide +kernel
theorem dX5_lettersOnStrip_16 : decode cX5_lettersOnStrip 16 = .ok (.aload_n 0, 1) := by decide +kernel
theorem dX5_lettersOnStrip_17 : decode cX5_lettersOnStrip 17 = .ok (.getfield 50, 3) := by decide +kernel
theorem dX5_lettersOnStrip_20 : decode cX5_lettersOnStrip 20 = .ok (.iload_n 2, 1) := by decide +kernel
theorem dX5_lettersOnStrip_21 : decode cX5_lettersOnStrip 21 = .ok (.invokevirtual 94, 3) := by decide +kernel
theorem dX5_lettersOnStrip_24 : decode cX5_lettersOnStrip 24 = .ok (.invokestatic 183, 3) := by decide +kernel
theorem dX5_lettersOnStrip_27 : decode cX5_lettersOnStrip 27 = .ok (.invokestatic 174, 3) := by decide +kernel
theorem dX5_lettersOnStrip_30 : decode cX5_lettersOnStrip 30 = .ok (.iadd, 1) := by decide +kernel
theorem dX5_lettersOnStrip_31 : decode cX5_lettersOnStrip 31 = .ok (.istore_n 1, 1) := by decide +kernel
theorem dX5_lettersOnStrip_32 : decode cX5_lettersOnStrip 32 = .ok (.iinc 2 1, 3) := by decide +kernel
theorem dX5_lettersOnStrip_35 : decode cX5_lettersOnStrip 35 = .ok (.goto (-31), 3) := by decide +kernel
theorem dX5_lettersOnStrip_38 : decode cX5_lettersOnStrip 38 = .ok (.iload_n 1, 1) := by decide +kernel
theorem dX5_lettersOnStrip_39 : decode cX5_lettersOnStrip 39 = .ok (.ireturn, 1) := by decide +kernel
theorem dX5_accountOf_0 : decode cX5_accountOf 0 = .ok (.iload_n 1, 1) := by decide +kernel
theorem dX5_accountOf_1 : decode cX5_accountOf 1 = .ok (.tableswitch 156 0 12 #[67, 72, 80, 88, 93, 98, 106, 111, 119, 127, 135, 140, 148], 67) := by decide +kernel
theorem dX5_accountOf_68 : decode cX5_accountOf 68 = .ok (.aload_n 0, 1) := by decide +kernel
theorem dX5_accountOf_69 : decode cX5_accountOf 69 = .ok (.getfield 56, 3) := by decide +kernel
theorem dX5_accountOf_72 : decode cX5_accountOf 72 = .ok (.ireturn, 1) := by decide +kernel
theorem dX5_accountOf_73 : decode cX5_accountOf 73 = .ok (.aload_n 0, 1) := by decide +kernel
theorem dX5_accountOf_74 : decode cX5_accountOf 74 = .ok (.getfield 14, 3) := by decide +kernel
theorem dX5_accountOf_77 : decode cX5_accountOf 77 = .ok (.invokestatic 88, 3) := by decide +kernel
theorem dX5_accountOf_80 : decode cX5_accountOf 80 = .ok (.ireturn, 1) := by decide +kernel
theorem dX5_accountOf_81 : decode cX5_accountOf 81 = .ok (.aload_n 0, 1) := by decide +kernel
theorem dX5_accountOf_82 : decode cX5_accountOf 82 = .ok (.getfield 29, 3) := by decide +kernel
theorem dX5_accountOf_85 : decode cX5_accountOf 85 = .ok (.invokevirtual 97, 3) := by decide +kernel
theorem dX5_accountOf_88 : decode cX5_accountOf 88 = .ok (.ireturn, 1) := by decide +kernel
theorem dX5_accountOf_89 : decode cX5_accountOf 89 = .ok (.aload_n 0, 1) := by decide +kernel
theorem dX5_accountOf_90 : decode cX5_accountOf 90 = .ok (.invokevirtual 186, 3) := by decide +kernel
theorem dX5_accountOf_93 : decode cX5_accountOf 93 = .ok (.ireturn, 1) := by decide +kernel
theorem dX5_accountOf_94 : decode cX5_accountOf 94 = .ok (.aload_n 0, 1) := by decide +kernel
theorem dX5_accountOf_95 : decode cX5_accountOf 95 = .ok (.invokevirtual 189, 3) := by decide +kernel
theorem dX5_accountOf_98 : decode cX5_accountOf 98 = .ok (.ireturn, 1) := by decide +kernel
theorem dX5_accountOf_99 : decode cX5_accountOf 99 = .ok (.aload_n 0, 1) := by decide +kernel
theorem dX5_accountOf_100 : decode cX5_accountOf 100 = .ok (.getfield 53, 3) := by decide +kernel
theorem dX5_accountOf_103 : decode cX5_accountOf 103 = .ok (.invokevirtual 143, 3) := by decide +kernel
theorem dX5_accountOf_106 : decode cX5_accountOf 106 = .ok (.ireturn, 1) := by decide +kernel
theorem dX5_accountOf_107 : decode cX5_accountOf 107 = .ok (.aload_n 0, 1) := by decide +kernel
theorem dX5_accountOf_108 : decode cX5_accountOf 108 = .ok (.getfield 60, 3) := by decide +kernel
theorem dX5_accountOf_111 : decode cX5_accountOf 111 = .ok (.ireturn, 1) := by decide +kernel
theorem dX5_accountOf_112 : decode cX5_accountOf 112 = .ok (.aload_n 0, 1) := by decide +kernel
theorem dX5_accountOf_113 : decode cX5_accountOf 113 = .ok (.getfield 35, 3) := by decide +kernel
theorem dX5_accountOf_116 : decode cX5_accountOf 116 = .ok (.invokevirtual 192, 3) := by decide +kernel
theorem dX5_accountOf_119 : decode cX5_accountOf 119 = .ok (.ireturn, 1) := by decide +kernel
theorem dX5_accountOf_120 : decode cX5_accountOf 120 = .ok (.aload_n 0, 1) := by decide +kernel
theorem dX5_accountOf_121 : decode cX5_accountOf 121 = .ok (.getfield 38, 3) := by decide +kernel
theorem dX5_accountOf_124 : decode cX5_accountOf 124 = .ok (.invokevirtual 192, 3) := by decide +kernel
theorem dX5_accountOf_127 : decode cX5_accountOf 127 = .ok (.ireturn, 1) := by decide +kernel
theorem dX5_accountOf_128 : decode cX5_accountOf 128 = .ok (.aload_n 0, 1) := by decide +kernel
theorem dX5_accountOf_129 : decode cX5_accountOf 129 = .ok (.getfield 32, 3) := by decide +kernel
theorem dX5_accountOf_132 : decode cX5_accountOf 132 = .ok (.invokevirtual 192, 3) := by decide +kernel
theorem dX5_accountOf_135 : decode cX5_accountOf 135 = .ok (.ireturn, 1) := by decide +kernel
theorem dX5_accountOf_136 : decode cX5_accountOf 136 = .ok (.aload_n 0, 1) := by decide +kernel
theorem dX5_accountOf_137 : decode cX5_accountOf 137 = .ok (.getfield 63, 3) := by decide +kernel
theorem dX5_accountOf_140 : decode cX5_accountOf 140 = .ok (.ireturn, 1) := by decide +kernel
theorem dX5_accountOf_141 : decode cX5_accountOf 141 = .ok (.aload_n 0, 1) := by decide +kernel
theorem dX5_accountOf_142 : decode cX5_accountOf 142 = .ok (.getfield 23, 3) := by decide +kernel
theorem dX5_accountOf_145 : decode cX5_accountOf 145 = .ok (.invokevirtual 192, 3) := by decide +kernel
theorem dX5_accountOf_148 : decode cX5_accountOf 148 = .ok (.ireturn, 1) := by decide +kernel
theorem dX5_accountOf_149 : decode cX5_accountOf 149 = .ok (.aload_n 0, 1) := by decide +kernel
theorem dX5_accountOf_150 : decode cX5_accountOf 150 = .ok (.getfield 26, 3) := by decide +kernel
theorem dX5_accountOf_153 : decode cX5_accountOf 153 = .ok (.invokevirtual 192, 3) := by decide +kernel
theorem dX5_accountOf_156 : decode cX5_accountOf 156 = .ok (.ireturn, 1) := by decide +kernel
theorem dX5_accountOf_157 : decode cX5_accountOf 157 = .ok (.aload_n 0, 1) := by decide +kernel
theorem dX5_accountOf_158 : decode cX5_accountOf 158 = .ok (.getfield 66, 3) := by decide +kernel
theorem dX5_accountOf_161 : decode cX5_accountOf 161 = .ok (.ireturn, 1) := by decide +kernel
theorem dX6_init_0 : decode cX6_init 0 = .ok (.aload_n 0, 1) := by decide +kernel
theorem dX6_init_1 : decode cX6_init 1 = .ok (.invokespecial 3, 3) := by decide +kernel
theorem dX6_init_4 : decode cX6_init 4 = .ok (.aload_n 0, 1) := by decide +kernel
theorem dX6_init_5 : decode cX6_init 5 = .ok (.new 9, 3) := by decide +kernel
theorem dX6_init_8 : decode cX6_init 8 = .ok (.dup, 1) := by decide +kernel
theorem dX6_init_9 : decode cX6_init 9 = .ok (.sipush 882, 3) := by decide +kernel
theorem dX6_init_12 : decode cX6_init 12 = .ok (.invokespecial 11, 3) := by decide +kernel
theorem dX6_init_15 : decode cX6_init 15 = .ok (.putfield 14, 3) := by decide +kernel
theorem dX6_init_18 : decode cX6_init 18 = .ok (.aload_n 0, 1) := by decide +kernel
theorem dX6_init_19 : decode cX6_init 19 = .ok (.new 9, 3) := by decide +kernel
theorem dX6_init_22 : decode cX6_init 22 = .ok (.dup, 1) := by decide +kernel
theorem dX6_init_23 : decode cX6_init 23 = .ok (.sipush 883, 3) := by decide +kernel
theorem dX6_init_26 : decode cX6_init 26 = .ok (.invokespecial 11, 3) := by decide +kernel
theorem dX6_init_29 : decode cX6_init 29 = .ok (.putfield 20, 3) := by decide +kernel
theorem dX6_init_32 : decode cX6_init 32 = .ok (.return_, 1) := by decide +kernel
theorem dX6_load_0 : decode cX6_load 0 = .ok (.aload_n 0, 1) := by decide +kernel
theorem dX6_load_1 : decode cX6_load 1 = .ok (.getfield 14, 3) := by decide +kernel
theorem dX6_load_4 : decode cX6_load 4 = .ok (.iconst 0, 1) := by decide +kernel
theorem dX6_load_5 : decode cX6_load 5 = .ok (.iconst 0, 1) := by decide +kernel
theorem dX6_load_6 : decode cX6_load 6 = .ok (.invokevirtual 23, 3) := by decide +kernel
theorem dX6_load_9 : decode cX6_load 9 = .ok (.iconst 0, 1) := by decide +kernel
theorem dX6_load_10 : decode cX6_load 10 = .ok (.istore_n 2, 1) := by decide +kernel
theorem dX6_load_11 : decode cX6_load 11 = .ok (.iload_n 2, 1) := by decide +kernel
theorem dX6_load_12 : decode cX6_load 12 = .ok (.aload_n 1, 1) := by decide +kernel
theorem dX6_load_13 : decode cX6_load 13 = .ok (.invokevirtual 27, 3) := by decide +kernel
theorem dX6_load_16 : decode cX6_load 16 = .ok (.if_icmp .ge 49, 3) := by decide +kernel
theorem dX6_load_19 : decode cX6_load 19 = .ok (.aload_n 1, 1) := by decide +kernel
theorem dX6_load_20 : decode cX6_load 20 = .ok (.iload_n 2, 1) := by decide +kernel
theorem dX6_load_21 : decode cX6_load 21 = .ok (.invokevirtual 31, 3) := by decide +kernel
theorem dX6_load_24 : decode cX6_load 24 = .ok (.invokestatic 35, 3) := by decide +kernel
theorem dX6_load_27 : decode cX6_load 27 = .ok (.istore_n 3, 1) := by decide +kernel
theorem dX6_load_28 : decode cX6_load 28 = .ok (.iconst 0, 1) := by decide +kernel
theorem dX6_load_29 : decode cX6_load 29 = .ok (.istore 4, 2) := by decide +kernel
theorem dX6_load_31 : decode cX6_load 31 = .ok (.iload 4, 2) := by decide +kernel
theorem dX6_load_33 : decode cX6_load 33 = .ok (.iload_n 3, 1) := by decide +kernel
theorem dX6_load_34 : decode cX6_load 34 = .ok (.invokestatic 40, 3) := by decide +kernel
theorem dX6_load_37 : decode cX6_load 37 = .ok (.if_icmp .ge 22, 3) := by decide +kernel
theorem dX6_load_40 : decode cX6_load 40 = .ok (.aload_n 0, 1) := by decide +kernel
theorem dX6_load_41 : decode cX6_load 41 = .ok (.getfield 14, 3) := by decide +kernel
theorem dX6_load_44 : decode cX6_load 44 = .ok (.iload_n 3, 1) := by decide +kernel
theorem dX6_load_45 : decode cX6_load 45 = .ok (.iload 4, 2) := by decide +kernel
theorem dX6_load_47 : decode cX6_load 47 = .ok (.invokestatic 45, 3) := by decide +kernel
theorem dX6_load_50 : decode cX6_load 50 = .ok (.invokevirtual 49, 3) := by decide +kernel
theorem dX6_load_53 : decode cX6_load 53 = .ok (.iinc 4 1, 3) := by decide +kernel
theorem dX6_load_56 : decode cX6_load 56 = .ok (.goto (-25), 3) := by decide +kernel
theorem dX6_load_59 : decode cX6_load 59 = .ok (.iinc 2 1, 3) := by decide +kernel
theorem dX6_load_62 : decode cX6_load 62 = .ok (.goto (-51), 3) := by decide +kernel
theorem dX6_load_65 : decode cX6_load 65 = .ok (.return_, 1) := by decide +kernel
theorem dX6_waysFromBeginning_0 : decode cX6_waysFromBeginning 0 = .ok (.aload_n 0, 1) := by decide +kernel
theorem dX6_waysFromBeginning_1 : decode cX6_waysFromBeginning 1 = .ok (.getfield 20, 3) := by decide +kernel
theorem dX6_waysFromBeginning_4 : decode cX6_waysFromBeginning 4 = .ok (.aload_n 0, 1) := by decide +kernel
theorem dX6_waysFromBeginning_5 : decode cX6_waysFromBeginning 5 = .ok (.getfield 14, 3) := by decide +kernel
theorem dX6_waysFromBeginning_8 : decode cX6_waysFromBeginning 8 = .ok (.invokevirtual 27, 3) := by decide +kernel
theorem dX6_waysFromBeginning_11 : decode cX6_waysFromBeginning 11 = .ok (.iconst 1, 1) := by decide +kernel
theorem dX6_waysFromBeginning_12 : decode cX6_waysFromBeginning 12 = .ok (.iadd, 1) := by decide +kernel
theorem dX6_waysFromBeginning_13 : decode cX6_waysFromBeginning 13 = .ok (.iconst 0, 1) := by decide +kernel
theorem dX6_waysFromBeginning_14 : decode cX6_waysFromBeginning 14 = .ok (.invokevirtual 23, 3) := by decide +kernel
theorem dX6_waysFromBeginning_17 : decode cX6_waysFromBeginning 17 = .ok (.aload_n 0, 1) := by decide +kernel
theorem dX6_waysFromBeginning_18 : decode cX6_waysFromBeginning 18 = .ok (.getfield 20, 3) := by decide +kernel
theorem dX6_waysFromBeginning_21 : decode cX6_waysFromBeginning 21 = .ok (.iconst 0, 1) := by decide +kernel
theorem dX6_waysFromBeginning_22 : decode cX6_waysFromBeginning 22 = .ok (.iconst 1, 1) := by decide +kernel
theorem dX6_waysFromBeginning_23 : decode cX6_waysFromBeginning 23 = .ok (.invokevirtual 52, 3) := by decide +kernel
theorem dX6_waysFromBeginning_26 : decode cX6_waysFromBeginning 26 = .ok (.iconst 0, 1) := by decide +kernel
theorem dX6_waysFromBeginning_27 : decode cX6_waysFromBeginning 27 = .ok (.istore_n 2, 1) := by decide +kernel
theorem dX6_waysFromBeginning_28 : decode cX6_waysFromBeginning 28 = .ok (.iconst 1, 1) := by decide +kernel
theorem dX6_waysFromBeginning_29 : decode cX6_waysFromBeginning 29 = .ok (.istore_n 3, 1) := by decide +kernel
theorem dX6_waysFromBeginning_30 : decode cX6_waysFromBeginning 30 = .ok (.iload_n 3, 1) := by decide +kernel
theorem dX6_waysFromBeginning_31 : decode cX6_waysFromBeginning 31 = .ok (.aload_n 0, 1) := by decide +kernel
theorem dX6_waysFromBeginning_32 : decode cX6_waysFromBeginning 32 = .ok (.getfield 14, 3) := by decide +kernel
theorem dX6_waysFromBeginning_35 : decode cX6_waysFromBeginning 35 = .ok (.invokevirtual 27, 3) := by decide +kernel
theorem dX6_waysFromBeginning_38 : decode cX6_waysFromBeginning 38 = .ok (.if_icmp .gt 41, 3) := by decide +kernel
theorem dX6_waysFromBeginning_41 : decode cX6_waysFromBeginning 41 = .ok (.iload_n 2, 1) := by decide +kernel
theorem dX6_waysFromBeginning_42 : decode cX6_waysFromBeginning 42 = .ok (.iconst 1, 1) := by decide +kernel
theorem dX6_waysFromBeginning_43 : decode cX6_waysFromBeginning 43 = .ok (.ishr, 1) := by decide +kernel
theorem dX6_waysFromBeginning_44 : decode cX6_waysFromBeginning 44 = .ok (.aload_n 0, 1) := by decide +kernel
theorem dX6_waysFromBeginning_45 : decode cX6_waysFromBeginning 45 = .ok (.getfield 14, 3) := by decide +kernel
theorem dX6_waysFromBeginning_48 : decode cX6_waysFromBeginning 48 = .ok (.iload_n 3, 1) := by decide +kernel
theorem dX6_waysFromBeginning_49 : decode cX6_waysFromBeginning 49 = .ok (.iconst 1, 1) := by decide +kernel
theorem dX6_waysFromBeginning_50 : decode cX6_waysFromBeginning 50 = .ok (.isub, 1) := by decide +kernel
theorem dX6_waysFromBeginning_51 : decode cX6_waysFromBeginning 51 = .ok (.invokevirtual 31, 3) := by decide +kernel
theorem dX6_waysFromBeginning_54 : decode cX6_waysFromBeginning 54 = .ok (.iconst 5, 1) := by decide +kernel
theorem dX6_waysFromBeginning_55 : decode cX6_waysFromBeginning 55 = .ok (.ishl, 1) := by decide +kernel
theorem dX6_waysFromBeginning_56 : decode cX6_waysFromBeginning 56 = .ok (.ior, 1) := by decide +kernel
theorem dX6_waysFromBeginning_57 : decode cX6_waysFromBeginning 57 = .ok (.istore_n 2, 1) := by decide +kernel
theorem dX6_waysFromBeginning_58 : decode cX6_waysFromBeginning 58 = .ok (.aload_n 0, 1) := by decide +kernel
theorem dX6_waysFromBeginning_59 : decode cX6_waysFromBeginning 59 = .ok (.getfield 20, 3) := by decide +kernel
theorem dX6_waysFromBeginning_62 : decode cX6_waysFromBeginning 62 = .ok (.iload_n 3, 1) := by decide +kernel
theorem dX6_waysFromBeginning_63 : decode cX6_waysFromBeginning 63 = .ok (.aload_n 0, 1) := by decide +kernel
theorem dX6_waysFromBeginning_64 : decode cX6_waysFromBeginning 64 = .ok (.aload_n 1, 1) := by decide +kernel
theorem dX6_waysFromBeginning_65 : decode cX6_waysFromBeginning 65 = .ok (.iload_n 3, 1) := by decide +kernel
theorem dX6_waysFromBeginning_66 : decode cX6_waysFromBeginning 66 = .ok (.iload_n 2, 1) := by decide +kernel
theorem dX6_waysFromBeginning_67 : decode cX6_waysFromBeginning 67 = .ok (.invokevirtual 55, 3) := by decide +kernel
theorem dX6_waysFromBeginning_70 : decode cX6_waysFromBeginning 70 = .ok (.invokevirtual 52, 3) := by decide +kernel
theorem dX6_waysFromBeginning_73 : decode cX6_waysFromBeginning 73 = .ok (.iinc 3 1, 3) := by decide +kernel
theorem dX6_waysFromBeginning_76 : decode cX6_waysFromBeginning 76 = .ok (.goto (-46), 3) := by decide +kernel
theorem dX6_waysFromBeginning_79 : decode cX6_waysFromBeginning 79 = .ok (.aload_n 0, 1) := by decide +kernel
theorem dX6_waysFromBeginning_80 : decode cX6_waysFromBeginning 80 = .ok (.getfield 20, 3) := by decide +kernel
theorem dX6_waysFromBeginning_83 : decode cX6_waysFromBeginning 83 = .ok (.aload_n 0, 1) := by decide +kernel
theorem dX6_waysFromBeginning_84 : decode cX6_waysFromBeginning 84 = .ok (.getfield 14, 3) := by decide +kernel
theorem dX6_waysFromBeginning_87 : decode cX6_waysFromBeginning 87 = .ok (.invokevirtual 27, 3) := by decide +kernel
theorem dX6_waysFromBeginning_90 : decode cX6_waysFromBeginning 90 = .ok (.invokevirtual 31, 3) := by decide +kernel
theorem dX6_waysFromBeginning_93 : decode cX6_waysFromBeginning 93 = .ok (.ireturn, 1) := by decide +kernel
theorem dX6_waysTo_0 : decode cX6_waysTo 0 = .ok (.iconst 0, 1) := by decide +kernel
theorem dX6_waysTo_1 : decode cX6_waysTo 1 = .ok (.istore 4, 2) := by decide +kernel
theorem dX6_waysTo_3 : decode cX6_waysTo 3 = .ok (.iconst 0, 1) := by decide +kernel
theorem dX6_waysTo_4 : decode cX6_waysTo 4 = .ok (.istore 5, 2) := by decide +kernel
theorem dX6_waysTo_6 : decode cX6_waysTo 6 = .ok (.iload 5, 2) := by decide +kernel
theorem dX6_waysTo_8 : decode cX6_waysTo 8 = .ok (.bipush 7, 2) := by decide +kernel
theorem dX6_waysTo_10 : decode cX6_waysTo 10 = .ok (.if_icmp .ge 66, 3) := by decide +kernel
theorem dX6_waysTo_13 : decode cX6_waysTo 13 = .ok (.aload_n 1, 1) := by decide +kernel
theorem dX6_waysTo_14 : decode cX6_waysTo 14 = .ok (.iload 5, 2) := by decide +kernel
theorem dX6_waysTo_16 : decode cX6_waysTo 16 = .ok (.invokevirtual 31, 3) := by decide +kernel
theorem dX6_waysTo_19 : decode cX6_waysTo 19 = .ok (.istore 6, 2) := by decide +kernel
theorem dX6_waysTo_21 : decode cX6_waysTo 21 = .ok (.iload 6, 2) := by decide +kernel
theorem dX6_waysTo_23 : decode cX6_waysTo 23 = .ok (.invokestatic 40, 3) := by decide +kernel
theorem dX6_waysTo_26 : decode cX6_waysTo 26 = .ok (.istore 7, 2) := by decide +kernel
theorem dX6_waysTo_28 : decode cX6_waysTo 28 = .ok (.iload 6, 2) := by decide +kernel
theorem dX6_waysTo_30 : decode cX6_waysTo 30 = .ok (.ifCond .eq 40, 3) := by decide +kernel
theorem dX6_waysTo_33 : decode cX6_waysTo 33 = .ok (.iload 7, 2) := by decide +kernel
theorem dX6_waysTo_35 : decode cX6_waysTo 35 = .ok (.iload_n 2, 1) := by decide +kernel
theorem dX6_waysTo_36 : decode cX6_waysTo 36 = .ok (.if_icmp .gt 34, 3) := by decide +kernel
theorem dX6_waysTo_39 : decode cX6_waysTo 39 = .ok (.iload_n 3, 1) := by decide +kernel
theorem dX6_waysTo_40 : decode cX6_waysTo 40 = .ok (.bipush 6, 2) := by decide +kernel
theorem dX6_waysTo_42 : decode cX6_waysTo 42 = .ok (.iload 7, 2) := by decide +kernel
theorem dX6_waysTo_44 : decode cX6_waysTo 44 = .ok (.isub, 1) := by decide +kernel
theorem dX6_waysTo_45 : decode cX6_waysTo 45 = .ok (.ishr, 1) := by decide +kernel
theorem dX6_waysTo_46 : decode cX6_waysTo 46 = .ok (.iload 6, 2) := by decide +kernel
theorem dX6_waysTo_48 : decode cX6_waysTo 48 = .ok (.invokestatic 59, 3) := by decide +kernel
theorem dX6_waysTo_51 : decode cX6_waysTo 51 = .ok (.if_icmp .ne 19, 3) := by decide +kernel
theorem dX6_waysTo_54 : decode cX6_waysTo 54 = .ok (.iload 4, 2) := by decide +kernel
theorem dX6_waysTo_56 : decode cX6_waysTo 56 = .ok (.aload_n 0, 1) := by decide +kernel
theorem dX6_waysTo_57 : decode cX6_waysTo 57 = .ok (.getfield 20, 3) := by decide +kernel
theorem dX6_waysTo_60 : decode cX6_waysTo 60 = .ok (.iload_n 2, 1) := by decide +kernel
theorem dX6_waysTo_61 : decode cX6_waysTo 61 = .ok (.iload 7, 2) := by decide +kernel
theorem dX6_waysTo_63 : decode cX6_waysTo 63 = .ok (.isub, 1) := by decide +kernel
theorem dX6_waysTo_64 : decode cX6_waysTo 64 = .ok (.invokevirtual 31, 3) := by decide +kernel
theorem dX6_waysTo_67 : decode cX6_waysTo 67 = .ok (.iadd, 1) := by decide +kernel
theorem dX6_waysTo_68 : decode cX6_waysTo 68 = .ok (.istore 4, 2) := by decide +kernel
theorem dX6_waysTo_70 : decode cX6_waysTo 70 = .ok (.iinc 5 1, 3) := by decide +kernel
theorem dX6_waysTo_73 : decode cX6_waysTo 73 = .ok (.goto (-67), 3) := by decide +kernel
theorem dX6_waysTo_76 : decode cX6_waysTo 76 = .ok (.iload 4, 2) := by decide +kernel
theorem dX6_waysTo_78 : decode cX6_waysTo 78 = .ok (.sipush 9999, 3) := by decide +kernel
theorem dX6_waysTo_81 : decode cX6_waysTo 81 = .ok (.invokestatic 62, 3) := by decide +kernel
theorem dX6_waysTo_84 : decode cX6_waysTo 84 = .ok (.ireturn, 1) := by decide +kernel
theorem dX6_waysFromEnd_0 : decode cX6_waysFromEnd 0 = .ok (.aload_n 0, 1) := by decide +kernel
theorem dX6_waysFromEnd_1 : decode cX6_waysFromEnd 1 = .ok (.getfield 20, 3) := by decide +kernel
theorem dX6_waysFromEnd_4 : decode cX6_waysFromEnd 4 = .ok (.aload_n 0, 1) := by decide +kernel
theorem dX6_waysFromEnd_5 : decode cX6_waysFromEnd 5 = .ok (.getfield 14, 3) := by decide +kernel
theorem dX6_waysFromEnd_8 : decode cX6_waysFromEnd 8 = .ok (.invokevirtual 27, 3) := by decide +kernel
theorem dX6_waysFromEnd_11 : decode cX6_waysFromEnd 11 = .ok (.iconst 1, 1) := by decide +kernel
theorem dX6_waysFromEnd_12 : decode cX6_waysFromEnd 12 = .ok (.iadd, 1) := by decide +kernel
theorem dX6_waysFromEnd_13 : decode cX6_waysFromEnd 13 = .ok (.iconst 0, 1) := by decide +kernel
theorem dX6_waysFromEnd_14 : decode cX6_waysFromEnd 14 = .ok (.invokevirtual 23, 3) := by decide +kernel
theorem dX6_waysFromEnd_17 : decode cX6_waysFromEnd 17 = .ok (.aload_n 0, 1) := by decide +kernel
theorem dX6_waysFromEnd_18 : decode cX6_waysFromEnd 18 = .ok (.getfield 20, 3) := by decide +kernel
theorem dX6_waysFromEnd_21 : decode cX6_waysFromEnd 21 = .ok (.aload_n 0, 1) := by decide +kernel
theorem dX6_waysFromEnd_22 : decode cX6_waysFromEnd 22 = .ok (.getfield 14, 3) := by decide +kernel
theorem dX6_waysFromEnd_25 : decode cX6_waysFromEnd 25 = .ok (.invokevirtual 27, 3) := by decide +kernel
theorem dX6_waysFromEnd_28 : decode cX6_waysFromEnd 28 = .ok (.iconst 1, 1) := by decide +kernel
theorem dX6_waysFromEnd_29 : decode cX6_waysFromEnd 29 = .ok (.invokevirtual 52, 3) := by decide +kernel
theorem dX6_waysFromEnd_32 : decode cX6_waysFromEnd 32 = .ok (.iconst 0, 1) := by decide +kernel
theorem dX6_waysFromEnd_33 : decode cX6_waysFromEnd 33 = .ok (.istore_n 2, 1) := by decide +kernel
theorem dX6_waysFromEnd_34 : decode cX6_waysFromEnd 34 = .ok (.aload_n 0, 1) := by decide +kernel
theorem dX6_waysFromEnd_35 : decode cX6_waysFromEnd 35 = .ok (.getfield 14, 3) := by decide +kernel
theorem dX6_waysFromEnd_38 : decode cX6_waysFromEnd 38 = .ok (.invokevirtual 27, 3) := by decide +kernel
theorem dX6_waysFromEnd_41 : decode cX6_waysFromEnd 41 = .ok (.iconst 1, 1) := by decide +kernel
theorem dX6_waysFromEnd_42 : decode cX6_waysFromEnd 42 = .ok (.isub, 1) := by decide +kernel
theorem dX6_waysFromEnd_43 : decode cX6_waysFromEnd 43 = .ok (.istore_n 3, 1) := by decide +kernel
theorem dX6_waysFromEnd_44 : decode cX6_waysFromEnd 44 = .ok (.iload_n 3, 1) := by decide +kernel
theorem dX6_waysFromEnd_45 : decode cX6_waysFromEnd 45 = .ok (.ifCond .lt 43, 3) := by decide +kernel
theorem dX6_waysFromEnd_48 : decode cX6_waysFromEnd 48 = .ok (.iload_n 2, 1) := by decide +kernel
theorem dX6_waysFromEnd_49 : decode cX6_waysFromEnd 49 = .ok (.iconst 1, 1) := by decide +kernel
theorem dX6_waysFromEnd_50 : decode cX6_waysFromEnd 50 = .ok (.ishl, 1) := by decide +kernel
theorem dX6_waysFromEnd_51 : decode cX6_waysFromEnd 51 = .ok (.aload_n 0, 1) := by decide +kernel
theorem dX6_waysFromEnd_52 : decode cX6_waysFromEnd 52 = .ok (.getfield 14, 3) := by decide +kernel
theorem dX6_waysFromEnd_55 : decode cX6_waysFromEnd 55 = .ok (.iload_n 3, 1) := by decide +kernel
theorem dX6_waysFromEnd_56 : decode cX6_waysFromEnd 56 = .ok (.invokevirtual 31, 3) := by decide +kernel
theorem dX6_waysFromEnd_59 : decode cX6_waysFromEnd 59 = .ok (.ior, 1) := by decide +kernel
theorem dX6_waysFromEnd_60 : decode cX6_waysFromEnd 60 = .ok (.bipush 6, 2) := by decide +kernel
theorem dX6_waysFromEnd_62 : decode cX6_waysFromEnd 62 = .ok (.invokestatic 67, 3) := by decide +kernel
theorem dX6_waysFromEnd_65 : decode cX6_waysFromEnd 65 = .ok (.iand, 1) := by decide +kernel
theorem dX6_waysFromEnd_66 : decode cX6_waysFromEnd 66 = .ok (.istore_n 2, 1) := by decide +kernel
theorem dX6_waysFromEnd_67 : decode cX6_waysFromEnd 67 = .ok (.aload_n 0, 1) := by decide +kernel
theorem dX6_waysFromEnd_68 : decode cX6_waysFromEnd 68 = .ok (.getfield 20, 3) := by decide +kernel
theorem dX6_waysFromEnd_71 : decode cX6_waysFromEnd 71 = .ok (.iload_n 3, 1) := by decide +kernel
theorem dX6_waysFromEnd_72 : decode cX6_waysFromEnd 72 = .ok (.aload_n 0, 1) := by decide +kernel
theorem dX6_waysFromEnd_73 : decode cX6_waysFromEnd 73 = .ok (.aload_n 1, 1) := by decide +kernel
theorem dX6_waysFromEnd_74 : decode cX6_waysFromEnd 74 = .ok (.iload_n 3, 1) := by decide +kernel
theorem dX6_waysFromEnd_75 : decode cX6_waysFromEnd 75 = .ok (.iload_n 2, 1) := by decide +kernel
theorem dX6_waysFromEnd_76 : decode cX6_waysFromEnd 76 = .ok (.invokevirtual 70, 3) := by decide +kernel
theorem dX6_waysFromEnd_79 : decode cX6_waysFromEnd 79 = .ok (.invokevirtual 52, 3) := by decide +kernel
theorem dX6_waysFromEnd_82 : decode cX6_waysFromEnd 82 = .ok (.iinc 3 (-1), 3) := by decide +kernel
theorem dX6_waysFromEnd_85 : decode cX6_waysFromEnd 85 = .ok (.goto (-41), 3) := by decide +kernel
theorem dX6_waysFromEnd_88 : decode cX6_waysFromEnd 88 = .ok (.aload_n 0, 1) := by decide +kernel
theorem dX6_waysFromEnd_89 : decode cX6_waysFromEnd 89 = .ok (.getfield 20, 3) := by decide +kernel
theorem dX6_waysFromEnd_92 : decode cX6_waysFromEnd 92 = .ok (.iconst 0, 1) := by decide +kernel
theorem dX6_waysFromEnd_93 : decode cX6_waysFromEnd 93 = .ok (.invokevirtual 31, 3) := by decide +kernel
theorem dX6_waysFromEnd_96 : decode cX6_waysFromEnd 96 = .ok (.ireturn, 1) := by decide +kernel
theorem dX6_waysFrom_0 : decode cX6_waysFrom 0 = .ok (.iconst 0, 1) := by decide +kernel
theorem dX6_waysFrom_1 : decode cX6_waysFrom 1 = .ok (.istore 4, 2) := by decide +kernel
theorem dX6_waysFrom_3 : decode cX6_waysFrom 3 = .ok (.iconst 0, 1) := by decide +kernel
theorem dX6_waysFrom_4 : decode cX6_waysFrom 4 = .ok (.istore 5, 2) := by decide +kernel
theorem dX6_waysFrom_6 : decode cX6_waysFrom 6 = .ok (.iload 5, 2) := by decide +kernel
theorem dX6_waysFrom_8 : decode cX6_waysFrom 8 = .ok (.bipush 7, 2) := by decide +kernel
theorem dX6_waysFrom_10 : decode cX6_waysFrom 10 = .ok (.if_icmp .ge 47, 3) := by decide +kernel
theorem dX6_waysFrom_13 : decode cX6_waysFrom 13 = .ok (.aload_n 1, 1) := by decide +kernel
theorem dX6_waysFrom_14 : decode cX6_waysFrom 14 = .ok (.iload 5, 2) := by decide +kernel
theorem dX6_waysFrom_16 : decode cX6_waysFrom 16 = .ok (.invokevirtual 31, 3) := by decide +kernel
theorem dX6_waysFrom_19 : decode cX6_waysFrom 19 = .ok (.istore 6, 2) := by decide +kernel
theorem dX6_waysFrom_21 : decode cX6_waysFrom 21 = .ok (.aload_n 0, 1) := by decide +kernel
theorem dX6_waysFrom_22 : decode cX6_waysFrom 22 = .ok (.iload 6, 2) := by decide +kernel
theorem dX6_waysFrom_24 : decode cX6_waysFrom 24 = .ok (.iload_n 2, 1) := by decide +kernel
theorem dX6_waysFrom_25 : decode cX6_waysFrom 25 = .ok (.iload_n 3, 1) := by decide +kernel
theorem dX6_waysFrom_26 : decode cX6_waysFrom 26 = .ok (.invokevirtual 73, 3) := by decide +kernel
theorem dX6_waysFrom_29 : decode cX6_waysFrom 29 = .ok (.ifCond .eq 22, 3) := by decide +kernel
theorem dX6_waysFrom_32 : decode cX6_waysFrom 32 = .ok (.iload 4, 2) := by decide +kernel
theorem dX6_waysFrom_34 : decode cX6_waysFrom 34 = .ok (.aload_n 0, 1) := by decide +kernel
theorem dX6_waysFrom_35 : decode cX6_waysFrom 35 = .ok (.getfield 20, 3) := by decide +kernel
theorem dX6_waysFrom_38 : decode cX6_waysFrom 38 = .ok (.iload_n 2, 1) := by decide +kernel
theorem dX6_waysFrom_39 : decode cX6_waysFrom 39 = .ok (.iload 6, 2) := by decide +kernel
theorem dX6_waysFrom_41 : decode cX6_waysFrom 41 = .ok (.invokestatic 40, 3) := by decide +kernel
theorem dX6_waysFrom_44 : decode cX6_waysFrom 44 = .ok (.iadd, 1) := by decide +kernel
theorem dX6_waysFrom_45 : decode cX6_waysFrom 45 = .ok (.invokevirtual 31, 3) := by decide +kernel
theorem dX6_waysFrom_48 : decode cX6_waysFrom 48 = .ok (.iadd, 1) := by decide +kernel
theorem dX6_waysFrom_49 : decode cX6_waysFrom 49 = .ok (.istore 4, 2) := by decide +kernel
theorem dX6_waysFrom_51 : decode cX6_waysFrom 51 = .ok (.iinc 5 1, 3) := by decide +kernel
theorem dX6_waysFrom_54 : decode cX6_waysFrom 54 = .ok (.goto (-48), 3) := by decide +kernel
theorem dX6_waysFrom_57 : decode cX6_waysFrom 57 = .ok (.iload 4, 2) := by decide +kernel
theorem dX6_waysFrom_59 : decode cX6_waysFrom 59 = .ok (.sipush 9999, 3) := by decide +kernel
theorem dX6_waysFrom_62 : decode cX6_waysFrom 62 = .ok (.invokestatic 62, 3) := by decide +kernel
theorem dX6_waysFrom_65 : decode cX6_waysFrom 65 = .ok (.ireturn, 1) := by decide +kernel
theorem dX6_isNext_0 : decode cX6_isNext 0 = .ok (.iload_n 1, 1) := by decide +kernel
theorem dX6_isNext_1 : decode cX6_isNext 1 = .ok (.invokestatic 40, 3) := by decide +kernel
theorem dX6_isNext_4 : decode cX6_isNext 4 = .ok (.istore 4, 2) := by decide +kernel
theorem dX6_isNext_6 : decode cX6_isNext 6 = .ok (.iload_n 1, 1) := by decide +kernel
theorem dX6_isNext_7 : decode cX6_isNext 7 = .ok (.ifCond .eq 35, 3) := by decide +kernel
theorem dX6_isNext_10 : decode cX6_isNext 10 = .ok (.iload_n 2, 1) := by decide +kernel
theorem dX6_isNext_11 : decode cX6_isNext 11 = .ok (.iload 4, 2) := by decide +kernel
theorem dX6_isNext_13 : decode cX6_isNext 13 = .ok (.iadd, 1) := by decide +kernel
theorem dX6_isNext_14 : decode cX6_isNext 14 = .ok (.aload_n 0, 1) := by decide +kernel
theorem dX6_isNext_15 : decode cX6_isNext 15 = .ok (.getfield 14, 3) := by decide +kernel
theorem dX6_isNext_18 : decode cX6_isNext 18 = .ok (.invokevirtual 27, 3) := by decide +kernel
theorem dX6_isNext_21 : decode cX6_isNext 21 = .ok (.if_icmp .gt 21, 3) := by decide +kernel
theorem dX6_isNext_24 : decode cX6_isNext 24 = .ok (.iload_n 3, 1) := by decide +kernel
theorem dX6_isNext_25 : decode cX6_isNext 25 = .ok (.iload 4, 2) := by decide +kernel
theorem dX6_isNext_27 : decode cX6_isNext 27 = .ok (.invokestatic 67, 3) := by decide +kernel
theorem dX6_isNext_30 : decode cX6_isNext 30 = .ok (.iand, 1) := by decide +kernel
theorem dX6_isNext_31 : decode cX6_isNext 31 = .ok (.iload_n 1, 1) := by decide +kernel
theorem dX6_isNext_32 : decode cX6_isNext 32 = .ok (.invokestatic 59, 3) := by decide +kernel
theorem dX6_isNext_35 : decode cX6_isNext 35 = .ok (.if_icmp .ne 7, 3) := by decide +kernel
theorem dX6_isNext_38 : decode cX6_isNext 38 = .ok (.iconst 1, 1) := by decide +kernel
theorem dX6_isNext_39 : decode cX6_isNext 39 = .ok (.goto 4, 3) := by decide +kernel
theorem dX6_isNext_42 : decode cX6_isNext 42 = .ok (.iconst 0, 1) := by decide +kernel
theorem dX6_isNext_43 : decode cX6_isNext 43 = .ok (.ireturn, 1) := by decide +kernel
theorem dX6_lineAt_0 : decode cX6_lineAt 0 = .ok (.aload_n 0, 1) := by decide +kernel
theorem dX6_lineAt_1 : decode cX6_lineAt 1 = .ok (.aload_n 1, 1) := by decide +kernel
theorem dX6_lineAt_2 : decode cX6_lineAt 2 = .ok (.invokevirtual 77, 3) := by decide +kernel
theorem dX6_lineAt_5 : decode cX6_lineAt 5 = .ok (.ifCond .ne 5, 3) := by decide +kernel
theorem dX6_lineAt_8 : decode cX6_lineAt 8 = .ok (.iconst (-1), 1) := by decide +kernel
theorem dX6_lineAt_9 : decode cX6_lineAt 9 = .ok (.ireturn, 1) := by decide +kernel
theorem dX6_lineAt_10 : decode cX6_lineAt 10 = .ok (.iconst 0, 1) := by decide +kernel
theorem dX6_lineAt_11 : decode cX6_lineAt 11 = .ok (.istore_n 3, 1) := by decide +kernel
theorem dX6_lineAt_12 : decode cX6_lineAt 12 = .ok (.iconst 0, 1) := by decide +kernel
theorem dX6_lineAt_13 : decode cX6_lineAt 13 = .ok (.istore 4, 2) := by decide +kernel
theorem dX6_lineAt_15 : decode cX6_lineAt 15 = .ok (.iload 4, 2) := by decide +kernel
theorem dX6_lineAt_17 : decode cX6_lineAt 17 = .ok (.aload_n 0, 1) := by decide +kernel
theorem dX6_lineAt_18 : decode cX6_lineAt 18 = .ok (.getfield 14, 3) := by decide +kernel
theorem dX6_lineAt_21 : decode cX6_lineAt 21 = .ok (.invokevirtual 27, 3) := by decide +kernel
theorem dX6_lineAt_24 : decode cX6_lineAt 24 = .ok (.if_icmp .ge 54, 3) := by decide +kernel
theorem dX6_lineAt_27 : decode cX6_lineAt 27 = .ok (.iload_n 3, 1) := by decide +kernel
theorem dX6_lineAt_28 : decode cX6_lineAt 28 = .ok (.aload_n 0, 1) := by decide +kernel
theorem dX6_lineAt_29 : decode cX6_lineAt 29 = .ok (.getfield 14, 3) := by decide +kernel
theorem dX6_lineAt_32 : decode cX6_lineAt 32 = .ok (.invokevirtual 27, 3) := by decide +kernel
theorem dX6_lineAt_35 : decode cX6_lineAt 35 = .ok (.if_icmp .ge 43, 3) := by decide +kernel
theorem dX6_lineAt_38 : decode cX6_lineAt 38 = .ok (.aload_n 0, 1) := by decide +kernel
theorem dX6_lineAt_39 : decode cX6_lineAt 39 = .ok (.aload_n 1, 1) := by decide +kernel
theorem dX6_lineAt_40 : decode cX6_lineAt 40 = .ok (.iload_n 3, 1) := by decide +kernel
theorem dX6_lineAt_41 : decode cX6_lineAt 41 = .ok (.invokevirtual 81, 3) := by decide +kernel
theorem dX6_lineAt_44 : decode cX6_lineAt 44 = .ok (.istore 5, 2) := by decide +kernel
theorem dX6_lineAt_46 : decode cX6_lineAt 46 = .ok (.iload 5, 2) := by decide +kernel
theorem dX6_lineAt_48 : decode cX6_lineAt 48 = .ok (.ifCond .lt 9, 3) := by decide +kernel
theorem dX6_lineAt_51 : decode cX6_lineAt 51 = .ok (.iload 4, 2) := by decide +kernel
theorem dX6_lineAt_53 : decode cX6_lineAt 53 = .ok (.iload_n 2, 1) := by decide +kernel
theorem dX6_lineAt_54 : decode cX6_lineAt 54 = .ok (.if_icmp .ne 6, 3) := by decide +kernel
theorem dX6_lineAt_57 : decode cX6_lineAt 57 = .ok (.iload 5, 2) := by decide +kernel
theorem dX6_lineAt_59 : decode cX6_lineAt 59 = .ok (.ireturn, 1) := by decide +kernel
theorem dX6_lineAt_60 : decode cX6_lineAt 60 = .ok (.iload_n 3, 1) := by decide +kernel
theorem dX6_lineAt_61 : decode cX6_lineAt 61 = .ok (.aload_n 1, 1) := by decide +kernel
theorem dX6_lineAt_62 : decode cX6_lineAt 62 = .ok (.iload 5, 2) := by decide +kernel
theorem dX6_lineAt_64 : decode cX6_lineAt 64 = .ok (.invokevirtual 31, 3) := by decide +kernel
theorem dX6_lineAt_67 : decode cX6_lineAt 67 = .ok (.invokestatic 40, 3) := by decide +kernel
theorem dX6_lineAt_70 : decode cX6_lineAt 70 = .ok (.iadd, 1) := by decide +kernel
theorem dX6_lineAt_71 : decode cX6_lineAt 71 = .ok (.istore_n 3, 1) := by decide +kernel
theorem dX6_lineAt_72 : decode cX6_lineAt 72 = .ok (.iinc 4 1, 3) := by decide +kernel
theorem dX6_lineAt_75 : decode cX6_lineAt 75 = .ok (.goto (-60), 3) := by decide +kernel
theorem dX6_lineAt_78 : decode cX6_lineAt 78 = .ok (.iconst (-1), 1) := by decide +kernel
theorem dX6_lineAt_79 : decode cX6_lineAt 79 = .ok (.ireturn, 1) := by decide +kernel
theorem dX6_firstLine_0 : decode cX6_firstLine 0 = .ok (.iconst 0, 1) := by decide +kernel
theorem dX6_firstLine_1 : decode cX6_firstLine 1 = .ok (.istore_n 3, 1) := by decide +kernel
theorem dX6_firstLine_2 : decode cX6_firstLine 2 = .ok (.iconst 5, 1) := by decide +kernel
theorem dX6_firstLine_3 : decode cX6_firstLine 3 = .ok (.istore 4, 2) := by decide +kernel
theorem dX6_firstLine_5 : decode cX6_firstLine 5 = .ok (.iload 4, 2) := by decide +kernel
theorem dX6_firstLine_7 : decode cX6_firstLine 7 = .ok (.ifCond .lt 25, 3) := by decide +kernel
theorem dX6_firstLine_10 : decode cX6_firstLine 10 = .ok (.iload_n 3, 1) := by decide +kernel
theorem dX6_firstLine_11 : decode cX6_firstLine 11 = .ok (.iconst 1, 1) := by decide +kernel
theorem dX6_firstLine_12 : decode cX6_firstLine 12 = .ok (.ishl, 1) := by decide +kernel
theorem dX6_firstLine_13 : decode cX6_firstLine 13 = .ok (.aload_n 0, 1) := by decide +kernel
theorem dX6_firstLine_14 : decode cX6_firstLine 14 = .ok (.getfield 14, 3) := by decide +kernel
theorem dX6_firstLine_17 : decode cX6_firstLine 17 = .ok (.iload_n 2, 1) := by decide +kernel
theorem dX6_firstLine_18 : decode cX6_firstLine 18 = .ok (.iload 4, 2) := by decide +kernel
theorem dX6_firstLine_20 : decode cX6_firstLine 20 = .ok (.iadd, 1) := by decide +kernel
theorem dX6_firstLine_21 : decode cX6_firstLine 21 = .ok (.invokevirtual 31, 3) := by decide +kernel
theorem dX6_firstLine_24 : decode cX6_firstLine 24 = .ok (.ior, 1) := by decide +kernel
theorem dX6_firstLine_25 : decode cX6_firstLine 25 = .ok (.istore_n 3, 1) := by decide +kernel
theorem dX6_firstLine_26 : decode cX6_firstLine 26 = .ok (.iinc 4 (-1), 3) := by decide +kernel
theorem dX6_firstLine_29 : decode cX6_firstLine 29 = .ok (.goto (-24), 3) := by decide +kernel
theorem dX6_firstLine_32 : decode cX6_firstLine 32 = .ok (.iconst 0, 1) := by decide +kernel
theorem dX6_firstLine_33 : decode cX6_firstLine 33 = .ok (.istore 4, 2) := by decide +kernel
theorem dX6_firstLine_35 : decode cX6_firstLine 35 = .ok (.iload 4, 2) := by decide +kernel
theorem dX6_firstLine_37 : decode cX6_firstLine 37 = .ok (.bipush 7, 2) := by decide +kernel
theorem dX6_firstLine_39 : decode cX6_firstLine 39 = .ok (.if_icmp .ge 48, 3) := by decide +kernel
theorem dX6_firstLine_42 : decode cX6_firstLine 42 = .ok (.aload_n 1, 1) := by decide +kernel
theorem dX6_firstLine_43 : decode cX6_firstLine 43 = .ok (.iload 4, 2) := by decide +kernel
theorem dX6_firstLine_45 : decode cX6_firstLine 45 = .ok (.invokevirtual 31, 3) := by decide +kernel
theorem dX6_firstLine_48 : decode cX6_firstLine 48 = .ok (.istore 5, 2) := by decide +kernel
theorem dX6_firstLine_50 : decode cX6_firstLine 50 = .ok (.aload_n 0, 1) := by decide +kernel
theorem dX6_firstLine_51 : decode cX6_firstLine 51 = .ok (.iload 5, 2) := by decide +kernel
theorem dX6_firstLine_53 : decode cX6_firstLine 53 = .ok (.iload_n 2, 1) := by decide +kernel
theorem dX6_firstLine_54 : decode cX6_firstLine 54 = .ok (.iload_n 3, 1) := by decide +kernel
theorem dX6_firstLine_55 : decode cX6_firstLine 55 = .ok (.invokevirtual 73, 3) := by decide +kernel
theorem dX6_firstLine_58 : decode cX6_firstLine 58 = .ok (.ifCond .eq 23, 3) := by decide +kernel
theorem dX6_firstLine_61 : decode cX6_firstLine 61 = .ok (.aload_n 0, 1) := by decide +kernel
theorem dX6_firstLine_62 : decode cX6_firstLine 62 = .ok (.getfield 20, 3) := by decide +kernel
theorem dX6_firstLine_65 : decode cX6_firstLine 65 = .ok (.iload_n 2, 1) := by decide +kernel
theorem dX6_firstLine_66 : decode cX6_firstLine 66 = .ok (.iload 5, 2) := by decide +kernel
theorem dX6_firstLine_68 : decode cX6_firstLine 68 = .ok (.invokestatic 40, 3) := by decide +kernel
theorem dX6_firstLine_71 : decode cX6_firstLine 71 = .ok (.iadd, 1) := by decide +kernel
theorem dX6_firstLine_72 : decode cX6_firstLine 72 = .ok (.invokevirtual 31, 3) := by decide +kernel
theorem dX6_firstLine_75 : decode cX6_firstLine 75 = .ok (.ifCond .le 6, 3) := by decide +kernel
theorem dX6_firstLine_78 : decode cX6_firstLine 78 = .ok (.iload 4, 2) := by decide +kernel
theorem dX6_firstLine_80 : decode cX6_firstLine 80 = .ok (.ireturn, 1) := by decide +kernel
theorem dX6_firstLine_81 : decode cX6_firstLine 81 = .ok (.iinc 4 1, 3) := by decide +kernel
theorem dX6_firstLine_84 : decode cX6_firstLine 84 = .ok (.goto (-49), 3) := by decide +kernel
theorem dX6_firstLine_87 : decode cX6_firstLine 87 = .ok (.iconst (-1), 1) := by decide +kernel
theorem dX6_firstLine_88 : decode cX6_firstLine 88 = .ok (.ireturn, 1) := by decide +kernel
theorem dX7_of_0 : decode cX7_of 0 = .ok (.iload_n 0, 1) := by decide +kernel
theorem dX7_of_1 : decode cX7_of 1 = .ok (.bipush 6, 2) := by decide +kernel
theorem dX7_of_3 : decode cX7_of 3 = .ok (.ishl, 1) := by decide +kernel
theorem dX7_of_4 : decode cX7_of 4 = .ok (.iload_n 1, 1) := by decide +kernel
theorem dX7_of_5 : decode cX7_of 5 = .ok (.ior, 1) := by decide +kernel
theorem dX7_of_6 : decode cX7_of 6 = .ok (.ireturn, 1) := by decide +kernel
theorem dX7_length_0 : decode cX7_length 0 = .ok (.iload_n 0, 1) := by decide +kernel
theorem dX7_length_1 : decode cX7_length 1 = .ok (.bipush 6, 2) := by decide +kernel
theorem dX7_length_3 : decode cX7_length 3 = .ok (.ishr, 1) := by decide +kernel
theorem dX7_length_4 : decode cX7_length 4 = .ok (.ireturn, 1) := by decide +kernel
theorem dX7_bits_0 : decode cX7_bits 0 = .ok (.iload_n 0, 1) := by decide +kernel
theorem dX7_bits_1 : decode cX7_bits 1 = .ok (.bipush 63, 2) := by decide +kernel
theorem dX7_bits_3 : decode cX7_bits 3 = .ok (.iand, 1) := by decide +kernel
theorem dX7_bits_4 : decode cX7_bits 4 = .ok (.ireturn, 1) := by decide +kernel
theorem dX7_mask_0 : decode cX7_mask 0 = .ok (.iconst 1, 1) := by decide +kernel
theorem dX7_mask_1 : decode cX7_mask 1 = .ok (.iload_n 0, 1) := by decide +kernel
theorem dX7_mask_2 : decode cX7_mask 2 = .ok (.ishl, 1) := by decide +kernel
theorem dX7_mask_3 : decode cX7_mask 3 = .ok (.iconst 1, 1) := by decide +kernel
theorem dX7_mask_4 : decode cX7_mask 4 = .ok (.isub, 1) := by decide +kernel
theorem dX7_mask_5 : decode cX7_mask 5 = .ok (.ireturn, 1) := by decide +kernel
theorem dX7_letter_0 : decode cX7_letter 0 = .ok (.iload_n 0, 1) := by decide +kernel
theorem dX7_letter_1 : decode cX7_letter 1 = .ok (.invokestatic 7, 3) := by decide +kernel
theorem dX7_letter_4 : decode cX7_letter 4 = .ok (.iload_n 1, 1) := by decide +kernel
theorem dX7_letter_5 : decode cX7_letter 5 = .ok (.ishr, 1) := by decide +kernel
theorem dX7_letter_6 : decode cX7_letter 6 = .ok (.iconst 1, 1) := by decide +kernel
theorem dX7_letter_7 : decode cX7_letter 7 = .ok (.iand, 1) := by decide +kernel
theorem dX7_letter_8 : decode cX7_letter 8 = .ok (.ireturn, 1) := by decide +kernel
theorem dX7_steam_0 : decode cX7_steam 0 = .ok (.iload_n 0, 1) := by decide +kernel
theorem dX7_steam_1 : decode cX7_steam 1 = .ok (.invokestatic 13, 3) := by decide +kernel
theorem dX7_steam_4 : decode cX7_steam 4 = .ok (.iload_n 0, 1) := by decide +kernel
theorem dX7_steam_5 : decode cX7_steam 5 = .ok (.invokestatic 7, 3) := by decide +kernel
theorem dX7_steam_8 : decode cX7_steam 8 = .ok (.invokestatic 16, 3) := by decide +kernel
theorem dX7_steam_11 : decode cX7_steam 11 = .ok (.iadd, 1) := by decide +kernel
theorem dX7_steam_12 : decode cX7_steam 12 = .ok (.ireturn, 1) := by decide +kernel
theorem dX7_begins_0 : decode cX7_begins 0 = .ok (.iload_n 0, 1) := by decide +kernel
theorem dX7_begins_1 : decode cX7_begins 1 = .ok (.invokestatic 13, 3) := by decide +kernel
theorem dX7_begins_4 : decode cX7_begins 4 = .ok (.iload_n 1, 1) := by decide +kernel
theorem dX7_begins_5 : decode cX7_begins 5 = .ok (.invokestatic 13, 3) := by decide +kernel
theorem dX7_begins_8 : decode cX7_begins 8 = .ok (.if_icmp .gt 26, 3) := by decide +kernel
theorem dX7_begins_11 : decode cX7_begins 11 = .ok (.iload_n 1, 1) := by decide +kernel
theorem dX7_begins_12 : decode cX7_begins 12 = .ok (.invokestatic 7, 3) := by decide +kernel
theorem dX7_begins_15 : decode cX7_begins 15 = .ok (.iload_n 0, 1) := by decide +kernel
theorem dX7_begins_16 : decode cX7_begins 16 = .ok (.invokestatic 13, 3) := by decide +kernel
theorem dX7_begins_19 : decode cX7_begins 19 = .ok (.invokestatic 21, 3) := by decide +kernel
theorem dX7_begins_22 : decode cX7_begins 22 = .ok (.iand, 1) := by decide +kernel
theorem dX7_begins_23 : decode cX7_begins 23 = .ok (.iload_n 0, 1) := by decide +kernel
theorem dX7_begins_24 : decode cX7_begins 24 = .ok (.invokestatic 7, 3) := by decide +kernel
theorem dX7_begins_27 : decode cX7_begins 27 = .ok (.if_icmp .ne 7, 3) := by decide +kernel
theorem dX7_begins_30 : decode cX7_begins 30 = .ok (.iconst 1, 1) := by decide +kernel
theorem dX7_begins_31 : decode cX7_begins 31 = .ok (.goto 4, 3) := by decide +kernel
theorem dX7_begins_34 : decode cX7_begins 34 = .ok (.iconst 0, 1) := by decide +kernel
theorem dX7_begins_35 : decode cX7_begins 35 = .ok (.ireturn, 1) := by decide +kernel
theorem dX7_cut_0 : decode cX7_cut 0 = .ok (.iload_n 0, 1) := by decide +kernel
theorem dX7_cut_1 : decode cX7_cut 1 = .ok (.invokestatic 13, 3) := by decide +kernel
theorem dX7_cut_4 : decode cX7_cut 4 = .ok (.iload_n 1, 1) := by decide +kernel
theorem dX7_cut_5 : decode cX7_cut 5 = .ok (.if_icmp .gt 7, 3) := by decide +kernel
theorem dX7_cut_8 : decode cX7_cut 8 = .ok (.iload_n 0, 1) := by decide +kernel
theorem dX7_cut_9 : decode cX7_cut 9 = .ok (.goto 16, 3) := by decide +kernel
theorem dX7_cut_12 : decode cX7_cut 12 = .ok (.iload_n 1, 1) := by decide +kernel
theorem dX7_cut_13 : decode cX7_cut 13 = .ok (.iload_n 0, 1) := by decide +kernel
theorem dX7_cut_14 : decode cX7_cut 14 = .ok (.invokestatic 7, 3) := by decide +kernel
theorem dX7_cut_17 : decode cX7_cut 17 = .ok (.iload_n 1, 1) := by decide +kernel
theorem dX7_cut_18 : decode cX7_cut 18 = .ok (.invokestatic 21, 3) := by decide +kernel
theorem dX7_cut_21 : decode cX7_cut 21 = .ok (.iand, 1) := by decide +kernel
theorem dX7_cut_22 : decode cX7_cut 22 = .ok (.invokestatic 24, 3) := by decide +kernel
theorem dX7_cut_25 : decode cX7_cut 25 = .ok (.ireturn, 1) := by decide +kernel
theorem dX8_init_0 : decode cX8_init 0 = .ok (.aload_n 0, 1) := by decide +kernel
theorem dX8_init_1 : decode cX8_init 1 = .ok (.invokespecial 3, 3) := by decide +kernel
theorem dX8_init_4 : decode cX8_init 4 = .ok (.aload_n 0, 1) := by decide +kernel
theorem dX8_init_5 : decode cX8_init 5 = .ok (.new 9, 3) := by decide +kernel
theorem dX8_init_8 : decode cX8_init 8 = .ok (.dup, 1) := by decide +kernel
theorem dX8_init_9 : decode cX8_init 9 = .ok (.invokespecial 11, 3) := by decide +kernel
theorem dX8_init_12 : decode cX8_init 12 = .ok (.putfield 12, 3) := by decide +kernel
theorem dX8_init_15 : decode cX8_init 15 = .ok (.aload_n 0, 1) := by decide +kernel
theorem dX8_init_16 : decode cX8_init 16 = .ok (.new 9, 3) := by decide +kernel
theorem dX8_init_19 : decode cX8_init 19 = .ok (.dup, 1) := by decide +kernel
theorem dX8_init_20 : decode cX8_init 20 = .ok (.invokespecial 11, 3) := by decide +kernel
theorem dX8_init_23 : decode cX8_init 23 = .ok (.putfield 16, 3) := by decide +kernel
theorem dX8_init_26 : decode cX8_init 26 = .ok (.aload_n 0, 1) := by decide +kernel
theorem dX8_init_27 : decode cX8_init 27 = .ok (.new 9, 3) := by decide +kernel
theorem dX8_init_30 : decode cX8_init 30 = .ok (.dup, 1) := by decide +kernel
theorem dX8_init_31 : decode cX8_init 31 = .ok (.invokespecial 11, 3) := by decide +kernel
theorem dX8_init_34 : decode cX8_init 34 = .ok (.putfield 19, 3) := by decide +kernel
theorem dX8_init_37 : decode cX8_init 37 = .ok (.aload_n 0, 1) := by decide +kernel
theorem dX8_init_38 : decode cX8_init 38 = .ok (.iconst 0, 1) := by decide +kernel
theorem dX8_init_39 : decode cX8_init 39 = .ok (.putfield 22, 3) := by decide +kernel
theorem dX8_init_42 : decode cX8_init 42 = .ok (.aload_n 0, 1) := by decide +kernel
theorem dX8_init_43 : decode cX8_init 43 = .ok (.new 26, 3) := by decide +kernel
theorem dX8_init_46 : decode cX8_init 46 = .ok (.dup, 1) := by decide +kernel
theorem dX8_init_47 : decode cX8_init 47 = .ok (.invokespecial 28, 3) := by decide +kernel
theorem dX8_init_50 : decode cX8_init 50 = .ok (.putfield 29, 3) := by decide +kernel
theorem dX8_init_53 : decode cX8_init 53 = .ok (.aload_n 0, 1) := by decide +kernel
theorem dX8_init_54 : decode cX8_init 54 = .ok (.new 33, 3) := by decide +kernel
theorem dX8_init_57 : decode cX8_init 57 = .ok (.dup, 1) := by decide +kernel
theorem dX8_init_58 : decode cX8_init 58 = .ok (.invokespecial 35, 3) := by decide +kernel
theorem dX8_init_61 : decode cX8_init 61 = .ok (.putfield 36, 3) := by decide +kernel
theorem dX8_init_64 : decode cX8_init 64 = .ok (.aload_n 0, 1) := by decide +kernel
theorem dX8_init_65 : decode cX8_init 65 = .ok (.new 40, 3) := by decide +kernel
theorem dX8_init_68 : decode cX8_init 68 = .ok (.dup, 1) := by decide +kernel
theorem dX8_init_69 : decode cX8_init 69 = .ok (.invokespecial 42, 3) := by decide +kernel
theorem dX8_init_72 : decode cX8_init 72 = .ok (.putfield 43, 3) := by decide +kernel
theorem dX8_init_75 : decode cX8_init 75 = .ok (.aload_n 0, 1) := by decide +kernel
theorem dX8_init_76 : decode cX8_init 76 = .ok (.new 47, 3) := by decide +kernel
theorem dX8_init_79 : decode cX8_init 79 = .ok (.dup, 1) := by decide +kernel
theorem dX8_init_80 : decode cX8_init 80 = .ok (.invokespecial 49, 3) := by decide +kernel
theorem dX8_init_83 : decode cX8_init 83 = .ok (.putfield 50, 3) := by decide +kernel
theorem dX8_init_86 : decode cX8_init 86 = .ok (.aload_n 0, 1) := by decide +kernel
theorem dX8_init_87 : decode cX8_init 87 = .ok (.iconst (-1), 1) := by decide +kernel
theorem dX8_init_88 : decode cX8_init 88 = .ok (.putfield 54, 3) := by decide +kernel
theorem dX8_init_91 : decode cX8_init 91 = .ok (.aload_n 0, 1) := by decide +kernel
theorem dX8_init_92 : decode cX8_init 92 = .ok (.iconst (-1), 1) := by decide +kernel
theorem dX8_init_93 : decode cX8_init 93 = .ok (.putfield 58, 3) := by decide +kernel
theorem dX8_init_96 : decode cX8_init 96 = .ok (.aload_n 0, 1) := by decide +kernel
theorem dX8_init_97 : decode cX8_init 97 = .ok (.iconst 0, 1) := by decide +kernel
theorem dX8_init_98 : decode cX8_init 98 = .ok (.putfield 61, 3) := by decide +kernel
theorem dX8_init_101 : decode cX8_init 101 = .ok (.aload_n 0, 1) := by decide +kernel
theorem dX8_init_102 : decode cX8_init 102 = .ok (.iconst 0, 1) := by decide +kernel
theorem dX8_init_103 : decode cX8_init 103 = .ok (.putfield 64, 3) := by decide +kernel
theorem dX8_init_106 : decode cX8_init 106 = .ok (.return_, 1) := by decide +kernel
theorem dX8_clear_0 : decode cX8_clear 0 = .ok (.aload_n 0, 1) := by decide +kernel
theorem dX8_clear_1 : decode cX8_clear 1 = .ok (.getfield 12, 3) := by decide +kernel
theorem dX8_clear_4 : decode cX8_clear 4 = .ok (.getfield 67, 3) := by decide +kernel
theorem dX8_clear_7 : decode cX8_clear 7 = .ok (.invokestatic 71, 3) := by decide +kernel
theorem dX8_clear_10 : decode cX8_clear 10 = .ok (.istore_n 1, 1) := by decide +kernel
theorem dX8_clear_11 : decode cX8_clear 11 = .ok (.aload_n 0, 1) := by decide +kernel
theorem dX8_clear_12 : decode cX8_clear 12 = .ok (.getfield 12, 3) := by decide +kernel
theorem dX8_clear_15 : decode cX8_clear 15 = .ok (.invokevirtual 77, 3) := by decide +kernel
theorem dX8_clear_18 : decode cX8_clear 18 = .ok (.aload_n 0, 1) := by decide +kernel
theorem dX8_clear_19 : decode cX8_clear 19 = .ok (.getfield 29, 3) := by decide +kernel
theorem dX8_clear_22 : decode cX8_clear 22 = .ok (.invokevirtual 80, 3) := by decide +kernel
theorem dX8_clear_25 : decode cX8_clear 25 = .ok (.iload_n 1, 1) := by decide +kernel
theorem dX8_clear_26 : decode cX8_clear 26 = .ok (.ireturn, 1) := by decide +kernel
theorem dX8_sign_0 : decode cX8_sign 0 = .ok (.aload_n 0, 1) := by decide +kernel
theorem dX8_sign_1 : decode cX8_sign 1 = .ok (.aload_n 0, 1) := by decide +kernel
theorem dX8_sign_2 : decode cX8_sign 2 = .ok (.iload_n 1, 1) := by decide +kernel
theorem dX8_sign_3 : decode cX8_sign 3 = .ok (.iload_n 2, 1) := by decide +kernel
theorem dX8_sign_4 : decode cX8_sign 4 = .ok (.iload_n 3, 1) := by decide +kernel
theorem dX8_sign_5 : decode cX8_sign 5 = .ok (.invokevirtual 83, 3) := by decide +kernel
theorem dX8_sign_8 : decode cX8_sign 8 = .ok (.invokevirtual 87, 3) := by decide +kernel
theorem dX8_sign_11 : decode cX8_sign 11 = .ok (.aload_n 0, 1) := by decide +kernel
theorem dX8_sign_12 : decode cX8_sign 12 = .ok (.getfield 12, 3) := by decide +kernel
theorem dX8_sign_15 : decode cX8_sign 15 = .ok (.iload_n 1, 1) := by decide +kernel
theorem dX8_sign_16 : decode cX8_sign 16 = .ok (.iload_n 2, 1) := by decide +kernel
theorem dX8_sign_17 : decode cX8_sign 17 = .ok (.iload_n 3, 1) := by decide +kernel
theorem dX8_sign_18 : decode cX8_sign 18 = .ok (.invokestatic 91, 3) := by decide +kernel
theorem dX8_sign_21 : decode cX8_sign 21 = .ok (.invokevirtual 97, 3) := by decide +kernel
theorem dX8_sign_24 : decode cX8_sign 24 = .ok (.ireturn, 1) := by decide +kernel
theorem dX8_unsign_0 : decode cX8_unsign 0 = .ok (.aload_n 0, 1) := by decide +kernel
theorem dX8_unsign_1 : decode cX8_unsign 1 = .ok (.aload_n 0, 1) := by decide +kernel
theorem dX8_unsign_2 : decode cX8_unsign 2 = .ok (.iload_n 1, 1) := by decide +kernel
theorem dX8_unsign_3 : decode cX8_unsign 3 = .ok (.invokevirtual 100, 3) := by decide +kernel
theorem dX8_unsign_6 : decode cX8_unsign 6 = .ok (.invokevirtual 87, 3) := by decide +kernel
theorem dX8_unsign_9 : decode cX8_unsign 9 = .ok (.aload_n 0, 1) := by decide +kernel
theorem dX8_unsign_10 : decode cX8_unsign 10 = .ok (.getfield 12, 3) := by decide +kernel
theorem dX8_unsign_13 : decode cX8_unsign 13 = .ok (.iload_n 1, 1) := by decide +kernel
theorem dX8_unsign_14 : decode cX8_unsign 14 = .ok (.invokevirtual 104, 3) := by decide +kernel
theorem dX8_unsign_17 : decode cX8_unsign 17 = .ok (.ireturn, 1) := by decide +kernel
theorem dX8_priority_0 : decode cX8_priority 0 = .ok (.aload_n 0, 1) := by decide +kernel
theorem dX8_priority_1 : decode cX8_priority 1 = .ok (.aload_n 0, 1) := by decide +kernel
theorem dX8_priority_2 : decode cX8_priority 2 = .ok (.iload_n 1, 1) := by decide +kernel
theorem dX8_priority_3 : decode cX8_priority 3 = .ok (.iload_n 2, 1) := by decide +kernel
theorem dX8_priority_4 : decode cX8_priority 4 = .ok (.invokevirtual 107, 3) := by decide +kernel
theorem dX8_priority_7 : decode cX8_priority 7 = .ok (.invokevirtual 87, 3) := by decide +kernel
theorem dX8_priority_10 : decode cX8_priority 10 = .ok (.aload_n 0, 1) := by decide +kernel
theorem dX8_priority_11 : decode cX8_priority 11 = .ok (.getfield 12, 3) := by decide +kernel
theorem dX8_priority_14 : decode cX8_priority 14 = .ok (.iload_n 1, 1) := by decide +kernel
theorem dX8_priority_15 : decode cX8_priority 15 = .ok (.iload_n 2, 1) := by decide +kernel
theorem dX8_priority_16 : decode cX8_priority 16 = .ok (.invokevirtual 110, 3) := by decide +kernel
theorem dX8_priority_19 : decode cX8_priority 19 = .ok (.ireturn, 1) := by decide +kernel
theorem dX8_platform_0 : decode cX8_platform 0 = .ok (.aload_n 0, 1) := by decide +kernel
theorem dX8_platform_1 : decode cX8_platform 1 = .ok (.aload_n 0, 1) := by decide +kernel
theorem dX8_platform_2 : decode cX8_platform 2 = .ok (.iload_n 1, 1) := by decide +kernel
theorem dX8_platform_3 : decode cX8_platform 3 = .ok (.iload_n 2, 1) := by decide +kernel
theorem dX8_platform_4 : decode cX8_platform 4 = .ok (.iload_n 3, 1) := by decide +kernel
theorem dX8_platform_5 : decode cX8_platform 5 = .ok (.invokevirtual 113, 3) := by decide +kernel
theorem dX8_platform_8 : decode cX8_platform 8 = .ok (.invokevirtual 87, 3) := by decide +kernel
theorem dX8_platform_11 : decode cX8_platform 11 = .ok (.aload_n 0, 1) := by decide +kernel
theorem dX8_platform_12 : decode cX8_platform 12 = .ok (.getfield 12, 3) := by decide +kernel
theorem dX8_platform_15 : decode cX8_platform 15 = .ok (.iload_n 1, 1) := by decide +kernel
theorem dX8_platform_16 : decode cX8_platform 16 = .ok (.iload_n 2, 1) := by decide +kernel
theorem dX8_platform_17 : decode cX8_platform 17 = .ok (.iload_n 3, 1) := by decide +kernel
theorem dX8_platform_18 : decode cX8_platform 18 = .ok (.invokevirtual 116, 3) := by decide +kernel
theorem dX8_platform_21 : decode cX8_platform 21 = .ok (.ireturn, 1) := by decide +kernel
theorem dX8_lineOf_0 : decode cX8_lineOf 0 = .ok (.iload_n 1, 1) := by decide +kernel
theorem dX8_lineOf_1 : decode cX8_lineOf 1 = .ok (.invokestatic 119, 3) := by decide +kernel
theorem dX8_lineOf_4 : decode cX8_lineOf 4 = .ok (.ifCond .ne 13, 3) := by decide +kernel
theorem dX8_lineOf_7 : decode cX8_lineOf 7 = .ok (.new 123, 3) := by decide +kernel
theorem dX8_lineOf_10 : decode cX8_lineOf 10 = .ok (.dup, 1) := by decide +kernel
theorem dX8_lineOf_11 : decode cX8_lineOf 11 = .ok (.ldc 125, 2) := by decide +kernel
theorem dX8_lineOf_13 : decode cX8_lineOf 13 = .ok (.invokespecial 127, 3) := by decide +kernel
theorem dX8_lineOf_16 : decode cX8_lineOf 16 = .ok (.athrow, 1) := by decide +kernel
theorem dX8_lineOf_17 : decode cX8_lineOf 17 = .ok (.iload_n 2, 1) := by decide +kernel
theorem dX8_lineOf_18 : decode cX8_lineOf 18 = .ok (.ifCond .lt 9, 3) := by decide +kernel
theorem dX8_lineOf_21 : decode cX8_lineOf 21 = .ok (.iload_n 2, 1) := by decide +kernel
theorem dX8_lineOf_22 : decode cX8_lineOf 22 = .ok (.bipush 9, 2) := by decide +kernel
theorem dX8_lineOf_24 : decode cX8_lineOf 24 = .ok (.if_icmp .le 13, 3) := by decide +kernel
theorem dX8_lineOf_27 : decode cX8_lineOf 27 = .ok (.new 130, 3) := by decide +kernel
theorem dX8_lineOf_30 : decode cX8_lineOf 30 = .ok (.dup, 1) := by decide +kernel
theorem dX8_lineOf_31 : decode cX8_lineOf 31 = .ok (.ldc 132, 2) := by decide +kernel
theorem dX8_lineOf_33 : decode cX8_lineOf 33 = .ok (.invokespecial 134, 3) := by decide +kernel
theorem dX8_lineOf_36 : decode cX8_lineOf 36 = .ok (.athrow, 1) := by decide +kernel
theorem dX8_lineOf_37 : decode cX8_lineOf 37 = .ok (.aload_n 0, 1) := by decide +kernel
theorem dX8_lineOf_38 : decode cX8_lineOf 38 = .ok (.getfield 12, 3) := by decide +kernel
theorem dX8_lineOf_41 : decode cX8_lineOf 41 = .ok (.iload_n 1, 1) := by decide +kernel
theorem dX8_lineOf_42 : decode cX8_lineOf 42 = .ok (.iload_n 2, 1) := by decide +kernel
theorem dX8_lineOf_43 : decode cX8_lineOf 43 = .ok (.invokevirtual 135, 3) := by decide +kernel
theorem dX8_lineOf_46 : decode cX8_lineOf 46 = .ok (.ireturn, 1) := by decide +kernel
theorem dX8_platformOf_0 : decode cX8_platformOf 0 = .ok (.iload_n 1, 1) := by decide +kernel
theorem dX8_platformOf_1 : decode cX8_platformOf 1 = .ok (.invokestatic 138, 3) := by decide +kernel
theorem dX8_platformOf_4 : decode cX8_platformOf 4 = .ok (.ifCond .ne 13, 3) := by decide +kernel
theorem dX8_platformOf_7 : decode cX8_platformOf 7 = .ok (.new 123, 3) := by decide +kernel
theorem dX8_platformOf_10 : decode cX8_platformOf 10 = .ok (.dup, 1) := by decide +kernel
theorem dX8_platformOf_11 : decode cX8_platformOf 11 = .ok (.ldc 141, 2) := by decide +kernel
theorem dX8_platformOf_13 : decode cX8_platformOf 13 = .ok (.invokespecial 127, 3) := by decide +kernel
theorem dX8_platformOf_16 : decode cX8_platformOf 16 = .ok (.athrow, 1) := by decide +kernel
theorem dX8_platformOf_17 : decode cX8_platformOf 17 = .ok (.iload_n 2, 1) := by decide +kernel
theorem dX8_platformOf_18 : decode cX8_platformOf 18 = .ok (.ifCond .lt 8, 3) := by decide +kernel
theorem dX8_platformOf_21 : decode cX8_platformOf 21 = .ok (.iload_n 2, 1) := by decide +kernel
theorem dX8_platformOf_22 : decode cX8_platformOf 22 = .ok (.iconst 3, 1) := by decide +kernel
theorem dX8_platformOf_23 : decode cX8_platformOf 23 = .ok (.if_icmp .le 13, 3) := by decide +kernel
theorem dX8_platformOf_26 : decode cX8_platformOf 26 = .ok (.new 130, 3) := by decide +kernel
theorem dX8_platformOf_29 : decode cX8_platformOf 29 = .ok (.dup, 1) := by decide +kernel
theorem dX8_platformOf_30 : decode cX8_platformOf 30 = .ok (.ldc 143, 2) := by decide +kernel
theorem dX8_platformOf_32 : decode cX8_platformOf 32 = .ok (.invokespecial 134, 3) := by decide +kernel
theorem dX8_platformOf_35 : decode cX8_platformOf 35 = .ok (.athrow, 1) := by decide +kernel
theorem dX8_platformOf_36 : decode cX8_platformOf 36 = .ok (.aload_n 0, 1) := by decide +kernel
theorem dX8_platformOf_37 : decode cX8_platformOf 37 = .ok (.getfield 12, 3) := by decide +kernel
theorem dX8_platformOf_40 : decode cX8_platformOf 40 = .ok (.iload_n 1, 1) := by decide +kernel
theorem dX8_platformOf_41 : decode cX8_platformOf 41 = .ok (.iload_n 2, 1) := by decide +kernel
theorem dX8_platformOf_42 : decode cX8_platformOf 42 = .ok (.invokevirtual 145, 3) := by decide +kernel
theorem dX8_platformOf_45 : decode cX8_platformOf 45 = .ok (.ireturn, 1) := by decide +kernel
theorem dX8_clash_0 : decode cX8_clash 0 = .ok (.iload_n 1, 1) := by decide +kernel
theorem dX8_clash_1 : decode cX8_clash 1 = .ok (.invokestatic 119, 3) := by decide +kernel
theorem dX8_clash_4 : decode cX8_clash 4 = .ok (.ifCond .eq 10, 3) := by decide +kernel
theorem dX8_clash_7 : decode cX8_clash 7 = .ok (.iload_n 2, 1) := by decide +kernel
theorem dX8_clash_8 : decode cX8_clash 8 = .ok (.invokestatic 119, 3) := by decide +kernel
theorem dX8_clash_11 : decode cX8_clash 11 = .ok (.ifCond .ne 13, 3) := by decide +kernel
theorem dX8_clash_14 : decode cX8_clash 14 = .ok (.new 123, 3) := by decide +kernel
theorem dX8_clash_17 : decode cX8_clash 17 = .ok (.dup, 1) := by decide +kernel
theorem dX8_clash_18 : decode cX8_clash 18 = .ok (.ldc 125, 2) := by decide +kernel
theorem dX8_clash_20 : decode cX8_clash 20 = .ok (.invokespecial 127, 3) := by decide +kernel
theorem dX8_clash_23 : decode cX8_clash 23 = .ok (.athrow, 1) := by decide +kernel
theorem dX8_clash_24 : decode cX8_clash 24 = .ok (.aload_n 0, 1) := by decide +kernel
theorem dX8_clash_25 : decode cX8_clash 25 = .ok (.getfield 12, 3) := by decide +kernel
theorem dX8_clash_28 : decode cX8_clash 28 = .ok (.getfield 67, 3) := by decide +kernel
theorem dX8_clash_31 : decode cX8_clash 31 = .ok (.iload_n 1, 1) := by decide +kernel
theorem dX8_clash_32 : decode cX8_clash 32 = .ok (.iload_n 2, 1) := by decide +kernel
theorem dX8_clash_33 : decode cX8_clash 33 = .ok (.invokestatic 148, 3) := by decide +kernel
theorem dX8_clash_36 : decode cX8_clash 36 = .ok (.ireturn, 1) := by decide +kernel
theorem dX8_isClear_0 : decode cX8_isClear 0 = .ok (.aload_n 0, 1) := by decide +kernel
theorem dX8_isClear_1 : decode cX8_isClear 1 = .ok (.getfield 12, 3) := by decide +kernel
theorem dX8_isClear_4 : decode cX8_isClear 4 = .ok (.getfield 67, 3) := by decide +kernel
theorem dX8_isClear_7 : decode cX8_isClear 7 = .ok (.invokestatic 152, 3) := by decide +kernel
theorem dX8_isClear_10 : decode cX8_isClear 10 = .ok (.ireturn, 1) := by decide +kernel
theorem dX8_free_0 : decode cX8_free 0 = .ok (.iload_n 1, 1) := by decide +kernel
theorem dX8_free_1 : decode cX8_free 1 = .ok (.invokestatic 156, 3) := by decide +kernel
theorem dX8_free_4 : decode cX8_free 4 = .ok (.ifCond .ne 13, 3) := by decide +kernel
theorem dX8_free_7 : decode cX8_free 7 = .ok (.new 130, 3) := by decide +kernel
theorem dX8_free_10 : decode cX8_free 10 = .ok (.dup, 1) := by decide +kernel
theorem dX8_free_11 : decode cX8_free 11 = .ok (.ldc 159, 2) := by decide +kernel
theorem dX8_free_13 : decode cX8_free 13 = .ok (.invokespecial 134, 3) := by decide +kernel
theorem dX8_free_16 : decode cX8_free 16 = .ok (.athrow, 1) := by decide +kernel
theorem dX8_free_17 : decode cX8_free 17 = .ok (.iload_n 2, 1) := by decide +kernel
theorem dX8_free_18 : decode cX8_free 18 = .ok (.ifCond .eq 17, 3) := by decide +kernel
theorem dX8_free_21 : decode cX8_free 21 = .ok (.aload_n 0, 1) := by decide +kernel
theorem dX8_free_22 : decode cX8_free 22 = .ok (.getfield 12, 3) := by decide +kernel
theorem dX8_free_25 : decode cX8_free 25 = .ok (.getfield 67, 3) := by decide +kernel
theorem dX8_free_28 : decode cX8_free 28 = .ok (.iload_n 1, 1) := by decide +kernel
theorem dX8_free_29 : decode cX8_free 29 = .ok (.invokestatic 161, 3) := by decide +kernel
theorem dX8_free_32 : decode cX8_free 32 = .ok (.goto 14, 3) := by decide +kernel
theorem dX8_free_35 : decode cX8_free 35 = .ok (.aload_n 0, 1) := by decide +kernel
theorem dX8_free_36 : decode cX8_free 36 = .ok (.getfield 12, 3) := by decide +kernel
theorem dX8_free_39 : decode cX8_free 39 = .ok (.getfield 67, 3) := by decide +kernel
theorem dX8_free_42 : decode cX8_free 42 = .ok (.iload_n 1, 1) := by decide +kernel
theorem dX8_free_43 : decode cX8_free 43 = .ok (.invokestatic 165, 3) := by decide +kernel
theorem dX8_free_46 : decode cX8_free 46 = .ok (.ireturn, 1) := by decide +kernel
theorem dX8_whistle_0 : decode cX8_whistle 0 = .ok (.aload_n 0, 1) := by decide +kernel
theorem dX8_whistle_1 : decode cX8_whistle 1 = .ok (.aload_n 0, 1) := by decide +kernel
theorem dX8_whistle_2 : decode cX8_whistle 2 = .ok (.iload_n 1, 1) := by decide +kernel
theorem dX8_whistle_3 : decode cX8_whistle 3 = .ok (.invokevirtual 168, 3) := by decide +kernel
theorem dX8_whistle_6 : decode cX8_whistle 6 = .ok (.invokevirtual 87, 3) := by decide +kernel
theorem dX8_whistle_9 : decode cX8_whistle 9 = .ok (.aload_n 0, 1) := by decide +kernel
theorem dX8_whistle_10 : decode cX8_whistle 10 = .ok (.getfield 12, 3) := by decide +kernel
theorem dX8_whistle_13 : decode cX8_whistle 13 = .ok (.iload_n 1, 1) := by decide +kernel
theorem dX8_whistle_14 : decode cX8_whistle 14 = .ok (.iload_n 1, 1) := by decide +kernel
theorem dX8_whistle_15 : decode cX8_whistle 15 = .ok (.invokevirtual 171, 3) := by decide +kernel
theorem dX8_whistle_18 : decode cX8_whistle 18 = .ok (.ireturn, 1) := by decide +kernel
theorem dX8_lie_0 : decode cX8_lie 0 = .ok (.aload_n 0, 1) := by decide +kernel
theorem dX8_lie_1 : decode cX8_lie 1 = .ok (.aload_n 0, 1) := by decide +kernel
theorem dX8_lie_2 : decode cX8_lie 2 = .ok (.iload_n 1, 1) := by decide +kernel
theorem dX8_lie_3 : decode cX8_lie 3 = .ok (.iload_n 2, 1) := by decide +kernel
theorem dX8_lie_4 : decode cX8_lie 4 = .ok (.invokevirtual 174, 3) := by decide +kernel
theorem dX8_lie_7 : decode cX8_lie 7 = .ok (.invokevirtual 87, 3) := by decide +kernel
theorem dX8_lie_10 : decode cX8_lie 10 = .ok (.aload_n 0, 1) := by decide +kernel
theorem dX8_lie_11 : decode cX8_lie 11 = .ok (.getfield 12, 3) := by decide +kernel
theorem dX8_lie_14 : decode cX8_lie 14 = .ok (.iload_n 1, 1) := by decide +kernel
theorem dX8_lie_15 : decode cX8_lie 15 = .ok (.iload_n 2, 1) := by decide +kernel
theorem dX8_lie_16 : decode cX8_lie 16 = .ok (.invokevirtual 171, 3) := by decide +kernel
theorem dX8_lie_19 : decode cX8_lie 19 = .ok (.ireturn, 1) := by decide +kernel
theorem dX8_expose_0 : decode cX8_expose 0 = .ok (.aload_n 0, 1) := by decide +kernel
theorem dX8_expose_1 : decode cX8_expose 1 = .ok (.aload_n 0, 1) := by decide +kernel
theorem dX8_expose_2 : decode cX8_expose 2 = .ok (.iload_n 1, 1) := by decide +kernel
theorem dX8_expose_3 : decode cX8_expose 3 = .ok (.invokevirtual 177, 3) := by decide +kernel
theorem dX8_expose_6 : decode cX8_expose 6 = .ok (.invokevirtual 87, 3) := by decide +kernel
theorem dX8_expose_9 : decode cX8_expose 9 = .ok (.aload_n 0, 1) := by decide +kernel
theorem dX8_expose_10 : decode cX8_expose 10 = .ok (.getfield 12, 3) := by decide +kernel
theorem dX8_expose_13 : decode cX8_expose 13 = .ok (.iload_n 1, 1) := by decide +kernel
theorem dX8_expose_14 : decode cX8_expose 14 = .ok (.invokevirtual 180, 3) := by decide +kernel
theorem dX8_expose_17 : decode cX8_expose 17 = .ok (.ireturn, 1) := by decide +kernel
theorem dX8_mute_0 : decode cX8_mute 0 = .ok (.aload_n 0, 1) := by decide +kernel
theorem dX8_mute_1 : decode cX8_mute 1 = .ok (.aload_n 0, 1) := by decide +kernel
theorem dX8_mute_2 : decode cX8_mute 2 = .ok (.iload_n 1, 1) := by decide +kernel
theorem dX8_mute_3 : decode cX8_mute 3 = .ok (.iload_n 2, 1) := by decide +kernel
theorem dX8_mute_4 : decode cX8_mute 4 = .ok (.invokevirtual 183, 3) := by decide +kernel
theorem dX8_mute_7 : decode cX8_mute 7 = .ok (.invokevirtual 87, 3) := by decide +kernel
theorem dX8_mute_10 : decode cX8_mute 10 = .ok (.aload_n 0, 1) := by decide +kernel
theorem dX8_mute_11 : decode cX8_mute 11 = .ok (.getfield 12, 3) := by decide +kernel
theorem dX8_mute_14 : decode cX8_mute 14 = .ok (.iload_n 1, 1) := by decide +kernel
theorem dX8_mute_15 : decode cX8_mute 15 = .ok (.iload_n 2, 1) := by decide +kernel
theorem dX8_mute_16 : decode cX8_mute 16 = .ok (.invokevirtual 186, 3) := by decide +kernel
theorem dX8_mute_19 : decode cX8_mute 19 = .ok (.ireturn, 1) := by decide +kernel
theorem dX8_fine_0 : decode cX8_fine 0 = .ok (.aload_n 0, 1) := by decide +kernel
theorem dX8_fine_1 : decode cX8_fine 1 = .ok (.aload_n 0, 1) := by decide +kernel
theorem dX8_fine_2 : decode cX8_fine 2 = .ok (.iload_n 1, 1) := by decide +kernel
theorem dX8_fine_3 : decode cX8_fine 3 = .ok (.invokevirtual 189, 3) := by decide +kernel
theorem dX8_fine_6 : decode cX8_fine 6 = .ok (.invokevirtual 87, 3) := by decide +kernel
theorem dX8_fine_9 : decode cX8_fine 9 = .ok (.aload_n 0, 1) := by decide +kernel
theorem dX8_fine_10 : decode cX8_fine 10 = .ok (.getfield 12, 3) := by decide +kernel
theorem dX8_fine_13 : decode cX8_fine 13 = .ok (.iload_n 1, 1) := by decide +kernel
theorem dX8_fine_14 : decode cX8_fine 14 = .ok (.invokevirtual 192, 3) := by decide +kernel
theorem dX8_fine_17 : decode cX8_fine 17 = .ok (.ireturn, 1) := by decide +kernel
theorem dX8_hour_0 : decode cX8_hour 0 = .ok (.aload_n 0, 1) := by decide +kernel
theorem dX8_hour_1 : decode cX8_hour 1 = .ok (.iconst 0, 1) := by decide +kernel
theorem dX8_hour_2 : decode cX8_hour 2 = .ok (.invokevirtual 87, 3) := by decide +kernel
theorem dX8_hour_5 : decode cX8_hour 5 = .ok (.aload_n 0, 1) := by decide +kernel
theorem dX8_hour_6 : decode cX8_hour 6 = .ok (.getfield 12, 3) := by decide +kernel
theorem dX8_hour_9 : decode cX8_hour 9 = .ok (.invokevirtual 195, 3) := by decide +kernel
theorem dX8_hour_12 : decode cX8_hour 12 = .ok (.ireturn, 1) := by decide +kernel
theorem dX8_way_0 : decode cX8_way 0 = .ok (.aload_n 0, 1) := by decide +kernel
theorem dX8_way_1 : decode cX8_way 1 = .ok (.getfield 12, 3) := by decide +kernel
theorem dX8_way_4 : decode cX8_way 4 = .ok (.invokevirtual 199, 3) := by decide +kernel
theorem dX8_way_7 : decode cX8_way 7 = .ok (.ireturn, 1) := by decide +kernel
theorem dX8_heard_0 : decode cX8_heard 0 = .ok (.aload_n 0, 1) := by decide +kernel
theorem dX8_heard_1 : decode cX8_heard 1 = .ok (.getfield 12, 3) := by decide +kernel
theorem dX8_heard_4 : decode cX8_heard 4 = .ok (.iload_n 1, 1) := by decide +kernel
theorem dX8_heard_5 : decode cX8_heard 5 = .ok (.invokevirtual 202, 3) := by decide +kernel
theorem dX8_heard_8 : decode cX8_heard 8 = .ok (.istore_n 3, 1) := by decide +kernel
theorem dX8_heard_9 : decode cX8_heard 9 = .ok (.iload_n 3, 1) := by decide +kernel
theorem dX8_heard_10 : decode cX8_heard 10 = .ok (.ifCond .ge 13, 3) := by decide +kernel
theorem dX8_heard_13 : decode cX8_heard 13 = .ok (.new 205, 3) := by decide +kernel
theorem dX8_heard_16 : decode cX8_heard 16 = .ok (.dup, 1) := by decide +kernel
theorem dX8_heard_17 : decode cX8_heard 17 = .ok (.ldc 207, 2) := by decide +kernel
theorem dX8_heard_19 : decode cX8_heard 19 = .ok (.invokespecial 209, 3) := by decide +kernel
theorem dX8_heard_22 : decode cX8_heard 22 = .ok (.athrow, 1) := by decide +kernel
theorem dX8_heard_23 : decode cX8_heard 23 = .ok (.iload_n 2, 1) := by decide +kernel
theorem dX8_heard_24 : decode cX8_heard 24 = .ok (.ifCond .lt 8, 3) := by decide +kernel
theorem dX8_heard_27 : decode cX8_heard 27 = .ok (.iload_n 2, 1) := by decide +kernel
theorem dX8_heard_28 : decode cX8_heard 28 = .ok (.iconst 4, 1) := by decide +kernel
theorem dX8_heard_29 : decode cX8_heard 29 = .ok (.if_icmp .le 13, 3) := by decide +kernel
theorem dX8_heard_32 : decode cX8_heard 32 = .ok (.new 130, 3) := by decide +kernel
theorem dX8_heard_35 : decode cX8_heard 35 = .ok (.dup, 1) := by decide +kernel
theorem dX8_heard_36 : decode cX8_heard 36 = .ok (.ldc 210, 2) := by decide +kernel
theorem dX8_heard_38 : decode cX8_heard 38 = .ok (.invokespecial 134, 3) := by decide +kernel
theorem dX8_heard_41 : decode cX8_heard 41 = .ok (.athrow, 1) := by decide +kernel
theorem dX8_heard_42 : decode cX8_heard 42 = .ok (.aload_n 0, 1) := by decide +kernel
theorem dX8_heard_43 : decode cX8_heard 43 = .ok (.getfield 12, 3) := by decide +kernel
theorem dX8_heard_46 : decode cX8_heard 46 = .ok (.getfield 212, 3) := by decide +kernel
theorem dX8_heard_49 : decode cX8_heard 49 = .ok (.iload_n 3, 1) := by decide +kernel
theorem dX8_heard_50 : decode cX8_heard 50 = .ok (.invokevirtual 215, 3) := by decide +kernel
theorem dX8_heard_53 : decode cX8_heard 53 = .ok (.iload_n 2, 1) := by decide +kernel
theorem dX8_heard_54 : decode cX8_heard 54 = .ok (.invokestatic 220, 3) := by decide +kernel
theorem dX8_heard_57 : decode cX8_heard 57 = .ok (.ireturn, 1) := by decide +kernel
theorem dX8_ways_0 : decode cX8_ways 0 = .ok (.aload_n 0, 1) := by decide +kernel
theorem dX8_ways_1 : decode cX8_ways 1 = .ok (.getfield 43, 3) := by decide +kernel
theorem dX8_ways_4 : decode cX8_ways 4 = .ok (.aload_n 0, 1) := by decide +kernel
theorem dX8_ways_5 : decode cX8_ways 5 = .ok (.getfield 12, 3) := by decide +kernel
theorem dX8_ways_8 : decode cX8_ways 8 = .ok (.getfield 212, 3) := by decide +kernel
theorem dX8_ways_11 : decode cX8_ways 11 = .ok (.invokevirtual 224, 3) := by decide +kernel
theorem dX8_ways_14 : decode cX8_ways 14 = .ok (.iload_n 1, 1) := by decide +kernel
theorem dX8_ways_15 : decode cX8_ways 15 = .ok (.ifCond .eq 20, 3) := by decide +kernel
theorem dX8_ways_18 : decode cX8_ways 18 = .ok (.aload_n 0, 1) := by decide +kernel
theorem dX8_ways_19 : decode cX8_ways 19 = .ok (.getfield 43, 3) := by decide +kernel
theorem dX8_ways_22 : decode cX8_ways 22 = .ok (.aload_n 0, 1) := by decide +kernel
theorem dX8_ways_23 : decode cX8_ways 23 = .ok (.getfield 12, 3) := by decide +kernel
theorem dX8_ways_26 : decode cX8_ways 26 = .ok (.getfield 67, 3) := by decide +kernel
theorem dX8_ways_29 : decode cX8_ways 29 = .ok (.invokevirtual 228, 3) := by decide +kernel
theorem dX8_ways_32 : decode cX8_ways 32 = .ok (.goto 17, 3) := by decide +kernel
theorem dX8_ways_35 : decode cX8_ways 35 = .ok (.aload_n 0, 1) := by decide +kernel
theorem dX8_ways_36 : decode cX8_ways 36 = .ok (.getfield 43, 3) := by decide +kernel
theorem dX8_ways_39 : decode cX8_ways 39 = .ok (.aload_n 0, 1) := by decide +kernel
theorem dX8_ways_40 : decode cX8_ways 40 = .ok (.getfield 12, 3) := by decide +kernel
theorem dX8_ways_43 : decode cX8_ways 43 = .ok (.getfield 67, 3) := by decide +kernel
theorem dX8_ways_46 : decode cX8_ways 46 = .ok (.invokevirtual 231, 3) := by decide +kernel
theorem dX8_ways_49 : decode cX8_ways 49 = .ok (.ireturn, 1) := by decide +kernel
theorem dX8_reading_0 : decode cX8_reading 0 = .ok (.aload_n 0, 1) := by decide +kernel
theorem dX8_reading_1 : decode cX8_reading 1 = .ok (.getfield 43, 3) := by decide +kernel
theorem dX8_reading_4 : decode cX8_reading 4 = .ok (.aload_n 0, 1) := by decide +kernel
theorem dX8_reading_5 : decode cX8_reading 5 = .ok (.getfield 12, 3) := by decide +kernel
theorem dX8_reading_8 : decode cX8_reading 8 = .ok (.getfield 212, 3) := by decide +kernel
theorem dX8_reading_11 : decode cX8_reading 11 = .ok (.invokevirtual 224, 3) := by decide +kernel
theorem dX8_reading_14 : decode cX8_reading 14 = .ok (.aload_n 0, 1) := by decide +kernel
theorem dX8_reading_15 : decode cX8_reading 15 = .ok (.getfield 43, 3) := by decide +kernel
theorem dX8_reading_18 : decode cX8_reading 18 = .ok (.aload_n 0, 1) := by decide +kernel
theorem dX8_reading_19 : decode cX8_reading 19 = .ok (.getfield 12, 3) := by decide +kernel
theorem dX8_reading_22 : decode cX8_reading 22 = .ok (.getfield 67, 3) := by decide +kernel
theorem dX8_reading_25 : decode cX8_reading 25 = .ok (.iload_n 1, 1) := by decide +kernel
theorem dX8_reading_26 : decode cX8_reading 26 = .ok (.invokevirtual 234, 3) := by decide +kernel
theorem dX8_reading_29 : decode cX8_reading 29 = .ok (.istore_n 2, 1) := by decide +kernel
theorem dX8_reading_30 : decode cX8_reading 30 = .ok (.iload_n 2, 1) := by decide +kernel
theorem dX8_reading_31 : decode cX8_reading 31 = .ok (.ifCond .ge 13, 3) := by decide +kernel
theorem dX8_reading_34 : decode cX8_reading 34 = .ok (.new 205, 3) := by decide +kernel
theorem dX8_reading_37 : decode cX8_reading 37 = .ok (.dup, 1) := by decide +kernel
theorem dX8_reading_38 : decode cX8_reading 38 = .ok (.ldc 237, 2) := by decide +kernel
theorem dX8_reading_40 : decode cX8_reading 40 = .ok (.invokespecial 209, 3) := by decide +kernel
theorem dX8_reading_43 : decode cX8_reading 43 = .ok (.athrow, 1) := by decide +kernel
theorem dX8_reading_44 : decode cX8_reading 44 = .ok (.iload_n 2, 1) := by decide +kernel
theorem dX8_reading_45 : decode cX8_reading 45 = .ok (.ireturn, 1) := by decide +kernel
theorem dX8_soonest_0 : decode cX8_soonest 0 = .ok (.iload_n 1, 1) := by decide +kernel
theorem dX8_soonest_1 : decode cX8_soonest 1 = .ok (.invokestatic 119, 3) := by decide +kernel
theorem dX8_soonest_4 : decode cX8_soonest 4 = .ok (.ifCond .ne 13, 3) := by decide +kernel
theorem dX8_soonest_7 : decode cX8_soonest 7 = .ok (.new 123, 3) := by decide +kernel
theorem dX8_soonest_10 : decode cX8_soonest 10 = .ok (.dup, 1) := by decide +kernel
theorem dX8_soonest_11 : decode cX8_soonest 11 = .ok (.ldc 125, 2) := by decide +kernel
theorem dX8_soonest_13 : decode cX8_soonest 13 = .ok (.invokespecial 127, 3) := by decide +kernel
theorem dX8_soonest_16 : decode cX8_soonest 16 = .ok (.athrow, 1) := by decide +kernel
theorem dX8_soonest_17 : decode cX8_soonest 17 = .ok (.aload_n 0, 1) := by decide +kernel
theorem dX8_soonest_18 : decode cX8_soonest 18 = .ok (.getfield 12, 3) := by decide +kernel
theorem dX8_soonest_21 : decode cX8_soonest 21 = .ok (.getfield 67, 3) := by decide +kernel
theorem dX8_soonest_24 : decode cX8_soonest 24 = .ok (.iload_n 1, 1) := by decide +kernel
theorem dX8_soonest_25 : decode cX8_soonest 25 = .ok (.invokevirtual 215, 3) := by decide +kernel
theorem dX8_soonest_28 : decode cX8_soonest 28 = .ok (.ifCond .ne 13, 3) := by decide +kernel
theorem dX8_soonest_31 : decode cX8_soonest 31 = .ok (.new 205, 3) := by decide +kernel
theorem dX8_soonest_34 : decode cX8_soonest 34 = .ok (.dup, 1) := by decide +kernel
theorem dX8_soonest_35 : decode cX8_soonest 35 = .ok (.ldc 239, 2) := by decide +kernel
theorem dX8_soonest_37 : decode cX8_soonest 37 = .ok (.invokespecial 209, 3) := by decide +kernel
theorem dX8_soonest_40 : decode cX8_soonest 40 = .ok (.athrow, 1) := by decide +kernel
theorem dX8_soonest_41 : decode cX8_soonest 41 = .ok (.aload_n 0, 1) := by decide +kernel
theorem dX8_soonest_42 : decode cX8_soonest 42 = .ok (.getfield 12, 3) := by decide +kernel
theorem dX8_soonest_45 : decode cX8_soonest 45 = .ok (.iload_n 1, 1) := by decide +kernel
theorem dX8_soonest_46 : decode cX8_soonest 46 = .ok (.invokevirtual 241, 3) := by decide +kernel
theorem dX8_soonest_49 : decode cX8_soonest 49 = .ok (.ireturn, 1) := by decide +kernel
theorem dX8_ranked_0 : decode cX8_ranked 0 = .ok (.iload_n 1, 1) := by decide +kernel
theorem dX8_ranked_1 : decode cX8_ranked 1 = .ok (.ifCond .lt 8, 3) := by decide +kernel
theorem dX8_ranked_4 : decode cX8_ranked 4 = .ok (.iload_n 1, 1) := by decide +kernel
theorem dX8_ranked_5 : decode cX8_ranked 5 = .ok (.iconst 2, 1) := by decide +kernel
theorem dX8_ranked_6 : decode cX8_ranked 6 = .ok (.if_icmp .le 13, 3) := by decide +kernel
theorem dX8_ranked_9 : decode cX8_ranked 9 = .ok (.new 130, 3) := by decide +kernel
theorem dX8_ranked_12 : decode cX8_ranked 12 = .ok (.dup, 1) := by decide +kernel
theorem dX8_ranked_13 : decode cX8_ranked 13 = .ok (.ldc 244, 2) := by decide +kernel
theorem dX8_ranked_15 : decode cX8_ranked 15 = .ok (.invokespecial 134, 3) := by decide +kernel
theorem dX8_ranked_18 : decode cX8_ranked 18 = .ok (.athrow, 1) := by decide +kernel
theorem dX8_ranked_19 : decode cX8_ranked 19 = .ok (.iload_n 2, 1) := by decide +kernel
theorem dX8_ranked_20 : decode cX8_ranked 20 = .ok (.invokestatic 119, 3) := by decide +kernel
theorem dX8_ranked_23 : decode cX8_ranked 23 = .ok (.ifCond .ne 13, 3) := by decide +kernel
theorem dX8_ranked_26 : decode cX8_ranked 26 = .ok (.new 205, 3) := by decide +kernel
theorem dX8_ranked_29 : decode cX8_ranked 29 = .ok (.dup, 1) := by decide +kernel
theorem dX8_ranked_30 : decode cX8_ranked 30 = .ok (.ldc 246, 2) := by decide +kernel
theorem dX8_ranked_32 : decode cX8_ranked 32 = .ok (.invokespecial 209, 3) := by decide +kernel
theorem dX8_ranked_35 : decode cX8_ranked 35 = .ok (.athrow, 1) := by decide +kernel
theorem dX8_ranked_36 : decode cX8_ranked 36 = .ok (.iload_n 1, 1) := by decide +kernel
theorem dX8_ranked_37 : decode cX8_ranked 37 = .ok (.ifCond .ne 13, 3) := by decide +kernel
theorem dX8_ranked_40 : decode cX8_ranked 40 = .ok (.aload_n 0, 1) := by decide +kernel
theorem dX8_ranked_41 : decode cX8_ranked 41 = .ok (.getfield 12, 3) := by decide +kernel
theorem dX8_ranked_44 : decode cX8_ranked 44 = .ok (.getfield 248, 3) := by decide +kernel
theorem dX8_ranked_47 : decode cX8_ranked 47 = .ok (.goto 25, 3) := by decide +kernel
theorem dX8_ranked_50 : decode cX8_ranked 50 = .ok (.iload_n 1, 1) := by decide +kernel
theorem dX8_ranked_51 : decode cX8_ranked 51 = .ok (.iconst 1, 1) := by decide +kernel
theorem dX8_ranked_52 : decode cX8_ranked 52 = .ok (.if_icmp .ne 13, 3) := by decide +kernel
theorem dX8_ranked_55 : decode cX8_ranked 55 = .ok (.aload_n 0, 1) := by decide +kernel
theorem dX8_ranked_56 : decode cX8_ranked 56 = .ok (.getfield 12, 3) := by decide +kernel
theorem dX8_ranked_59 : decode cX8_ranked 59 = .ok (.getfield 251, 3) := by decide +kernel
theorem dX8_ranked_62 : decode cX8_ranked 62 = .ok (.goto 10, 3) := by decide +kernel
theorem dX8_ranked_65 : decode cX8_ranked 65 = .ok (.aload_n 0, 1) := by decide +kernel
theorem dX8_ranked_66 : decode cX8_ranked 66 = .ok (.getfield 12, 3) := by decide +kernel
theorem dX8_ranked_69 : decode cX8_ranked 69 = .ok (.getfield 254, 3) := by decide +kernel
theorem dX8_ranked_72 : decode cX8_ranked 72 = .ok (.iload_n 2, 1) := by decide +kernel
theorem dX8_ranked_73 : decode cX8_ranked 73 = .ok (.invokestatic 257, 3) := by decide +kernel
theorem dX8_ranked_76 : decode cX8_ranked 76 = .ok (.ireturn, 1) := by decide +kernel
theorem dX8_isRight_0 : decode cX8_isRight 0 = .ok (.aload_n 0, 1) := by decide +kernel
theorem dX8_isRight_1 : decode cX8_isRight 1 = .ok (.getfield 43, 3) := by decide +kernel
theorem dX8_isRight_4 : decode cX8_isRight 4 = .ok (.aload_n 0, 1) := by decide +kernel
theorem dX8_isRight_5 : decode cX8_isRight 5 = .ok (.getfield 12, 3) := by decide +kernel
theorem dX8_isRight_8 : decode cX8_isRight 8 = .ok (.getfield 212, 3) := by decide +kernel
theorem dX8_isRight_11 : decode cX8_isRight 11 = .ok (.invokevirtual 224, 3) := by decide +kernel
theorem dX8_isRight_14 : decode cX8_isRight 14 = .ok (.aload_n 0, 1) := by decide +kernel
theorem dX8_isRight_15 : decode cX8_isRight 15 = .ok (.getfield 43, 3) := by decide +kernel
theorem dX8_isRight_18 : decode cX8_isRight 18 = .ok (.aload_n 0, 1) := by decide +kernel
theorem dX8_isRight_19 : decode cX8_isRight 19 = .ok (.getfield 12, 3) := by decide +kernel
theorem dX8_isRight_22 : decode cX8_isRight 22 = .ok (.getfield 67, 3) := by decide +kernel
theorem dX8_isRight_25 : decode cX8_isRight 25 = .ok (.invokevirtual 231, 3) := by decide +kernel
theorem dX8_isRight_28 : decode cX8_isRight 28 = .ok (.istore_n 1, 1) := by decide +kernel
theorem dX8_isRight_29 : decode cX8_isRight 29 = .ok (.iload_n 1, 1) := by decide +kernel
theorem dX8_isRight_30 : decode cX8_isRight 30 = .ok (.aload_n 0, 1) := by decide +kernel
theorem dX8_isRight_31 : decode cX8_isRight 31 = .ok (.getfield 43, 3) := by decide +kernel
theorem dX8_isRight_34 : decode cX8_isRight 34 = .ok (.aload_n 0, 1) := by decide +kernel
theorem dX8_isRight_35 : decode cX8_isRight 35 = .ok (.getfield 12, 3) := by decide +kernel
theorem dX8_isRight_38 : decode cX8_isRight 38 = .ok (.getfield 67, 3) := by decide +kernel
theorem dX8_isRight_41 : decode cX8_isRight 41 = .ok (.invokevirtual 228, 3) := by decide +kernel
theorem dX8_isRight_44 : decode cX8_isRight 44 = .ok (.if_icmp .ne 45, 3) := by decide +kernel
theorem dX8_isRight_47 : decode cX8_isRight 47 = .ok (.iload_n 1, 1) := by decide +kernel
theorem dX8_isRight_48 : decode cX8_isRight 48 = .ok (.iconst 1, 1) := by decide +kernel
theorem dX8_isRight_49 : decode cX8_isRight 49 = .ok (.if_icmp .le 16, 3) := by decide +kernel
theorem dX8_isRight_52 : decode cX8_isRight 52 = .ok (.aload_n 0, 1) := by decide +kernel
theorem dX8_isRight_53 : decode cX8_isRight 53 = .ok (.getfield 12, 3) := by decide +kernel
theorem dX8_isRight_56 : decode cX8_isRight 56 = .ok (.getfield 67, 3) := by decide +kernel
theorem dX8_isRight_59 : decode cX8_isRight 59 = .ok (.invokestatic 152, 3) := by decide +kernel
theorem dX8_isRight_62 : decode cX8_isRight 62 = .ok (.ifCond .ne 27, 3) := by decide +kernel
theorem dX8_isRight_65 : decode cX8_isRight 65 = .ok (.aload_n 0, 1) := by decide +kernel
theorem dX8_isRight_66 : decode cX8_isRight 66 = .ok (.getfield 12, 3) := by decide +kernel
theorem dX8_isRight_69 : decode cX8_isRight 69 = .ok (.getfield 67, 3) := by decide +kernel
theorem dX8_isRight_72 : decode cX8_isRight 72 = .ok (.invokestatic 260, 3) := by decide +kernel
theorem dX8_isRight_75 : decode cX8_isRight 75 = .ok (.ifCond .eq 14, 3) := by decide +kernel
theorem dX8_isRight_78 : decode cX8_isRight 78 = .ok (.aload_n 0, 1) := by decide +kernel
theorem dX8_isRight_79 : decode cX8_isRight 79 = .ok (.invokevirtual 263, 3) := by decide +kernel
theorem dX8_isRight_82 : decode cX8_isRight 82 = .ok (.ifCond .eq 7, 3) := by decide +kernel
theorem dX8_isRight_85 : decode cX8_isRight 85 = .ok (.iconst 1, 1) := by decide +kernel
theorem dX8_isRight_86 : decode cX8_isRight 86 = .ok (.goto 4, 3) := by decide +kernel
theorem dX8_isRight_89 : decode cX8_isRight 89 = .ok (.iconst 0, 1) := by decide +kernel
theorem dX8_isRight_90 : decode cX8_isRight 90 = .ok (.ireturn, 1) := by decide +kernel
theorem dX8_text_0 : decode cX8_text 0 = .ok (.iload_n 1, 1) := by decide +kernel
theorem dX8_text_1 : decode cX8_text 1 = .ok (.invokestatic 119, 3) := by decide +kernel
theorem dX8_text_4 : decode cX8_text 4 = .ok (.ifCond .ne 13, 3) := by decide +kernel
theorem dX8_text_7 : decode cX8_text 7 = .ok (.new 123, 3) := by decide +kernel
theorem dX8_text_10 : decode cX8_text 10 = .ok (.dup, 1) := by decide +kernel
theorem dX8_text_11 : decode cX8_text 11 = .ok (.ldc 125, 2) := by decide +kernel
theorem dX8_text_13 : decode cX8_text 13 = .ok (.invokespecial 127, 3) := by decide +kernel
theorem dX8_text_16 : decode cX8_text 16 = .ok (.athrow, 1) := by decide +kernel
theorem dX8_text_17 : decode cX8_text 17 = .ok (.aload_n 0, 1) := by decide +kernel
theorem dX8_text_18 : decode cX8_text 18 = .ok (.getfield 50, 3) := by decide +kernel
theorem dX8_text_21 : decode cX8_text 21 = .ok (.iconst 0, 1) := by decide +kernel
theorem dX8_text_22 : decode cX8_text 22 = .ok (.invokevirtual 267, 3) := by decide +kernel
theorem dX8_text_25 : decode cX8_text 25 = .ok (.aload_n 0, 1) := by decide +kernel
theorem dX8_text_26 : decode cX8_text 26 = .ok (.iload_n 1, 1) := by decide +kernel
theorem dX8_text_27 : decode cX8_text 27 = .ok (.invokevirtual 270, 3) := by decide +kernel
theorem dX8_text_30 : decode cX8_text 30 = .ok (.aload_n 0, 1) := by decide +kernel
theorem dX8_text_31 : decode cX8_text 31 = .ok (.getfield 50, 3) := by decide +kernel
theorem dX8_text_34 : decode cX8_text 34 = .ok (.invokevirtual 273, 3) := by decide +kernel
theorem dX8_text_37 : decode cX8_text 37 = .ok (.ireturn, 1) := by decide +kernel
theorem dX8_strip_0 : decode cX8_strip 0 = .ok (.aload_n 0, 1) := by decide +kernel
theorem dX8_strip_1 : decode cX8_strip 1 = .ok (.getfield 50, 3) := by decide +kernel
theorem dX8_strip_4 : decode cX8_strip 4 = .ok (.iconst 0, 1) := by decide +kernel
theorem dX8_strip_5 : decode cX8_strip 5 = .ok (.invokevirtual 267, 3) := by decide +kernel
theorem dX8_strip_8 : decode cX8_strip 8 = .ok (.iconst 0, 1) := by decide +kernel
theorem dX8_strip_9 : decode cX8_strip 9 = .ok (.istore_n 1, 1) := by decide +kernel
theorem dX8_strip_10 : decode cX8_strip 10 = .ok (.iload_n 1, 1) := by decide +kernel
theorem dX8_strip_11 : decode cX8_strip 11 = .ok (.aload_n 0, 1) := by decide +kernel
theorem dX8_strip_12 : decode cX8_strip 12 = .ok (.getfield 12, 3) := by decide +kernel
theorem dX8_strip_15 : decode cX8_strip 15 = .ok (.getfield 212, 3) := by decide +kernel
theorem dX8_strip_18 : decode cX8_strip 18 = .ok (.invokevirtual 276, 3) := by decide +kernel
theorem dX8_strip_21 : decode cX8_strip 21 = .ok (.if_icmp .ge 27, 3) := by decide +kernel
theorem dX8_strip_24 : decode cX8_strip 24 = .ok (.aload_n 0, 1) := by decide +kernel
theorem dX8_strip_25 : decode cX8_strip 25 = .ok (.aload_n 0, 1) := by decide +kernel
theorem dX8_strip_26 : decode cX8_strip 26 = .ok (.getfield 12, 3) := by decide +kernel
theorem dX8_strip_29 : decode cX8_strip 29 = .ok (.getfield 212, 3) := by decide +kernel
theorem dX8_strip_32 : decode cX8_strip 32 = .ok (.iload_n 1, 1) := by decide +kernel
theorem dX8_strip_33 : decode cX8_strip 33 = .ok (.invokevirtual 215, 3) := by decide +kernel
theorem dX8_strip_36 : decode cX8_strip 36 = .ok (.invokestatic 279, 3) := by decide +kernel
theorem dX8_strip_39 : decode cX8_strip 39 = .ok (.invokevirtual 282, 3) := by decide +kernel
theorem dX8_strip_42 : decode cX8_strip 42 = .ok (.iinc 1 1, 3) := by decide +kernel
theorem dX8_strip_45 : decode cX8_strip 45 = .ok (.goto (-35), 3) := by decide +kernel
theorem dX8_strip_48 : decode cX8_strip 48 = .ok (.aload_n 0, 1) := by decide +kernel
theorem dX8_strip_49 : decode cX8_strip 49 = .ok (.getfield 50, 3) := by decide +kernel
theorem dX8_strip_52 : decode cX8_strip 52 = .ok (.invokevirtual 273, 3) := by decide +kernel
theorem dX8_strip_55 : decode cX8_strip 55 = .ok (.ireturn, 1) := by decide +kernel
theorem dX8_character_0 : decode cX8_character 0 = .ok (.iload_n 1, 1) := by decide +kernel
theorem dX8_character_1 : decode cX8_character 1 = .ok (.ifCond .lt 14, 3) := by decide +kernel
theorem dX8_character_4 : decode cX8_character 4 = .ok (.iload_n 1, 1) := by decide +kernel
theorem dX8_character_5 : decode cX8_character 5 = .ok (.aload_n 0, 1) := by decide +kernel
theorem dX8_character_6 : decode cX8_character 6 = .ok (.getfield 50, 3) := by decide +kernel
theorem dX8_character_9 : decode cX8_character 9 = .ok (.invokevirtual 273, 3) := by decide +kernel
theorem dX8_character_12 : decode cX8_character 12 = .ok (.if_icmp .lt 14, 3) := by decide +kernel
theorem dX8_character_15 : decode cX8_character 15 = .ok (.new 123, 3) := by decide +kernel
theorem dX8_character_18 : decode cX8_character 18 = .ok (.dup, 1) := by decide +kernel
theorem dX8_character_19 : decode cX8_character 19 = .ok (.ldc_w 285, 3) := by decide +kernel
theorem dX8_character_22 : decode cX8_character 22 = .ok (.invokespecial 127, 3) := by decide +kernel
theorem dX8_character_25 : decode cX8_character 25 = .ok (.athrow, 1) := by decide +kernel
theorem dX8_character_26 : decode cX8_character 26 = .ok (.aload_n 0, 1) := by decide +kernel
theorem dX8_character_27 : decode cX8_character 27 = .ok (.getfield 50, 3) := by decide +kernel
theorem dX8_character_30 : decode cX8_character 30 = .ok (.iload_n 1, 1) := by decide +kernel
theorem dX8_character_31 : decode cX8_character 31 = .ok (.invokevirtual 287, 3) := by decide +kernel
theorem dX8_character_34 : decode cX8_character 34 = .ok (.ireturn, 1) := by decide +kernel
theorem dX8_refusal_0 : decode cX8_refusal 0 = .ok (.aload_n 0, 1) := by decide +kernel
theorem dX8_refusal_1 : decode cX8_refusal 1 = .ok (.getfield 61, 3) := by decide +kernel
theorem dX8_refusal_4 : decode cX8_refusal 4 = .ok (.ifCond .ne 14, 3) := by decide +kernel
theorem dX8_refusal_7 : decode cX8_refusal 7 = .ok (.new 291, 3) := by decide +kernel
theorem dX8_refusal_10 : decode cX8_refusal 10 = .ok (.dup, 1) := by decide +kernel
theorem dX8_refusal_11 : decode cX8_refusal 11 = .ok (.ldc_w 293, 3) := by decide +kernel
theorem dX8_refusal_14 : decode cX8_refusal 14 = .ok (.invokespecial 295, 3) := by decide +kernel
theorem dX8_refusal_17 : decode cX8_refusal 17 = .ok (.athrow, 1) := by decide +kernel
theorem dX8_refusal_18 : decode cX8_refusal 18 = .ok (.iload_n 1, 1) := by decide +kernel
theorem dX8_refusal_19 : decode cX8_refusal 19 = .ok (.ifCond .eq 10, 3) := by decide +kernel
theorem dX8_refusal_22 : decode cX8_refusal 22 = .ok (.aload_n 0, 1) := by decide +kernel
theorem dX8_refusal_23 : decode cX8_refusal 23 = .ok (.getfield 64, 3) := by decide +kernel
theorem dX8_refusal_26 : decode cX8_refusal 26 = .ok (.goto 7, 3) := by decide +kernel
theorem dX8_refusal_29 : decode cX8_refusal 29 = .ok (.aload_n 0, 1) := by decide +kernel
theorem dX8_refusal_30 : decode cX8_refusal 30 = .ok (.getfield 61, 3) := by decide +kernel
theorem dX8_refusal_33 : decode cX8_refusal 33 = .ok (.ireturn, 1) := by decide +kernel
theorem dX8_account_0 : decode cX8_account 0 = .ok (.iload_n 1, 1) := by decide +kernel
theorem dX8_account_1 : decode cX8_account 1 = .ok (.ifCond .lt 9, 3) := by decide +kernel
theorem dX8_account_4 : decode cX8_account 4 = .ok (.iload_n 1, 1) := by decide +kernel
theorem dX8_account_5 : decode cX8_account 5 = .ok (.bipush 15, 2) := by decide +kernel
theorem dX8_account_7 : decode cX8_account 7 = .ok (.if_icmp .le 14, 3) := by decide +kernel
theorem dX8_account_10 : decode cX8_account 10 = .ok (.new 130, 3) := by decide +kernel
theorem dX8_account_13 : decode cX8_account 13 = .ok (.dup, 1) := by decide +kernel
theorem dX8_account_14 : decode cX8_account 14 = .ok (.ldc_w 296, 3) := by decide +kernel
theorem dX8_account_17 : decode cX8_account 17 = .ok (.invokespecial 134, 3) := by decide +kernel
theorem dX8_account_20 : decode cX8_account 20 = .ok (.athrow, 1) := by decide +kernel
theorem dX8_account_21 : decode cX8_account 21 = .ok (.iload_n 1, 1) := by decide +kernel
theorem dX8_account_22 : decode cX8_account 22 = .ok (.bipush 14, 2) := by decide +kernel
theorem dX8_account_24 : decode cX8_account 24 = .ok (.if_icmp .ne 11, 3) := by decide +kernel
theorem dX8_account_27 : decode cX8_account 27 = .ok (.aload_n 0, 1) := by decide +kernel
theorem dX8_account_28 : decode cX8_account 28 = .ok (.getfield 36, 3) := by decide +kernel
theorem dX8_account_31 : decode cX8_account 31 = .ok (.invokevirtual 298, 3) := by decide +kernel
theorem dX8_account_34 : decode cX8_account 34 = .ok (.ireturn, 1) := by decide +kernel
theorem dX8_account_35 : decode cX8_account 35 = .ok (.iload_n 1, 1) := by decide +kernel
theorem dX8_account_36 : decode cX8_account 36 = .ok (.bipush 15, 2) := by decide +kernel
theorem dX8_account_38 : decode cX8_account 38 = .ok (.if_icmp .ne 13, 3) := by decide +kernel
theorem dX8_account_41 : decode cX8_account 41 = .ok (.aload_n 0, 1) := by decide +kernel
theorem dX8_account_42 : decode cX8_account 42 = .ok (.getfield 29, 3) := by decide +kernel
theorem dX8_account_45 : decode cX8_account 45 = .ok (.invokevirtual 299, 3) := by decide +kernel
theorem dX8_account_48 : decode cX8_account 48 = .ok (.goto 11, 3) := by decide +kernel
theorem dX8_account_51 : decode cX8_account 51 = .ok (.aload_n 0, 1) := by decide +kernel
theorem dX8_account_52 : decode cX8_account 52 = .ok (.getfield 12, 3) := by decide +kernel
theorem dX8_account_55 : decode cX8_account 55 = .ok (.iload_n 1, 1) := by decide +kernel
theorem dX8_account_56 : decode cX8_account 56 = .ok (.invokevirtual 300, 3) := by decide +kernel
theorem dX8_account_59 : decode cX8_account 59 = .ok (.ireturn, 1) := by decide +kernel
theorem dX8_meanLength_0 : decode cX8_meanLength 0 = .ok (.aload_n 0, 1) := by decide +kernel
theorem dX8_meanLength_1 : decode cX8_meanLength 1 = .ok (.getfield 12, 3) := by decide +kernel
theorem dX8_meanLength_4 : decode cX8_meanLength 4 = .ok (.getfield 67, 3) := by decide +kernel
theorem dX8_meanLength_7 : decode cX8_meanLength 7 = .ok (.invokestatic 71, 3) := by decide +kernel
theorem dX8_meanLength_10 : decode cX8_meanLength 10 = .ok (.istore_n 1, 1) := by decide +kernel
theorem dX8_meanLength_11 : decode cX8_meanLength 11 = .ok (.iload_n 1, 1) := by decide +kernel
theorem dX8_meanLength_12 : decode cX8_meanLength 12 = .ok (.ifCond .ne 14, 3) := by decide +kernel
theorem dX8_meanLength_15 : decode cX8_meanLength 15 = .ok (.new 303, 3) := by decide +kernel
theorem dX8_meanLength_18 : decode cX8_meanLength 18 = .ok (.dup, 1) := by decide +kernel
theorem dX8_meanLength_19 : decode cX8_meanLength 19 = .ok (.ldc_w 305, 3) := by decide +kernel
theorem dX8_meanLength_22 : decode cX8_meanLength 22 = .ok (.invokespecial 307, 3) := by decide +kernel
theorem dX8_meanLength_25 : decode cX8_meanLength 25 = .ok (.athrow, 1) := by decide +kernel
theorem dX8_meanLength_26 : decode cX8_meanLength 26 = .ok (.aload_n 0, 1) := by decide +kernel
theorem dX8_meanLength_27 : decode cX8_meanLength 27 = .ok (.getfield 12, 3) := by decide +kernel
theorem dX8_meanLength_30 : decode cX8_meanLength 30 = .ok (.getfield 67, 3) := by decide +kernel
theorem dX8_meanLength_33 : decode cX8_meanLength 33 = .ok (.invokestatic 308, 3) := by decide +kernel
theorem dX8_meanLength_36 : decode cX8_meanLength 36 = .ok (.i2d, 1) := by decide +kernel
theorem dX8_meanLength_37 : decode cX8_meanLength 37 = .ok (.iload_n 1, 1) := by decide +kernel
theorem dX8_meanLength_38 : decode cX8_meanLength 38 = .ok (.i2d, 1) := by decide +kernel
theorem dX8_meanLength_39 : decode cX8_meanLength 39 = .ok (.ddiv, 1) := by decide +kernel
theorem dX8_meanLength_40 : decode cX8_meanLength 40 = .ok (.dreturn, 1) := by decide +kernel
theorem dX8_lieShare_0 : decode cX8_lieShare 0 = .ok (.aload_n 0, 1) := by decide +kernel
theorem dX8_lieShare_1 : decode cX8_lieShare 1 = .ok (.getfield 12, 3) := by decide +kernel
theorem dX8_lieShare_4 : decode cX8_lieShare 4 = .ok (.getfield 311, 3) := by decide +kernel
theorem dX8_lieShare_7 : decode cX8_lieShare 7 = .ok (.ifCond .ne 14, 3) := by decide +kernel
theorem dX8_lieShare_10 : decode cX8_lieShare 10 = .ok (.new 303, 3) := by decide +kernel
theorem dX8_lieShare_13 : decode cX8_lieShare 13 = .ok (.dup, 1) := by decide +kernel
theorem dX8_lieShare_14 : decode cX8_lieShare 14 = .ok (.ldc_w 314, 3) := by decide +kernel
theorem dX8_lieShare_17 : decode cX8_lieShare 17 = .ok (.invokespecial 307, 3) := by decide +kernel
theorem dX8_lieShare_20 : decode cX8_lieShare 20 = .ok (.athrow, 1) := by decide +kernel
theorem dX8_lieShare_21 : decode cX8_lieShare 21 = .ok (.aload_n 0, 1) := by decide +kernel
theorem dX8_lieShare_22 : decode cX8_lieShare 22 = .ok (.getfield 12, 3) := by decide +kernel
theorem dX8_lieShare_25 : decode cX8_lieShare 25 = .ok (.getfield 316, 3) := by decide +kernel
theorem dX8_lieShare_28 : decode cX8_lieShare 28 = .ok (.invokevirtual 319, 3) := by decide +kernel
theorem dX8_lieShare_31 : decode cX8_lieShare 31 = .ok (.i2f, 1) := by decide +kernel
theorem dX8_lieShare_32 : decode cX8_lieShare 32 = .ok (.aload_n 0, 1) := by decide +kernel
theorem dX8_lieShare_33 : decode cX8_lieShare 33 = .ok (.getfield 12, 3) := by decide +kernel
theorem dX8_lieShare_36 : decode cX8_lieShare 36 = .ok (.getfield 311, 3) := by decide +kernel
theorem dX8_lieShare_39 : decode cX8_lieShare 39 = .ok (.i2f, 1) := by decide +kernel
theorem dX8_lieShare_40 : decode cX8_lieShare 40 = .ok (.fdiv, 1) := by decide +kernel
theorem dX8_lieShare_41 : decode cX8_lieShare 41 = .ok (.freturn, 1) := by decide +kernel
theorem dX8_append_0 : decode cX8_append 0 = .ok (.iconst 0, 1) := by decide +kernel
theorem dX8_append_1 : decode cX8_append 1 = .ok (.istore_n 2, 1) := by decide +kernel
theorem dX8_append_2 : decode cX8_append 2 = .ok (.bipush 24, 2) := by decide +kernel
theorem dX8_append_4 : decode cX8_append 4 = .ok (.istore_n 3, 1) := by decide +kernel
theorem dX8_append_5 : decode cX8_append 5 = .ok (.iload_n 3, 1) := by decide +kernel
theorem dX8_append_6 : decode cX8_append 6 = .ok (.ifCond .lt 61, 3) := by decide +kernel
theorem dX8_append_9 : decode cX8_append 9 = .ok (.iload_n 1, 1) := by decide +kernel
theorem dX8_append_10 : decode cX8_append 10 = .ok (.iload_n 3, 1) := by decide +kernel
theorem dX8_append_11 : decode cX8_append 11 = .ok (.iushr, 1) := by decide +kernel
theorem dX8_append_12 : decode cX8_append 12 = .ok (.sipush 255, 3) := by decide +kernel
theorem dX8_append_15 : decode cX8_append 15 = .ok (.iand, 1) := by decide +kernel
theorem dX8_append_16 : decode cX8_append 16 = .ok (.istore 4, 2) := by decide +kernel
theorem dX8_append_18 : decode cX8_append 18 = .ok (.iload 4, 2) := by decide +kernel
theorem dX8_append_20 : decode cX8_append 20 = .ok (.ifCond .eq 28, 3) := by decide +kernel
theorem dX8_append_23 : decode cX8_append 23 = .ok (.iload 4, 2) := by decide +kernel
theorem dX8_append_25 : decode cX8_append 25 = .ok (.bipush 32, 2) := by decide +kernel
theorem dX8_append_27 : decode cX8_append 27 = .ok (.if_icmp .lt 10, 3) := by decide +kernel
theorem dX8_append_30 : decode cX8_append 30 = .ok (.iload 4, 2) := by decide +kernel
theorem dX8_append_32 : decode cX8_append 32 = .ok (.bipush 126, 2) := by decide +kernel
theorem dX8_append_34 : decode cX8_append 34 = .ok (.if_icmp .le 14, 3) := by decide +kernel
theorem dX8_append_37 : decode cX8_append 37 = .ok (.new 130, 3) := by decide +kernel
theorem dX8_append_40 : decode cX8_append 40 = .ok (.dup, 1) := by decide +kernel
theorem dX8_append_41 : decode cX8_append 41 = .ok (.ldc_w 322, 3) := by decide +kernel
theorem dX8_append_44 : decode cX8_append 44 = .ok (.invokespecial 134, 3) := by decide +kernel
theorem dX8_append_47 : decode cX8_append 47 = .ok (.athrow, 1) := by decide +kernel
theorem dX8_append_48 : decode cX8_append 48 = .ok (.iload_n 2, 1) := by decide +kernel
theorem dX8_append_49 : decode cX8_append 49 = .ok (.iload 4, 2) := by decide +kernel
theorem dX8_append_51 : decode cX8_append 51 = .ok (.ifCond .ne 7, 3) := by decide +kernel
theorem dX8_append_54 : decode cX8_append 54 = .ok (.iconst 0, 1) := by decide +kernel
theorem dX8_append_55 : decode cX8_append 55 = .ok (.goto 4, 3) := by decide +kernel
theorem dX8_append_58 : decode cX8_append 58 = .ok (.iconst 1, 1) := by decide +kernel
theorem dX8_append_59 : decode cX8_append 59 = .ok (.iadd, 1) := by decide +kernel
theorem dX8_append_60 : decode cX8_append 60 = .ok (.istore_n 2, 1) := by decide +kernel
theorem dX8_append_61 : decode cX8_append 61 = .ok (.iinc 3 (-8), 3) := by decide +kernel
theorem dX8_append_64 : decode cX8_append 64 = .ok (.goto (-59), 3) := by decide +kernel
theorem dX8_append_67 : decode cX8_append 67 = .ok (.aload_n 0, 1) := by decide +kernel
theorem dX8_append_68 : decode cX8_append 68 = .ok (.getfield 36, 3) := by decide +kernel
theorem dX8_append_71 : decode cX8_append 71 = .ok (.invokevirtual 298, 3) := by decide +kernel
theorem dX8_append_74 : decode cX8_append 74 = .ok (.iload_n 2, 1) := by decide +kernel
theorem dX8_append_75 : decode cX8_append 75 = .ok (.iadd, 1) := by decide +kernel
theorem dX8_append_76 : decode cX8_append 76 = .ok (.bipush 60, 2) := by decide +kernel
theorem dX8_append_78 : decode cX8_append 78 = .ok (.if_icmp .le 14, 3) := by decide +kernel
theorem dX8_append_81 : decode cX8_append 81 = .ok (.new 291, 3) := by decide +kernel
theorem dX8_append_84 : decode cX8_append 84 = .ok (.dup, 1) := by decide +kernel
theorem dX8_append_85 : decode cX8_append 85 = .ok (.ldc_w 324, 3) := by decide +kernel
theorem dX8_append_88 : decode cX8_append 88 = .ok (.invokespecial 295, 3) := by decide +kernel
theorem dX8_append_91 : decode cX8_append 91 = .ok (.athrow, 1) := by decide +kernel
theorem dX8_append_92 : decode cX8_append 92 = .ok (.aload_n 0, 1) := by decide +kernel
theorem dX8_append_93 : decode cX8_append 93 = .ok (.getfield 36, 3) := by decide +kernel
theorem dX8_append_96 : decode cX8_append 96 = .ok (.iload_n 1, 1) := by decide +kernel
theorem dX8_append_97 : decode cX8_append 97 = .ok (.invokevirtual 326, 3) := by decide +kernel
theorem dX8_append_100 : decode cX8_append 100 = .ok (.aload_n 0, 1) := by decide +kernel
theorem dX8_append_101 : decode cX8_append 101 = .ok (.getfield 36, 3) := by decide +kernel
theorem dX8_append_104 : decode cX8_append 104 = .ok (.invokevirtual 298, 3) := by decide +kernel
theorem dX8_append_107 : decode cX8_append 107 = .ok (.ireturn, 1) := by decide +kernel
theorem dX8_read_0 : decode cX8_read 0 = .ok (.aload_n 0, 1) := by decide +kernel
theorem dX8_read_1 : decode cX8_read 1 = .ok (.getfield 36, 3) := by decide +kernel
theorem dX8_read_4 : decode cX8_read 4 = .ok (.invokevirtual 329, 3) := by decide +kernel
theorem dX8_read_7 : decode cX8_read 7 = .ok (.istore_n 1, 1) := by decide +kernel
theorem dX8_read_8 : decode cX8_read 8 = .ok (.aload_n 0, 1) := by decide +kernel
theorem dX8_read_9 : decode cX8_read 9 = .ok (.getfield 36, 3) := by decide +kernel
theorem dX8_read_12 : decode cX8_read 12 = .ok (.invokevirtual 332, 3) := by decide +kernel
theorem dX8_read_15 : decode cX8_read 15 = .ok (.iload_n 1, 1) := by decide +kernel
theorem dX8_read_16 : decode cX8_read 16 = .ok (.ifCond .ne 25, 3) := by decide +kernel
theorem dX8_read_19 : decode cX8_read 19 = .ok (.aload_n 0, 1) := by decide +kernel
theorem dX8_read_20 : decode cX8_read 20 = .ok (.aload_n 0, 1) := by decide +kernel
theorem dX8_read_21 : decode cX8_read 21 = .ok (.getfield 36, 3) := by decide +kernel
theorem dX8_read_24 : decode cX8_read 24 = .ok (.invokevirtual 335, 3) := by decide +kernel
theorem dX8_read_27 : decode cX8_read 27 = .ok (.putfield 54, 3) := by decide +kernel
theorem dX8_read_30 : decode cX8_read 30 = .ok (.new 130, 3) := by decide +kernel
theorem dX8_read_33 : decode cX8_read 33 = .ok (.dup, 1) := by decide +kernel
theorem dX8_read_34 : decode cX8_read 34 = .ok (.ldc_w 338, 3) := by decide +kernel
theorem dX8_read_37 : decode cX8_read 37 = .ok (.invokespecial 134, 3) := by decide +kernel
theorem dX8_read_40 : decode cX8_read 40 = .ok (.athrow, 1) := by decide +kernel
theorem dX8_read_41 : decode cX8_read 41 = .ok (.aload_n 0, 1) := by decide +kernel
theorem dX8_read_42 : decode cX8_read 42 = .ok (.getfield 16, 3) := by decide +kernel
theorem dX8_read_45 : decode cX8_read 45 = .ok (.aload_n 0, 1) := by decide +kernel
theorem dX8_read_46 : decode cX8_read 46 = .ok (.getfield 12, 3) := by decide +kernel
theorem dX8_read_49 : decode cX8_read 49 = .ok (.invokevirtual 340, 3) := by decide +kernel
theorem dX8_read_52 : decode cX8_read 52 = .ok (.iconst 0, 1) := by decide +kernel
theorem dX8_read_53 : decode cX8_read 53 = .ok (.istore_n 2, 1) := by decide +kernel
theorem dX8_read_54 : decode cX8_read 54 = .ok (.iload_n 2, 1) := by decide +kernel
theorem dX8_read_55 : decode cX8_read 55 = .ok (.aload_n 0, 1) := by decide +kernel
theorem dX8_read_56 : decode cX8_read 56 = .ok (.getfield 36, 3) := by decide +kernel
theorem dX8_read_59 : decode cX8_read 59 = .ok (.invokevirtual 344, 3) := by decide +kernel
theorem dX8_read_62 : decode cX8_read 62 = .ok (.if_icmp .ge 49, 3) := by decide +kernel
theorem dX8_read_65 : decode cX8_read 65 = .ok (.aload_n 0, 1) := by decide +kernel
theorem dX8_read_66 : decode cX8_read 66 = .ok (.iload_n 2, 1) := by decide +kernel
theorem dX8_read_67 : decode cX8_read 67 = .ok (.invokevirtual 347, 3) := by decide +kernel
theorem dX8_read_70 : decode cX8_read 70 = .ok (.ifCond .eq 30, 3) := by decide +kernel
theorem dX8_read_73 : decode cX8_read 73 = .ok (.aload_n 0, 1) := by decide +kernel
theorem dX8_read_74 : decode cX8_read 74 = .ok (.getfield 12, 3) := by decide +kernel
theorem dX8_read_77 : decode cX8_read 77 = .ok (.aload_n 0, 1) := by decide +kernel
theorem dX8_read_78 : decode cX8_read 78 = .ok (.getfield 16, 3) := by decide +kernel
theorem dX8_read_81 : decode cX8_read 81 = .ok (.invokevirtual 340, 3) := by decide +kernel
theorem dX8_read_84 : decode cX8_read 84 = .ok (.aload_n 0, 1) := by decide +kernel
theorem dX8_read_85 : decode cX8_read 85 = .ok (.iload_n 2, 1) := by decide +kernel
theorem dX8_read_86 : decode cX8_read 86 = .ok (.putfield 58, 3) := by decide +kernel
theorem dX8_read_89 : decode cX8_read 89 = .ok (.new 350, 3) := by decide +kernel
theorem dX8_read_92 : decode cX8_read 92 = .ok (.dup, 1) := by decide +kernel
theorem dX8_read_93 : decode cX8_read 93 = .ok (.ldc_w 352, 3) := by decide +kernel
theorem dX8_read_96 : decode cX8_read 96 = .ok (.invokespecial 354, 3) := by decide +kernel
theorem dX8_read_99 : decode cX8_read 99 = .ok (.athrow, 1) := by decide +kernel
theorem dX8_read_100 : decode cX8_read 100 = .ok (.aload_n 0, 1) := by decide +kernel
theorem dX8_read_101 : decode cX8_read 101 = .ok (.iload_n 2, 1) := by decide +kernel
theorem dX8_read_102 : decode cX8_read 102 = .ok (.invokevirtual 355, 3) := by decide +kernel
theorem dX8_read_105 : decode cX8_read 105 = .ok (.iinc 2 1, 3) := by decide +kernel
theorem dX8_read_108 : decode cX8_read 108 = .ok (.goto (-54), 3) := by decide +kernel
theorem dX8_read_111 : decode cX8_read 111 = .ok (.aload_n 0, 1) := by decide +kernel
theorem dX8_read_112 : decode cX8_read 112 = .ok (.getfield 29, 3) := by decide +kernel
theorem dX8_read_115 : decode cX8_read 115 = .ok (.aload_n 0, 1) := by decide +kernel
theorem dX8_read_116 : decode cX8_read 116 = .ok (.getfield 16, 3) := by decide +kernel
theorem dX8_read_119 : decode cX8_read 119 = .ok (.invokevirtual 358, 3) := by decide +kernel
theorem dX8_read_122 : decode cX8_read 122 = .ok (.aload_n 0, 1) := by decide +kernel
theorem dX8_read_123 : decode cX8_read 123 = .ok (.getfield 36, 3) := by decide +kernel
theorem dX8_read_126 : decode cX8_read 126 = .ok (.invokevirtual 344, 3) := by decide +kernel
theorem dX8_read_129 : decode cX8_read 129 = .ok (.ireturn, 1) := by decide +kernel
theorem dX8_errorPosition_0 : decode cX8_errorPosition 0 = .ok (.aload_n 0, 1) := by decide +kernel
theorem dX8_errorPosition_1 : decode cX8_errorPosition 1 = .ok (.getfield 54, 3) := by decide +kernel
theorem dX8_errorPosition_4 : decode cX8_errorPosition 4 = .ok (.ifCond .ge 14, 3) := by decide +kernel
theorem dX8_errorPosition_7 : decode cX8_errorPosition 7 = .ok (.new 205, 3) := by decide +kernel
theorem dX8_errorPosition_10 : decode cX8_errorPosition 10 = .ok (.dup, 1) := by decide +kernel
theorem dX8_errorPosition_11 : decode cX8_errorPosition 11 = .ok (.ldc_w 361, 3) := by decide +kernel
theorem dX8_errorPosition_14 : decode cX8_errorPosition 14 = .ok (.invokespecial 209, 3) := by decide +kernel
theorem dX8_errorPosition_17 : decode cX8_errorPosition 17 = .ok (.athrow, 1) := by decide +kernel
theorem dX8_errorPosition_18 : decode cX8_errorPosition 18 = .ok (.aload_n 0, 1) := by decide +kernel
theorem dX8_errorPosition_19 : decode cX8_errorPosition 19 = .ok (.getfield 54, 3) := by decide +kernel
theorem dX8_errorPosition_22 : decode cX8_errorPosition 22 = .ok (.ireturn, 1) := by decide +kernel
theorem dX8_refusedItem_0 : decode cX8_refusedItem 0 = .ok (.aload_n 0, 1) := by decide +kernel
theorem dX8_refusedItem_1 : decode cX8_refusedItem 1 = .ok (.getfield 58, 3) := by decide +kernel
theorem dX8_refusedItem_4 : decode cX8_refusedItem 4 = .ok (.ifCond .ge 14, 3) := by decide +kernel
theorem dX8_refusedItem_7 : decode cX8_refusedItem 7 = .ok (.new 205, 3) := by decide +kernel
theorem dX8_refusedItem_10 : decode cX8_refusedItem 10 = .ok (.dup, 1) := by decide +kernel
theorem dX8_refusedItem_11 : decode cX8_refusedItem 11 = .ok (.ldc_w 363, 3) := by decide +kernel
theorem dX8_refusedItem_14 : decode cX8_refusedItem 14 = .ok (.invokespecial 209, 3) := by decide +kernel
theorem dX8_refusedItem_17 : decode cX8_refusedItem 17 = .ok (.athrow, 1) := by decide +kernel
theorem dX8_refusedItem_18 : decode cX8_refusedItem 18 = .ok (.aload_n 0, 1) := by decide +kernel
theorem dX8_refusedItem_19 : decode cX8_refusedItem 19 = .ok (.getfield 58, 3) := by decide +kernel
theorem dX8_refusedItem_22 : decode cX8_refusedItem 22 = .ok (.ireturn, 1) := by decide +kernel
theorem dX8_undo_0 : decode cX8_undo 0 = .ok (.aload_n 0, 1) := by decide +kernel
theorem dX8_undo_1 : decode cX8_undo 1 = .ok (.getfield 29, 3) := by decide +kernel
theorem dX8_undo_4 : decode cX8_undo 4 = .ok (.invokevirtual 299, 3) := by decide +kernel
theorem dX8_undo_7 : decode cX8_undo 7 = .ok (.ifCond .ne 14, 3) := by decide +kernel
theorem dX8_undo_10 : decode cX8_undo 10 = .ok (.new 291, 3) := by decide +kernel
theorem dX8_undo_13 : decode cX8_undo 13 = .ok (.dup, 1) := by decide +kernel
theorem dX8_undo_14 : decode cX8_undo 14 = .ok (.ldc_w 365, 3) := by decide +kernel
theorem dX8_undo_17 : decode cX8_undo 17 = .ok (.invokespecial 295, 3) := by decide +kernel
theorem dX8_undo_20 : decode cX8_undo 20 = .ok (.athrow, 1) := by decide +kernel
theorem dX8_undo_21 : decode cX8_undo 21 = .ok (.aload_n 0, 1) := by decide +kernel
theorem dX8_undo_22 : decode cX8_undo 22 = .ok (.getfield 29, 3) := by decide +kernel
theorem dX8_undo_25 : decode cX8_undo 25 = .ok (.aload_n 0, 1) := by decide +kernel
theorem dX8_undo_26 : decode cX8_undo 26 = .ok (.getfield 12, 3) := by decide +kernel
theorem dX8_undo_29 : decode cX8_undo 29 = .ok (.invokevirtual 367, 3) := by decide +kernel
theorem dX8_undo_32 : decode cX8_undo 32 = .ok (.aload_n 0, 1) := by decide +kernel
theorem dX8_undo_33 : decode cX8_undo 33 = .ok (.getfield 29, 3) := by decide +kernel
theorem dX8_undo_36 : decode cX8_undo 36 = .ok (.invokevirtual 299, 3) := by decide +kernel
theorem dX8_undo_39 : decode cX8_undo 39 = .ok (.ireturn, 1) := by decide +kernel
theorem dX8_snapshot_0 : decode cX8_snapshot 0 = .ok (.aload_n 0, 1) := by decide +kernel
theorem dX8_snapshot_1 : decode cX8_snapshot 1 = .ok (.getfield 19, 3) := by decide +kernel
theorem dX8_snapshot_4 : decode cX8_snapshot 4 = .ok (.aload_n 0, 1) := by decide +kernel
theorem dX8_snapshot_5 : decode cX8_snapshot 5 = .ok (.getfield 12, 3) := by decide +kernel
theorem dX8_snapshot_8 : decode cX8_snapshot 8 = .ok (.invokevirtual 340, 3) := by decide +kernel
theorem dX8_snapshot_11 : decode cX8_snapshot 11 = .ok (.aload_n 0, 1) := by decide +kernel
theorem dX8_snapshot_12 : decode cX8_snapshot 12 = .ok (.iconst 1, 1) := by decide +kernel
theorem dX8_snapshot_13 : decode cX8_snapshot 13 = .ok (.putfield 22, 3) := by decide +kernel
theorem dX8_snapshot_16 : decode cX8_snapshot 16 = .ok (.aload_n 0, 1) := by decide +kernel
theorem dX8_snapshot_17 : decode cX8_snapshot 17 = .ok (.getfield 12, 3) := by decide +kernel
theorem dX8_snapshot_20 : decode cX8_snapshot 20 = .ok (.getfield 67, 3) := by decide +kernel
theorem dX8_snapshot_23 : decode cX8_snapshot 23 = .ok (.invokestatic 71, 3) := by decide +kernel
theorem dX8_snapshot_26 : decode cX8_snapshot 26 = .ok (.ireturn, 1) := by decide +kernel
theorem dX8_restore_0 : decode cX8_restore 0 = .ok (.aload_n 0, 1) := by decide +kernel
theorem dX8_restore_1 : decode cX8_restore 1 = .ok (.getfield 22, 3) := by decide +kernel
theorem dX8_restore_4 : decode cX8_restore 4 = .ok (.ifCond .ne 14, 3) := by decide +kernel
theorem dX8_restore_7 : decode cX8_restore 7 = .ok (.new 291, 3) := by decide +kernel
theorem dX8_restore_10 : decode cX8_restore 10 = .ok (.dup, 1) := by decide +kernel
theorem dX8_restore_11 : decode cX8_restore 11 = .ok (.ldc_w 370, 3) := by decide +kernel
theorem dX8_restore_14 : decode cX8_restore 14 = .ok (.invokespecial 295, 3) := by decide +kernel
theorem dX8_restore_17 : decode cX8_restore 17 = .ok (.athrow, 1) := by decide +kernel
theorem dX8_restore_18 : decode cX8_restore 18 = .ok (.aload_n 0, 1) := by decide +kernel
theorem dX8_restore_19 : decode cX8_restore 19 = .ok (.getfield 12, 3) := by decide +kernel
theorem dX8_restore_22 : decode cX8_restore 22 = .ok (.aload_n 0, 1) := by decide +kernel
theorem dX8_restore_23 : decode cX8_restore 23 = .ok (.getfield 19, 3) := by decide +kernel
theorem dX8_restore_26 : decode cX8_restore 26 = .ok (.invokevirtual 340, 3) := by decide +kernel
theorem dX8_restore_29 : decode cX8_restore 29 = .ok (.aload_n 0, 1) := by decide +kernel
theorem dX8_restore_30 : decode cX8_restore 30 = .ok (.getfield 29, 3) := by decide +kernel
theorem dX8_restore_33 : decode cX8_restore 33 = .ok (.invokevirtual 80, 3) := by decide +kernel
theorem dX8_restore_36 : decode cX8_restore 36 = .ok (.aload_n 0, 1) := by decide +kernel
theorem dX8_restore_37 : decode cX8_restore 37 = .ok (.getfield 12, 3) := by decide +kernel
theorem dX8_restore_40 : decode cX8_restore 40 = .ok (.getfield 67, 3) := by decide +kernel
theorem dX8_restore_43 : decode cX8_restore 43 = .ok (.invokestatic 71, 3) := by decide +kernel
theorem dX8_restore_46 : decode cX8_restore 46 = .ok (.ireturn, 1) := by decide +kernel
theorem dX8_startChange_0 : decode cX8_startChange 0 = .ok (.iload_n 1, 1) := by decide +kernel
theorem dX8_startChange_1 : decode cX8_startChange 1 = .ok (.iconst 1, 1) := by decide +kernel
theorem dX8_startChange_2 : decode cX8_startChange 2 = .ok (.if_icmp .ne 14, 3) := by decide +kernel
theorem dX8_startChange_5 : decode cX8_startChange 5 = .ok (.new 123, 3) := by decide +kernel
theorem dX8_startChange_8 : decode cX8_startChange 8 = .ok (.dup, 1) := by decide +kernel
theorem dX8_startChange_9 : decode cX8_startChange 9 = .ok (.ldc_w 372, 3) := by decide +kernel
theorem dX8_startChange_12 : decode cX8_startChange 12 = .ok (.invokespecial 127, 3) := by decide +kernel
theorem dX8_startChange_15 : decode cX8_startChange 15 = .ok (.athrow, 1) := by decide +kernel
theorem dX8_startChange_16 : decode cX8_startChange 16 = .ok (.iload_n 1, 1) := by decide +kernel
theorem dX8_startChange_17 : decode cX8_startChange 17 = .ok (.iconst 2, 1) := by decide +kernel
theorem dX8_startChange_18 : decode cX8_startChange 18 = .ok (.if_icmp .ne 14, 3) := by decide +kernel
theorem dX8_startChange_21 : decode cX8_startChange 21 = .ok (.new 130, 3) := by decide +kernel
theorem dX8_startChange_24 : decode cX8_startChange 24 = .ok (.dup, 1) := by decide +kernel
theorem dX8_startChange_25 : decode cX8_startChange 25 = .ok (.ldc_w 374, 3) := by decide +kernel
theorem dX8_startChange_28 : decode cX8_startChange 28 = .ok (.invokespecial 134, 3) := by decide +kernel
theorem dX8_startChange_31 : decode cX8_startChange 31 = .ok (.athrow, 1) := by decide +kernel
theorem dX8_startChange_32 : decode cX8_startChange 32 = .ok (.iload_n 1, 1) := by decide +kernel
theorem dX8_startChange_33 : decode cX8_startChange 33 = .ok (.iconst 3, 1) := by decide +kernel
theorem dX8_startChange_34 : decode cX8_startChange 34 = .ok (.if_icmp .ne 14, 3) := by decide +kernel
theorem dX8_startChange_37 : decode cX8_startChange 37 = .ok (.new 350, 3) := by decide +kernel
theorem dX8_startChange_40 : decode cX8_startChange 40 = .ok (.dup, 1) := by decide +kernel
theorem dX8_startChange_41 : decode cX8_startChange 41 = .ok (.ldc_w 376, 3) := by decide +kernel
theorem dX8_startChange_44 : decode cX8_startChange 44 = .ok (.invokespecial 354, 3) := by decide +kernel
theorem dX8_startChange_47 : decode cX8_startChange 47 = .ok (.athrow, 1) := by decide +kernel
theorem dX8_startChange_48 : decode cX8_startChange 48 = .ok (.aload_n 0, 1) := by decide +kernel
theorem dX8_startChange_49 : decode cX8_startChange 49 = .ok (.getfield 29, 3) := by decide +kernel
theorem dX8_startChange_52 : decode cX8_startChange 52 = .ok (.aload_n 0, 1) := by decide +kernel
theorem dX8_startChange_53 : decode cX8_startChange 53 = .ok (.getfield 12, 3) := by decide +kernel
theorem dX8_startChange_56 : decode cX8_startChange 56 = .ok (.invokevirtual 358, 3) := by decide +kernel
theorem dX8_startChange_59 : decode cX8_startChange 59 = .ok (.return_, 1) := by decide +kernel
theorem dX8_refuse_0 : decode cX8_refuse 0 = .ok (.aload_n 0, 1) := by decide +kernel
theorem dX8_refuse_1 : decode cX8_refuse 1 = .ok (.iload_n 1, 1) := by decide +kernel
theorem dX8_refuse_2 : decode cX8_refuse 2 = .ok (.putfield 61, 3) := by decide +kernel
theorem dX8_refuse_5 : decode cX8_refuse 5 = .ok (.aload_n 0, 1) := by decide +kernel
theorem dX8_refuse_6 : decode cX8_refuse 6 = .ok (.iload_n 2, 1) := by decide +kernel
theorem dX8_refuse_7 : decode cX8_refuse 7 = .ok (.putfield 64, 3) := by decide +kernel
theorem dX8_refuse_10 : decode cX8_refuse 10 = .ok (.iconst 3, 1) := by decide +kernel
theorem dX8_refuse_11 : decode cX8_refuse 11 = .ok (.ireturn, 1) := by decide +kernel
theorem dX8_faultOfSign_0 : decode cX8_faultOfSign 0 = .ok (.iload_n 1, 1) := by decide +kernel
theorem dX8_faultOfSign_1 : decode cX8_faultOfSign 1 = .ok (.invokestatic 119, 3) := by decide +kernel
theorem dX8_faultOfSign_4 : decode cX8_faultOfSign 4 = .ok (.ifCond .ne 5, 3) := by decide +kernel
theorem dX8_faultOfSign_7 : decode cX8_faultOfSign 7 = .ok (.iconst 1, 1) := by decide +kernel
theorem dX8_faultOfSign_8 : decode cX8_faultOfSign 8 = .ok (.ireturn, 1) := by decide +kernel
theorem dX8_faultOfSign_9 : decode cX8_faultOfSign 9 = .ok (.iload_n 2, 1) := by decide +kernel
theorem dX8_faultOfSign_10 : decode cX8_faultOfSign 10 = .ok (.invokestatic 156, 3) := by decide +kernel
theorem dX8_faultOfSign_13 : decode cX8_faultOfSign 13 = .ok (.ifCond .eq 15, 3) := by decide +kernel
theorem dX8_faultOfSign_16 : decode cX8_faultOfSign 16 = .ok (.iload_n 3, 1) := by decide +kernel
theorem dX8_faultOfSign_17 : decode cX8_faultOfSign 17 = .ok (.ifCond .lt 11, 3) := by decide +kernel
theorem dX8_faultOfSign_20 : decode cX8_faultOfSign 20 = .ok (.iload_n 3, 1) := by decide +kernel
theorem dX8_faultOfSign_21 : decode cX8_faultOfSign 21 = .ok (.iload_n 2, 1) := by decide +kernel
theorem dX8_faultOfSign_22 : decode cX8_faultOfSign 22 = .ok (.invokestatic 378, 3) := by decide +kernel
theorem dX8_faultOfSign_25 : decode cX8_faultOfSign 25 = .ok (.if_icmp .le 5, 3) := by decide +kernel
theorem dX8_faultOfSign_28 : decode cX8_faultOfSign 28 = .ok (.iconst 2, 1) := by decide +kernel
theorem dX8_faultOfSign_29 : decode cX8_faultOfSign 29 = .ok (.ireturn, 1) := by decide +kernel
theorem dX8_faultOfSign_30 : decode cX8_faultOfSign 30 = .ok (.aload_n 0, 1) := by decide +kernel
theorem dX8_faultOfSign_31 : decode cX8_faultOfSign 31 = .ok (.getfield 12, 3) := by decide +kernel
theorem dX8_faultOfSign_34 : decode cX8_faultOfSign 34 = .ok (.getfield 67, 3) := by decide +kernel
theorem dX8_faultOfSign_37 : decode cX8_faultOfSign 37 = .ok (.iload_n 2, 1) := by decide +kernel
theorem dX8_faultOfSign_38 : decode cX8_faultOfSign 38 = .ok (.iload_n 3, 1) := by decide +kernel
theorem dX8_faultOfSign_39 : decode cX8_faultOfSign 39 = .ok (.invokestatic 91, 3) := by decide +kernel
theorem dX8_faultOfSign_42 : decode cX8_faultOfSign 42 = .ok (.invokestatic 381, 3) := by decide +kernel
theorem dX8_faultOfSign_45 : decode cX8_faultOfSign 45 = .ok (.istore 4, 2) := by decide +kernel
theorem dX8_faultOfSign_47 : decode cX8_faultOfSign 47 = .ok (.iload 4, 2) := by decide +kernel
theorem dX8_faultOfSign_49 : decode cX8_faultOfSign 49 = .ok (.ifCond .lt 13, 3) := by decide +kernel
theorem dX8_faultOfSign_52 : decode cX8_faultOfSign 52 = .ok (.aload_n 0, 1) := by decide +kernel
theorem dX8_faultOfSign_53 : decode cX8_faultOfSign 53 = .ok (.iconst 1, 1) := by decide +kernel
theorem dX8_faultOfSign_54 : decode cX8_faultOfSign 54 = .ok (.iload 4, 2) := by decide +kernel
theorem dX8_faultOfSign_56 : decode cX8_faultOfSign 56 = .ok (.invokevirtual 384, 3) := by decide +kernel
theorem dX8_faultOfSign_59 : decode cX8_faultOfSign 59 = .ok (.goto 4, 3) := by decide +kernel
theorem dX8_faultOfSign_62 : decode cX8_faultOfSign 62 = .ok (.iconst 0, 1) := by decide +kernel
theorem dX8_faultOfSign_63 : decode cX8_faultOfSign 63 = .ok (.ireturn, 1) := by decide +kernel
theorem dX8_faultOfUnsign_0 : decode cX8_faultOfUnsign 0 = .ok (.iload_n 1, 1) := by decide +kernel
theorem dX8_faultOfUnsign_1 : decode cX8_faultOfUnsign 1 = .ok (.invokestatic 119, 3) := by decide +kernel
theorem dX8_faultOfUnsign_4 : decode cX8_faultOfUnsign 4 = .ok (.ifCond .ne 5, 3) := by decide +kernel
theorem dX8_faultOfUnsign_7 : decode cX8_faultOfUnsign 7 = .ok (.iconst 1, 1) := by decide +kernel
theorem dX8_faultOfUnsign_8 : decode cX8_faultOfUnsign 8 = .ok (.ireturn, 1) := by decide +kernel
theorem dX8_faultOfUnsign_9 : decode cX8_faultOfUnsign 9 = .ok (.aload_n 0, 1) := by decide +kernel
theorem dX8_faultOfUnsign_10 : decode cX8_faultOfUnsign 10 = .ok (.iload_n 1, 1) := by decide +kernel
theorem dX8_faultOfUnsign_11 : decode cX8_faultOfUnsign 11 = .ok (.invokevirtual 387, 3) := by decide +kernel
theorem dX8_faultOfUnsign_14 : decode cX8_faultOfUnsign 14 = .ok (.ireturn, 1) := by decide +kernel
theorem dX8_faultOfPriority_0 : decode cX8_faultOfPriority 0 = .ok (.iload_n 1, 1) := by decide +kernel
theorem dX8_faultOfPriority_1 : decode cX8_faultOfPriority 1 = .ok (.invokestatic 119, 3) := by decide +kernel
theorem dX8_faultOfPriority_4 : decode cX8_faultOfPriority 4 = .ok (.ifCond .ne 5, 3) := by decide +kernel
theorem dX8_faultOfPriority_7 : decode cX8_faultOfPriority 7 = .ok (.iconst 1, 1) := by decide +kernel
theorem dX8_faultOfPriority_8 : decode cX8_faultOfPriority 8 = .ok (.ireturn, 1) := by decide +kernel
theorem dX8_faultOfPriority_9 : decode cX8_faultOfPriority 9 = .ok (.iload_n 2, 1) := by decide +kernel
theorem dX8_faultOfPriority_10 : decode cX8_faultOfPriority 10 = .ok (.ifCond .lt 9, 3) := by decide +kernel
theorem dX8_faultOfPriority_13 : decode cX8_faultOfPriority 13 = .ok (.iload_n 2, 1) := by decide +kernel
theorem dX8_faultOfPriority_14 : decode cX8_faultOfPriority 14 = .ok (.bipush 9, 2) := by decide +kernel
theorem dX8_faultOfPriority_16 : decode cX8_faultOfPriority 16 = .ok (.if_icmp .le 5, 3) := by decide +kernel
theorem dX8_faultOfPriority_19 : decode cX8_faultOfPriority 19 = .ok (.iconst 2, 1) := by decide +kernel
theorem dX8_faultOfPriority_20 : decode cX8_faultOfPriority 20 = .ok (.ireturn, 1) := by decide +kernel
theorem dX8_faultOfPriority_21 : decode cX8_faultOfPriority 21 = .ok (.aload_n 0, 1) := by decide +kernel
theorem dX8_faultOfPriority_22 : decode cX8_faultOfPriority 22 = .ok (.getfield 12, 3) := by decide +kernel
theorem dX8_faultOfPriority_25 : decode cX8_faultOfPriority 25 = .ok (.getfield 248, 3) := by decide +kernel
theorem dX8_faultOfPriority_28 : decode cX8_faultOfPriority 28 = .ok (.iload_n 1, 1) := by decide +kernel
theorem dX8_faultOfPriority_29 : decode cX8_faultOfPriority 29 = .ok (.invokevirtual 215, 3) := by decide +kernel
theorem dX8_faultOfPriority_32 : decode cX8_faultOfPriority 32 = .ok (.iload_n 2, 1) := by decide +kernel
theorem dX8_faultOfPriority_33 : decode cX8_faultOfPriority 33 = .ok (.if_icmp .ne 12, 3) := by decide +kernel
theorem dX8_faultOfPriority_36 : decode cX8_faultOfPriority 36 = .ok (.aload_n 0, 1) := by decide +kernel
theorem dX8_faultOfPriority_37 : decode cX8_faultOfPriority 37 = .ok (.iconst 3, 1) := by decide +kernel
theorem dX8_faultOfPriority_38 : decode cX8_faultOfPriority 38 = .ok (.iload_n 2, 1) := by decide +kernel
theorem dX8_faultOfPriority_39 : decode cX8_faultOfPriority 39 = .ok (.invokevirtual 384, 3) := by decide +kernel
theorem dX8_faultOfPriority_42 : decode cX8_faultOfPriority 42 = .ok (.goto 4, 3) := by decide +kernel
theorem dX8_faultOfPriority_45 : decode cX8_faultOfPriority 45 = .ok (.iconst 0, 1) := by decide +kernel
theorem dX8_faultOfPriority_46 : decode cX8_faultOfPriority 46 = .ok (.ireturn, 1) := by decide +kernel
theorem dX8_faultOfPlatform_0 : decode cX8_faultOfPlatform 0 = .ok (.iload_n 1, 1) := by decide +kernel
theorem dX8_faultOfPlatform_1 : decode cX8_faultOfPlatform 1 = .ok (.invokestatic 138, 3) := by decide +kernel
theorem dX8_faultOfPlatform_4 : decode cX8_faultOfPlatform 4 = .ok (.ifCond .ne 5, 3) := by decide +kernel
theorem dX8_faultOfPlatform_7 : decode cX8_faultOfPlatform 7 = .ok (.iconst 1, 1) := by decide +kernel
theorem dX8_faultOfPlatform_8 : decode cX8_faultOfPlatform 8 = .ok (.ireturn, 1) := by decide +kernel
theorem dX8_faultOfPlatform_9 : decode cX8_faultOfPlatform 9 = .ok (.iload_n 2, 1) := by decide +kernel
theorem dX8_faultOfPlatform_10 : decode cX8_faultOfPlatform 10 = .ok (.ifCond .lt 18, 3) := by decide +kernel
theorem dX8_faultOfPlatform_13 : decode cX8_faultOfPlatform 13 = .ok (.iload_n 2, 1) := by decide +kernel
theorem dX8_faultOfPlatform_14 : decode cX8_faultOfPlatform 14 = .ok (.iconst 5, 1) := by decide +kernel
theorem dX8_faultOfPlatform_15 : decode cX8_faultOfPlatform 15 = .ok (.if_icmp .gt 13, 3) := by decide +kernel
theorem dX8_faultOfPlatform_18 : decode cX8_faultOfPlatform 18 = .ok (.iload_n 3, 1) := by decide +kernel
theorem dX8_faultOfPlatform_19 : decode cX8_faultOfPlatform 19 = .ok (.ifCond .lt 9, 3) := by decide +kernel
theorem dX8_faultOfPlatform_22 : decode cX8_faultOfPlatform 22 = .ok (.iload_n 3, 1) := by decide +kernel
theorem dX8_faultOfPlatform_23 : decode cX8_faultOfPlatform 23 = .ok (.bipush 127, 2) := by decide +kernel
theorem dX8_faultOfPlatform_25 : decode cX8_faultOfPlatform 25 = .ok (.if_icmp .le 5, 3) := by decide +kernel
theorem dX8_faultOfPlatform_28 : decode cX8_faultOfPlatform 28 = .ok (.iconst 2, 1) := by decide +kernel
theorem dX8_faultOfPlatform_29 : decode cX8_faultOfPlatform 29 = .ok (.ireturn, 1) := by decide +kernel
theorem dX8_faultOfPlatform_30 : decode cX8_faultOfPlatform 30 = .ok (.iconst 0, 1) := by decide +kernel
theorem dX8_faultOfPlatform_31 : decode cX8_faultOfPlatform 31 = .ok (.ireturn, 1) := by decide +kernel
theorem dX8_faultOfWhistle_0 : decode cX8_faultOfWhistle 0 = .ok (.iload_n 1, 1) := by decide +kernel
theorem dX8_faultOfWhistle_1 : decode cX8_faultOfWhistle 1 = .ok (.invokestatic 119, 3) := by decide +kernel
theorem dX8_faultOfWhistle_4 : decode cX8_faultOfWhistle 4 = .ok (.ifCond .ne 5, 3) := by decide +kernel
theorem dX8_faultOfWhistle_7 : decode cX8_faultOfWhistle 7 = .ok (.iconst 1, 1) := by decide +kernel
theorem dX8_faultOfWhistle_8 : decode cX8_faultOfWhistle 8 = .ok (.ireturn, 1) := by decide +kernel
theorem dX8_faultOfWhistle_9 : decode cX8_faultOfWhistle 9 = .ok (.aload_n 0, 1) := by decide +kernel
theorem dX8_faultOfWhistle_10 : decode cX8_faultOfWhistle 10 = .ok (.iload_n 1, 1) := by decide +kernel
theorem dX8_faultOfWhistle_11 : decode cX8_faultOfWhistle 11 = .ok (.iload_n 1, 1) := by decide +kernel
theorem dX8_faultOfWhistle_12 : decode cX8_faultOfWhistle 12 = .ok (.invokevirtual 390, 3) := by decide +kernel
theorem dX8_faultOfWhistle_15 : decode cX8_faultOfWhistle 15 = .ok (.ireturn, 1) := by decide +kernel
theorem dX8_faultOfLie_0 : decode cX8_faultOfLie 0 = .ok (.iload_n 1, 1) := by decide +kernel
theorem dX8_faultOfLie_1 : decode cX8_faultOfLie 1 = .ok (.invokestatic 119, 3) := by decide +kernel
theorem dX8_faultOfLie_4 : decode cX8_faultOfLie 4 = .ok (.ifCond .eq 10, 3) := by decide +kernel
theorem dX8_faultOfLie_7 : decode cX8_faultOfLie 7 = .ok (.iload_n 2, 1) := by decide +kernel
theorem dX8_faultOfLie_8 : decode cX8_faultOfLie 8 = .ok (.invokestatic 119, 3) := by decide +kernel
theorem dX8_faultOfLie_11 : decode cX8_faultOfLie 11 = .ok (.ifCond .ne 5, 3) := by decide +kernel
theorem dX8_faultOfLie_14 : decode cX8_faultOfLie 14 = .ok (.iconst 1, 1) := by decide +kernel
theorem dX8_faultOfLie_15 : decode cX8_faultOfLie 15 = .ok (.ireturn, 1) := by decide +kernel
theorem dX8_faultOfLie_16 : decode cX8_faultOfLie 16 = .ok (.iload_n 1, 1) := by decide +kernel
theorem dX8_faultOfLie_17 : decode cX8_faultOfLie 17 = .ok (.iload_n 2, 1) := by decide +kernel
theorem dX8_faultOfLie_18 : decode cX8_faultOfLie 18 = .ok (.if_icmp .ne 5, 3) := by decide +kernel
theorem dX8_faultOfLie_21 : decode cX8_faultOfLie 21 = .ok (.iconst 2, 1) := by decide +kernel
theorem dX8_faultOfLie_22 : decode cX8_faultOfLie 22 = .ok (.ireturn, 1) := by decide +kernel
theorem dX8_faultOfLie_23 : decode cX8_faultOfLie 23 = .ok (.aload_n 0, 1) := by decide +kernel
theorem dX8_faultOfLie_24 : decode cX8_faultOfLie 24 = .ok (.iload_n 1, 1) := by decide +kernel
theorem dX8_faultOfLie_25 : decode cX8_faultOfLie 25 = .ok (.iload_n 2, 1) := by decide +kernel
theorem dX8_faultOfLie_26 : decode cX8_faultOfLie 26 = .ok (.invokevirtual 390, 3) := by decide +kernel
theorem dX8_faultOfLie_29 : decode cX8_faultOfLie 29 = .ok (.ireturn, 1) := by decide +kernel
theorem dX8_faultOfBlow_0 : decode cX8_faultOfBlow 0 = .ok (.aload_n 0, 1) := by decide +kernel
theorem dX8_faultOfBlow_1 : decode cX8_faultOfBlow 1 = .ok (.iload_n 2, 1) := by decide +kernel
theorem dX8_faultOfBlow_2 : decode cX8_faultOfBlow 2 = .ok (.invokevirtual 387, 3) := by decide +kernel
theorem dX8_faultOfBlow_5 : decode cX8_faultOfBlow 5 = .ok (.istore_n 3, 1) := by decide +kernel
theorem dX8_faultOfBlow_6 : decode cX8_faultOfBlow 6 = .ok (.iload_n 3, 1) := by decide +kernel
theorem dX8_faultOfBlow_7 : decode cX8_faultOfBlow 7 = .ok (.ifCond .ne 9, 3) := by decide +kernel
theorem dX8_faultOfBlow_10 : decode cX8_faultOfBlow 10 = .ok (.aload_n 0, 1) := by decide +kernel
theorem dX8_faultOfBlow_11 : decode cX8_faultOfBlow 11 = .ok (.iload_n 1, 1) := by decide +kernel
theorem dX8_faultOfBlow_12 : decode cX8_faultOfBlow 12 = .ok (.invokevirtual 393, 3) := by decide +kernel
theorem dX8_faultOfBlow_15 : decode cX8_faultOfBlow 15 = .ok (.istore_n 3, 1) := by decide +kernel
theorem dX8_faultOfBlow_16 : decode cX8_faultOfBlow 16 = .ok (.iload_n 3, 1) := by decide +kernel
theorem dX8_faultOfBlow_17 : decode cX8_faultOfBlow 17 = .ok (.ifCond .ne 27, 3) := by decide +kernel
theorem dX8_faultOfBlow_20 : decode cX8_faultOfBlow 20 = .ok (.aload_n 0, 1) := by decide +kernel
theorem dX8_faultOfBlow_21 : decode cX8_faultOfBlow 21 = .ok (.getfield 12, 3) := by decide +kernel
theorem dX8_faultOfBlow_24 : decode cX8_faultOfBlow 24 = .ok (.iload_n 1, 1) := by decide +kernel
theorem dX8_faultOfBlow_25 : decode cX8_faultOfBlow 25 = .ok (.invokevirtual 396, 3) := by decide +kernel
theorem dX8_faultOfBlow_28 : decode cX8_faultOfBlow 28 = .ok (.ifCond .eq 16, 3) := by decide +kernel
theorem dX8_faultOfBlow_31 : decode cX8_faultOfBlow 31 = .ok (.aload_n 0, 1) := by decide +kernel
theorem dX8_faultOfBlow_32 : decode cX8_faultOfBlow 32 = .ok (.iconst 5, 1) := by decide +kernel
theorem dX8_faultOfBlow_33 : decode cX8_faultOfBlow 33 = .ok (.aload_n 0, 1) := by decide +kernel
theorem dX8_faultOfBlow_34 : decode cX8_faultOfBlow 34 = .ok (.getfield 12, 3) := by decide +kernel
theorem dX8_faultOfBlow_37 : decode cX8_faultOfBlow 37 = .ok (.getfield 399, 3) := by decide +kernel
theorem dX8_faultOfBlow_40 : decode cX8_faultOfBlow 40 = .ok (.invokevirtual 384, 3) := by decide +kernel
theorem dX8_faultOfBlow_43 : decode cX8_faultOfBlow 43 = .ok (.istore_n 3, 1) := by decide +kernel
theorem dX8_faultOfBlow_44 : decode cX8_faultOfBlow 44 = .ok (.aload_n 0, 1) := by decide +kernel
theorem dX8_faultOfBlow_45 : decode cX8_faultOfBlow 45 = .ok (.getfield 12, 3) := by decide +kernel
theorem dX8_faultOfBlow_48 : decode cX8_faultOfBlow 48 = .ok (.iload_n 1, 1) := by decide +kernel
theorem dX8_faultOfBlow_49 : decode cX8_faultOfBlow 49 = .ok (.iload_n 2, 1) := by decide +kernel
theorem dX8_faultOfBlow_50 : decode cX8_faultOfBlow 50 = .ok (.invokevirtual 402, 3) := by decide +kernel
theorem dX8_faultOfBlow_53 : decode cX8_faultOfBlow 53 = .ok (.aload_n 0, 1) := by decide +kernel
theorem dX8_faultOfBlow_54 : decode cX8_faultOfBlow 54 = .ok (.getfield 12, 3) := by decide +kernel
theorem dX8_faultOfBlow_57 : decode cX8_faultOfBlow 57 = .ok (.getfield 251, 3) := by decide +kernel
theorem dX8_faultOfBlow_60 : decode cX8_faultOfBlow 60 = .ok (.iload_n 1, 1) := by decide +kernel
theorem dX8_faultOfBlow_61 : decode cX8_faultOfBlow 61 = .ok (.invokevirtual 215, 3) := by decide +kernel
theorem dX8_faultOfBlow_64 : decode cX8_faultOfBlow 64 = .ok (.isub, 1) := by decide +kernel
theorem dX8_faultOfBlow_65 : decode cX8_faultOfBlow 65 = .ok (.istore 4, 2) := by decide +kernel
theorem dX8_faultOfBlow_67 : decode cX8_faultOfBlow 67 = .ok (.iload_n 3, 1) := by decide +kernel
theorem dX8_faultOfBlow_68 : decode cX8_faultOfBlow 68 = .ok (.ifCond .ne 17, 3) := by decide +kernel
theorem dX8_faultOfBlow_71 : decode cX8_faultOfBlow 71 = .ok (.iload 4, 2) := by decide +kernel
theorem dX8_faultOfBlow_73 : decode cX8_faultOfBlow 73 = .ok (.ifCond .le 12, 3) := by decide +kernel
theorem dX8_faultOfBlow_76 : decode cX8_faultOfBlow 76 = .ok (.aload_n 0, 1) := by decide +kernel
theorem dX8_faultOfBlow_77 : decode cX8_faultOfBlow 77 = .ok (.bipush 6, 2) := by decide +kernel
theorem dX8_faultOfBlow_79 : decode cX8_faultOfBlow 79 = .ok (.iload 4, 2) := by decide +kernel
theorem dX8_faultOfBlow_81 : decode cX8_faultOfBlow 81 = .ok (.invokevirtual 384, 3) := by decide +kernel
theorem dX8_faultOfBlow_84 : decode cX8_faultOfBlow 84 = .ok (.istore_n 3, 1) := by decide +kernel
theorem dX8_faultOfBlow_85 : decode cX8_faultOfBlow 85 = .ok (.iload_n 3, 1) := by decide +kernel
theorem dX8_faultOfBlow_86 : decode cX8_faultOfBlow 86 = .ok (.ireturn, 1) := by decide +kernel
theorem dX8_faultOfExpose_0 : decode cX8_faultOfExpose 0 = .ok (.iload_n 1, 1) := by decide +kernel
theorem dX8_faultOfExpose_1 : decode cX8_faultOfExpose 1 = .ok (.invokestatic 119, 3) := by decide +kernel
theorem dX8_faultOfExpose_4 : decode cX8_faultOfExpose 4 = .ok (.ifCond .ne 5, 3) := by decide +kernel
theorem dX8_faultOfExpose_7 : decode cX8_faultOfExpose 7 = .ok (.iconst 1, 1) := by decide +kernel
theorem dX8_faultOfExpose_8 : decode cX8_faultOfExpose 8 = .ok (.ireturn, 1) := by decide +kernel
theorem dX8_faultOfExpose_9 : decode cX8_faultOfExpose 9 = .ok (.aload_n 0, 1) := by decide +kernel
theorem dX8_faultOfExpose_10 : decode cX8_faultOfExpose 10 = .ok (.getfield 12, 3) := by decide +kernel
theorem dX8_faultOfExpose_13 : decode cX8_faultOfExpose 13 = .ok (.iload_n 1, 1) := by decide +kernel
theorem dX8_faultOfExpose_14 : decode cX8_faultOfExpose 14 = .ok (.invokevirtual 405, 3) := by decide +kernel
theorem dX8_faultOfExpose_17 : decode cX8_faultOfExpose 17 = .ok (.ifCond .ge 19, 3) := by decide +kernel
theorem dX8_faultOfExpose_20 : decode cX8_faultOfExpose 20 = .ok (.aload_n 0, 1) := by decide +kernel
theorem dX8_faultOfExpose_21 : decode cX8_faultOfExpose 21 = .ok (.bipush 7, 2) := by decide +kernel
theorem dX8_faultOfExpose_23 : decode cX8_faultOfExpose 23 = .ok (.aload_n 0, 1) := by decide +kernel
theorem dX8_faultOfExpose_24 : decode cX8_faultOfExpose 24 = .ok (.getfield 12, 3) := by decide +kernel
theorem dX8_faultOfExpose_27 : decode cX8_faultOfExpose 27 = .ok (.invokevirtual 408, 3) := by decide +kernel
theorem dX8_faultOfExpose_30 : decode cX8_faultOfExpose 30 = .ok (.invokevirtual 384, 3) := by decide +kernel
theorem dX8_faultOfExpose_33 : decode cX8_faultOfExpose 33 = .ok (.goto 4, 3) := by decide +kernel
theorem dX8_faultOfExpose_36 : decode cX8_faultOfExpose 36 = .ok (.iconst 0, 1) := by decide +kernel
theorem dX8_faultOfExpose_37 : decode cX8_faultOfExpose 37 = .ok (.ireturn, 1) := by decide +kernel
theorem dX8_faultOfMute_0 : decode cX8_faultOfMute 0 = .ok (.iload_n 1, 1) := by decide +kernel
theorem dX8_faultOfMute_1 : decode cX8_faultOfMute 1 = .ok (.invokestatic 119, 3) := by decide +kernel
theorem dX8_faultOfMute_4 : decode cX8_faultOfMute 4 = .ok (.ifCond .ne 5, 3) := by decide +kernel
theorem dX8_faultOfMute_7 : decode cX8_faultOfMute 7 = .ok (.iconst 1, 1) := by decide +kernel
theorem dX8_faultOfMute_8 : decode cX8_faultOfMute 8 = .ok (.ireturn, 1) := by decide +kernel
theorem dX8_faultOfMute_9 : decode cX8_faultOfMute 9 = .ok (.iload_n 2, 1) := by decide +kernel
theorem dX8_faultOfMute_10 : decode cX8_faultOfMute 10 = .ok (.iconst 1, 1) := by decide +kernel
theorem dX8_faultOfMute_11 : decode cX8_faultOfMute 11 = .ok (.if_icmp .lt 9, 3) := by decide +kernel
theorem dX8_faultOfMute_14 : decode cX8_faultOfMute 14 = .ok (.iload_n 2, 1) := by decide +kernel
theorem dX8_faultOfMute_15 : decode cX8_faultOfMute 15 = .ok (.bipush 9, 2) := by decide +kernel
theorem dX8_faultOfMute_17 : decode cX8_faultOfMute 17 = .ok (.if_icmp .le 5, 3) := by decide +kernel
theorem dX8_faultOfMute_20 : decode cX8_faultOfMute 20 = .ok (.iconst 2, 1) := by decide +kernel
theorem dX8_faultOfMute_21 : decode cX8_faultOfMute 21 = .ok (.ireturn, 1) := by decide +kernel
theorem dX8_faultOfMute_22 : decode cX8_faultOfMute 22 = .ok (.aload_n 0, 1) := by decide +kernel
theorem dX8_faultOfMute_23 : decode cX8_faultOfMute 23 = .ok (.iload_n 1, 1) := by decide +kernel
theorem dX8_faultOfMute_24 : decode cX8_faultOfMute 24 = .ok (.invokevirtual 393, 3) := by decide +kernel
theorem dX8_faultOfMute_27 : decode cX8_faultOfMute 27 = .ok (.ireturn, 1) := by decide +kernel
theorem dX8_faultOfFine_0 : decode cX8_faultOfFine 0 = .ok (.iload_n 1, 1) := by decide +kernel
theorem dX8_faultOfFine_1 : decode cX8_faultOfFine 1 = .ok (.invokestatic 119, 3) := by decide +kernel
theorem dX8_faultOfFine_4 : decode cX8_faultOfFine 4 = .ok (.ifCond .ne 5, 3) := by decide +kernel
theorem dX8_faultOfFine_7 : decode cX8_faultOfFine 7 = .ok (.iconst 1, 1) := by decide +kernel
theorem dX8_faultOfFine_8 : decode cX8_faultOfFine 8 = .ok (.ireturn, 1) := by decide +kernel
theorem dX8_faultOfFine_9 : decode cX8_faultOfFine 9 = .ok (.aload_n 0, 1) := by decide +kernel
theorem dX8_faultOfFine_10 : decode cX8_faultOfFine 10 = .ok (.getfield 12, 3) := by decide +kernel
theorem dX8_faultOfFine_13 : decode cX8_faultOfFine 13 = .ok (.getfield 411, 3) := by decide +kernel
theorem dX8_faultOfFine_16 : decode cX8_faultOfFine 16 = .ok (.iload_n 1, 1) := by decide +kernel
theorem dX8_faultOfFine_17 : decode cX8_faultOfFine 17 = .ok (.invokevirtual 215, 3) := by decide +kernel
theorem dX8_faultOfFine_20 : decode cX8_faultOfFine 20 = .ok (.ifCond .ne 21, 3) := by decide +kernel
theorem dX8_faultOfFine_23 : decode cX8_faultOfFine 23 = .ok (.aload_n 0, 1) := by decide +kernel
theorem dX8_faultOfFine_24 : decode cX8_faultOfFine 24 = .ok (.bipush 8, 2) := by decide +kernel
theorem dX8_faultOfFine_26 : decode cX8_faultOfFine 26 = .ok (.aload_n 0, 1) := by decide +kernel
theorem dX8_faultOfFine_27 : decode cX8_faultOfFine 27 = .ok (.getfield 12, 3) := by decide +kernel
theorem dX8_faultOfFine_30 : decode cX8_faultOfFine 30 = .ok (.getfield 414, 3) := by decide +kernel
theorem dX8_faultOfFine_33 : decode cX8_faultOfFine 33 = .ok (.iload_n 1, 1) := by decide +kernel
theorem dX8_faultOfFine_34 : decode cX8_faultOfFine 34 = .ok (.invokevirtual 215, 3) := by decide +kernel
theorem dX8_faultOfFine_37 : decode cX8_faultOfFine 37 = .ok (.invokevirtual 384, 3) := by decide +kernel
theorem dX8_faultOfFine_40 : decode cX8_faultOfFine 40 = .ok (.ireturn, 1) := by decide +kernel
theorem dX8_faultOfFine_41 : decode cX8_faultOfFine 41 = .ok (.aload_n 0, 1) := by decide +kernel
theorem dX8_faultOfFine_42 : decode cX8_faultOfFine 42 = .ok (.getfield 12, 3) := by decide +kernel
theorem dX8_faultOfFine_45 : decode cX8_faultOfFine 45 = .ok (.iload_n 1, 1) := by decide +kernel
theorem dX8_faultOfFine_46 : decode cX8_faultOfFine 46 = .ok (.invokevirtual 417, 3) := by decide +kernel
theorem dX8_faultOfFine_49 : decode cX8_faultOfFine 49 = .ok (.aload_n 0, 1) := by decide +kernel
theorem dX8_faultOfFine_50 : decode cX8_faultOfFine 50 = .ok (.getfield 12, 3) := by decide +kernel
theorem dX8_faultOfFine_53 : decode cX8_faultOfFine 53 = .ok (.getfield 414, 3) := by decide +kernel
theorem dX8_faultOfFine_56 : decode cX8_faultOfFine 56 = .ok (.iload_n 1, 1) := by decide +kernel
theorem dX8_faultOfFine_57 : decode cX8_faultOfFine 57 = .ok (.invokevirtual 215, 3) := by decide +kernel
theorem dX8_faultOfFine_60 : decode cX8_faultOfFine 60 = .ok (.isub, 1) := by decide +kernel
theorem dX8_faultOfFine_61 : decode cX8_faultOfFine 61 = .ok (.istore_n 2, 1) := by decide +kernel
theorem dX8_faultOfFine_62 : decode cX8_faultOfFine 62 = .ok (.iload_n 2, 1) := by decide +kernel
theorem dX8_faultOfFine_63 : decode cX8_faultOfFine 63 = .ok (.ifCond .le 13, 3) := by decide +kernel
theorem dX8_faultOfFine_66 : decode cX8_faultOfFine 66 = .ok (.aload_n 0, 1) := by decide +kernel
theorem dX8_faultOfFine_67 : decode cX8_faultOfFine 67 = .ok (.bipush 9, 2) := by decide +kernel
theorem dX8_faultOfFine_69 : decode cX8_faultOfFine 69 = .ok (.iload_n 2, 1) := by decide +kernel
theorem dX8_faultOfFine_70 : decode cX8_faultOfFine 70 = .ok (.invokevirtual 384, 3) := by decide +kernel
theorem dX8_faultOfFine_73 : decode cX8_faultOfFine 73 = .ok (.goto 4, 3) := by decide +kernel
theorem dX8_faultOfFine_76 : decode cX8_faultOfFine 76 = .ok (.iconst 0, 1) := by decide +kernel
theorem dX8_faultOfFine_77 : decode cX8_faultOfFine 77 = .ok (.ireturn, 1) := by decide +kernel
theorem dX8_faultOfNoSign_0 : decode cX8_faultOfNoSign 0 = .ok (.aload_n 0, 1) := by decide +kernel
theorem dX8_faultOfNoSign_1 : decode cX8_faultOfNoSign 1 = .ok (.getfield 12, 3) := by decide +kernel
theorem dX8_faultOfNoSign_4 : decode cX8_faultOfNoSign 4 = .ok (.getfield 67, 3) := by decide +kernel
theorem dX8_faultOfNoSign_7 : decode cX8_faultOfNoSign 7 = .ok (.iload_n 1, 1) := by decide +kernel
theorem dX8_faultOfNoSign_8 : decode cX8_faultOfNoSign 8 = .ok (.invokevirtual 215, 3) := by decide +kernel
theorem dX8_faultOfNoSign_11 : decode cX8_faultOfNoSign 11 = .ok (.ifCond .ne 21, 3) := by decide +kernel
theorem dX8_faultOfNoSign_14 : decode cX8_faultOfNoSign 14 = .ok (.aload_n 0, 1) := by decide +kernel
theorem dX8_faultOfNoSign_15 : decode cX8_faultOfNoSign 15 = .ok (.iconst 2, 1) := by decide +kernel
theorem dX8_faultOfNoSign_16 : decode cX8_faultOfNoSign 16 = .ok (.aload_n 0, 1) := by decide +kernel
theorem dX8_faultOfNoSign_17 : decode cX8_faultOfNoSign 17 = .ok (.getfield 12, 3) := by decide +kernel
theorem dX8_faultOfNoSign_20 : decode cX8_faultOfNoSign 20 = .ok (.getfield 67, 3) := by decide +kernel
theorem dX8_faultOfNoSign_23 : decode cX8_faultOfNoSign 23 = .ok (.invokestatic 71, 3) := by decide +kernel
theorem dX8_faultOfNoSign_26 : decode cX8_faultOfNoSign 26 = .ok (.invokevirtual 384, 3) := by decide +kernel
theorem dX8_faultOfNoSign_29 : decode cX8_faultOfNoSign 29 = .ok (.goto 4, 3) := by decide +kernel
theorem dX8_faultOfNoSign_32 : decode cX8_faultOfNoSign 32 = .ok (.iconst 0, 1) := by decide +kernel
theorem dX8_faultOfNoSign_33 : decode cX8_faultOfNoSign 33 = .ok (.ireturn, 1) := by decide +kernel
theorem dX8_faultOfMuted_0 : decode cX8_faultOfMuted 0 = .ok (.aload_n 0, 1) := by decide +kernel
theorem dX8_faultOfMuted_1 : decode cX8_faultOfMuted 1 = .ok (.getfield 12, 3) := by decide +kernel
theorem dX8_faultOfMuted_4 : decode cX8_faultOfMuted 4 = .ok (.getfield 411, 3) := by decide +kernel
theorem dX8_faultOfMuted_7 : decode cX8_faultOfMuted 7 = .ok (.iload_n 1, 1) := by decide +kernel
theorem dX8_faultOfMuted_8 : decode cX8_faultOfMuted 8 = .ok (.invokevirtual 215, 3) := by decide +kernel
theorem dX8_faultOfMuted_11 : decode cX8_faultOfMuted 11 = .ok (.istore_n 2, 1) := by decide +kernel
theorem dX8_faultOfMuted_12 : decode cX8_faultOfMuted 12 = .ok (.iload_n 2, 1) := by decide +kernel
theorem dX8_faultOfMuted_13 : decode cX8_faultOfMuted 13 = .ok (.ifCond .le 12, 3) := by decide +kernel
theorem dX8_faultOfMuted_16 : decode cX8_faultOfMuted 16 = .ok (.aload_n 0, 1) := by decide +kernel
theorem dX8_faultOfMuted_17 : decode cX8_faultOfMuted 17 = .ok (.iconst 4, 1) := by decide +kernel
theorem dX8_faultOfMuted_18 : decode cX8_faultOfMuted 18 = .ok (.iload_n 2, 1) := by decide +kernel
theorem dX8_faultOfMuted_19 : decode cX8_faultOfMuted 19 = .ok (.invokevirtual 384, 3) := by decide +kernel
theorem dX8_faultOfMuted_22 : decode cX8_faultOfMuted 22 = .ok (.goto 4, 3) := by decide +kernel
theorem dX8_faultOfMuted_25 : decode cX8_faultOfMuted 25 = .ok (.iconst 0, 1) := by decide +kernel
theorem dX8_faultOfMuted_26 : decode cX8_faultOfMuted 26 = .ok (.ireturn, 1) := by decide +kernel
theorem dX8_faultOfOrder_0 : decode cX8_faultOfOrder 0 = .ok (.aload_n 0, 1) := by decide +kernel
theorem dX8_faultOfOrder_1 : decode cX8_faultOfOrder 1 = .ok (.getfield 36, 3) := by decide +kernel
theorem dX8_faultOfOrder_4 : decode cX8_faultOfOrder 4 = .ok (.iload_n 1, 1) := by decide +kernel
theorem dX8_faultOfOrder_5 : decode cX8_faultOfOrder 5 = .ok (.invokevirtual 420, 3) := by decide +kernel
theorem dX8_faultOfOrder_8 : decode cX8_faultOfOrder 8 = .ok (.istore_n 2, 1) := by decide +kernel
theorem dX8_faultOfOrder_9 : decode cX8_faultOfOrder 9 = .ok (.aload_n 0, 1) := by decide +kernel
theorem dX8_faultOfOrder_10 : decode cX8_faultOfOrder 10 = .ok (.getfield 36, 3) := by decide +kernel
theorem dX8_faultOfOrder_13 : decode cX8_faultOfOrder 13 = .ok (.iload_n 1, 1) := by decide +kernel
theorem dX8_faultOfOrder_14 : decode cX8_faultOfOrder 14 = .ok (.invokevirtual 423, 3) := by decide +kernel
theorem dX8_faultOfOrder_17 : decode cX8_faultOfOrder 17 = .ok (.istore_n 3, 1) := by decide +kernel
theorem dX8_faultOfOrder_18 : decode cX8_faultOfOrder 18 = .ok (.aload_n 0, 1) := by decide +kernel
theorem dX8_faultOfOrder_19 : decode cX8_faultOfOrder 19 = .ok (.getfield 36, 3) := by decide +kernel
theorem dX8_faultOfOrder_22 : decode cX8_faultOfOrder 22 = .ok (.iload_n 1, 1) := by decide +kernel
theorem dX8_faultOfOrder_23 : decode cX8_faultOfOrder 23 = .ok (.invokevirtual 426, 3) := by decide +kernel
theorem dX8_faultOfOrder_26 : decode cX8_faultOfOrder 26 = .ok (.tableswitch 149 102 120 #[143, 149, 149, 149, 149, 149, 123, 136, 149, 149, 110, 149, 149, 90, 149, 104, 149, 117, 130], 90) := by decide +kernel
theorem dX8_faultOfOrder_116 : decode cX8_faultOfOrder 116 = .ok (.aload_n 0, 1) := by decide +kernel
theorem dX8_faultOfOrder_117 : decode cX8_faultOfOrder 117 = .ok (.iload_n 2, 1) := by decide +kernel
theorem dX8_faultOfOrder_118 : decode cX8_faultOfOrder 118 = .ok (.iload_n 3, 1) := by decide +kernel
theorem dX8_faultOfOrder_119 : decode cX8_faultOfOrder 119 = .ok (.invokestatic 429, 3) := by decide +kernel
theorem dX8_faultOfOrder_122 : decode cX8_faultOfOrder 122 = .ok (.iload_n 3, 1) := by decide +kernel
theorem dX8_faultOfOrder_123 : decode cX8_faultOfOrder 123 = .ok (.invokestatic 431, 3) := by decide +kernel
theorem dX8_faultOfOrder_126 : decode cX8_faultOfOrder 126 = .ok (.invokevirtual 83, 3) := by decide +kernel
theorem dX8_faultOfOrder_129 : decode cX8_faultOfOrder 129 = .ok (.ireturn, 1) := by decide +kernel
theorem dX8_faultOfOrder_130 : decode cX8_faultOfOrder 130 = .ok (.aload_n 0, 1) := by decide +kernel
theorem dX8_faultOfOrder_131 : decode cX8_faultOfOrder 131 = .ok (.iload_n 2, 1) := by decide +kernel
theorem dX8_faultOfOrder_132 : decode cX8_faultOfOrder 132 = .ok (.invokevirtual 100, 3) := by decide +kernel
theorem dX8_faultOfOrder_135 : decode cX8_faultOfOrder 135 = .ok (.ireturn, 1) := by decide +kernel
theorem dX8_faultOfOrder_136 : decode cX8_faultOfOrder 136 = .ok (.aload_n 0, 1) := by decide +kernel
theorem dX8_faultOfOrder_137 : decode cX8_faultOfOrder 137 = .ok (.iload_n 2, 1) := by decide +kernel
theorem dX8_faultOfOrder_138 : decode cX8_faultOfOrder 138 = .ok (.iload_n 3, 1) := by decide +kernel
theorem dX8_faultOfOrder_139 : decode cX8_faultOfOrder 139 = .ok (.invokevirtual 107, 3) := by decide +kernel
theorem dX8_faultOfOrder_142 : decode cX8_faultOfOrder 142 = .ok (.ireturn, 1) := by decide +kernel
theorem dX8_faultOfOrder_143 : decode cX8_faultOfOrder 143 = .ok (.aload_n 0, 1) := by decide +kernel
theorem dX8_faultOfOrder_144 : decode cX8_faultOfOrder 144 = .ok (.iload_n 2, 1) := by decide +kernel
theorem dX8_faultOfOrder_145 : decode cX8_faultOfOrder 145 = .ok (.invokevirtual 168, 3) := by decide +kernel
theorem dX8_faultOfOrder_148 : decode cX8_faultOfOrder 148 = .ok (.ireturn, 1) := by decide +kernel
theorem dX8_faultOfOrder_149 : decode cX8_faultOfOrder 149 = .ok (.aload_n 0, 1) := by decide +kernel
theorem dX8_faultOfOrder_150 : decode cX8_faultOfOrder 150 = .ok (.iload_n 2, 1) := by decide +kernel
theorem dX8_faultOfOrder_151 : decode cX8_faultOfOrder 151 = .ok (.iload_n 3, 1) := by decide +kernel
theorem dX8_faultOfOrder_152 : decode cX8_faultOfOrder 152 = .ok (.invokevirtual 174, 3) := by decide +kernel
theorem dX8_faultOfOrder_155 : decode cX8_faultOfOrder 155 = .ok (.ireturn, 1) := by decide +kernel
theorem dX8_faultOfOrder_156 : decode cX8_faultOfOrder 156 = .ok (.aload_n 0, 1) := by decide +kernel
theorem dX8_faultOfOrder_157 : decode cX8_faultOfOrder 157 = .ok (.iload_n 2, 1) := by decide +kernel
theorem dX8_faultOfOrder_158 : decode cX8_faultOfOrder 158 = .ok (.invokevirtual 177, 3) := by decide +kernel
theorem dX8_faultOfOrder_161 : decode cX8_faultOfOrder 161 = .ok (.ireturn, 1) := by decide +kernel
theorem dX8_faultOfOrder_162 : decode cX8_faultOfOrder 162 = .ok (.aload_n 0, 1) := by decide +kernel
theorem dX8_faultOfOrder_163 : decode cX8_faultOfOrder 163 = .ok (.iload_n 2, 1) := by decide +kernel
theorem dX8_faultOfOrder_164 : decode cX8_faultOfOrder 164 = .ok (.iload_n 3, 1) := by decide +kernel
theorem dX8_faultOfOrder_165 : decode cX8_faultOfOrder 165 = .ok (.invokevirtual 183, 3) := by decide +kernel
theorem dX8_faultOfOrder_168 : decode cX8_faultOfOrder 168 = .ok (.ireturn, 1) := by decide +kernel
theorem dX8_faultOfOrder_169 : decode cX8_faultOfOrder 169 = .ok (.aload_n 0, 1) := by decide +kernel
theorem dX8_faultOfOrder_170 : decode cX8_faultOfOrder 170 = .ok (.iload_n 2, 1) := by decide +kernel
theorem dX8_faultOfOrder_171 : decode cX8_faultOfOrder 171 = .ok (.invokevirtual 189, 3) := by decide +kernel
theorem dX8_faultOfOrder_174 : decode cX8_faultOfOrder 174 = .ok (.ireturn, 1) := by decide +kernel
theorem dX8_faultOfOrder_175 : decode cX8_faultOfOrder 175 = .ok (.iconst 0, 1) := by decide +kernel
theorem dX8_faultOfOrder_176 : decode cX8_faultOfOrder 176 = .ok (.ireturn, 1) := by decide +kernel
theorem dX8_carryOut_0 : decode cX8_carryOut 0 = .ok (.aload_n 0, 1) := by decide +kernel
theorem dX8_carryOut_1 : decode cX8_carryOut 1 = .ok (.getfield 36, 3) := by decide +kernel
theorem dX8_carryOut_4 : decode cX8_carryOut 4 = .ok (.iload_n 1, 1) := by decide +kernel
theorem dX8_carryOut_5 : decode cX8_carryOut 5 = .ok (.invokevirtual 420, 3) := by decide +kernel
theorem dX8_carryOut_8 : decode cX8_carryOut 8 = .ok (.istore_n 2, 1) := by decide +kernel
theorem dX8_carryOut_9 : decode cX8_carryOut 9 = .ok (.aload_n 0, 1) := by decide +kernel
theorem dX8_carryOut_10 : decode cX8_carryOut 10 = .ok (.getfield 36, 3) := by decide +kernel
theorem dX8_carryOut_13 : decode cX8_carryOut 13 = .ok (.iload_n 1, 1) := by decide +kernel
theorem dX8_carryOut_14 : decode cX8_carryOut 14 = .ok (.invokevirtual 423, 3) := by decide +kernel
theorem dX8_carryOut_17 : decode cX8_carryOut 17 = .ok (.istore_n 3, 1) := by decide +kernel
theorem dX8_carryOut_18 : decode cX8_carryOut 18 = .ok (.aload_n 0, 1) := by decide +kernel
theorem dX8_carryOut_19 : decode cX8_carryOut 19 = .ok (.getfield 36, 3) := by decide +kernel
theorem dX8_carryOut_22 : decode cX8_carryOut 22 = .ok (.iload_n 1, 1) := by decide +kernel
theorem dX8_carryOut_23 : decode cX8_carryOut 23 = .ok (.invokevirtual 426, 3) := by decide +kernel
theorem dX8_carryOut_26 : decode cX8_carryOut 26 = .ok (.tableswitch 191 102 120 #[179, 191, 191, 191, 191, 191, 141, 166, 191, 191, 115, 191, 191, 90, 191, 103, 191, 128, 154], 90) := by decide +kernel
theorem dX8_carryOut_116 : decode cX8_carryOut 116 = .ok (.aload_n 0, 1) := by decide +kernel
theorem dX8_carryOut_117 : decode cX8_carryOut 117 = .ok (.getfield 12, 3) := by decide +kernel
theorem dX8_carryOut_120 : decode cX8_carryOut 120 = .ok (.iload_n 2, 1) := by decide +kernel
theorem dX8_carryOut_121 : decode cX8_carryOut 121 = .ok (.iload_n 3, 1) := by decide +kernel
theorem dX8_carryOut_122 : decode cX8_carryOut 122 = .ok (.invokevirtual 97, 3) := by decide +kernel
theorem dX8_carryOut_125 : decode cX8_carryOut 125 = .ok (.pop, 1) := by decide +kernel
theorem dX8_carryOut_126 : decode cX8_carryOut 126 = .ok (.goto 99, 3) := by decide +kernel
theorem dX8_carryOut_129 : decode cX8_carryOut 129 = .ok (.aload_n 0, 1) := by decide +kernel
theorem dX8_carryOut_130 : decode cX8_carryOut 130 = .ok (.getfield 12, 3) := by decide +kernel
theorem dX8_carryOut_133 : decode cX8_carryOut 133 = .ok (.iload_n 2, 1) := by decide +kernel
theorem dX8_carryOut_134 : decode cX8_carryOut 134 = .ok (.invokevirtual 104, 3) := by decide +kernel
theorem dX8_carryOut_137 : decode cX8_carryOut 137 = .ok (.pop, 1) := by decide +kernel
theorem dX8_carryOut_138 : decode cX8_carryOut 138 = .ok (.goto 87, 3) := by decide +kernel
theorem dX8_carryOut_141 : decode cX8_carryOut 141 = .ok (.aload_n 0, 1) := by decide +kernel
theorem dX8_carryOut_142 : decode cX8_carryOut 142 = .ok (.getfield 12, 3) := by decide +kernel
theorem dX8_carryOut_145 : decode cX8_carryOut 145 = .ok (.iload_n 2, 1) := by decide +kernel
theorem dX8_carryOut_146 : decode cX8_carryOut 146 = .ok (.iload_n 3, 1) := by decide +kernel
theorem dX8_carryOut_147 : decode cX8_carryOut 147 = .ok (.invokevirtual 110, 3) := by decide +kernel
theorem dX8_carryOut_150 : decode cX8_carryOut 150 = .ok (.pop, 1) := by decide +kernel
theorem dX8_carryOut_151 : decode cX8_carryOut 151 = .ok (.goto 74, 3) := by decide +kernel
theorem dX8_carryOut_154 : decode cX8_carryOut 154 = .ok (.aload_n 0, 1) := by decide +kernel
theorem dX8_carryOut_155 : decode cX8_carryOut 155 = .ok (.getfield 12, 3) := by decide +kernel
theorem dX8_carryOut_158 : decode cX8_carryOut 158 = .ok (.iload_n 2, 1) := by decide +kernel
theorem dX8_carryOut_159 : decode cX8_carryOut 159 = .ok (.iload_n 2, 1) := by decide +kernel
theorem dX8_carryOut_160 : decode cX8_carryOut 160 = .ok (.invokevirtual 171, 3) := by decide +kernel
theorem dX8_carryOut_163 : decode cX8_carryOut 163 = .ok (.pop, 1) := by decide +kernel
theorem dX8_carryOut_164 : decode cX8_carryOut 164 = .ok (.goto 61, 3) := by decide +kernel
theorem dX8_carryOut_167 : decode cX8_carryOut 167 = .ok (.aload_n 0, 1) := by decide +kernel
theorem dX8_carryOut_168 : decode cX8_carryOut 168 = .ok (.getfield 12, 3) := by decide +kernel
theorem dX8_carryOut_171 : decode cX8_carryOut 171 = .ok (.iload_n 2, 1) := by decide +kernel
theorem dX8_carryOut_172 : decode cX8_carryOut 172 = .ok (.iload_n 3, 1) := by decide +kernel
theorem dX8_carryOut_173 : decode cX8_carryOut 173 = .ok (.invokevirtual 171, 3) := by decide +kernel
theorem dX8_carryOut_176 : decode cX8_carryOut 176 = .ok (.pop, 1) := by decide +kernel
theorem dX8_carryOut_177 : decode cX8_carryOut 177 = .ok (.goto 48, 3) := by decide +kernel
theorem dX8_carryOut_180 : decode cX8_carryOut 180 = .ok (.aload_n 0, 1) := by decide +kernel
theorem dX8_carryOut_181 : decode cX8_carryOut 181 = .ok (.getfield 12, 3) := by decide +kernel
theorem dX8_carryOut_184 : decode cX8_carryOut 184 = .ok (.iload_n 2, 1) := by decide +kernel
theorem dX8_carryOut_185 : decode cX8_carryOut 185 = .ok (.invokevirtual 180, 3) := by decide +kernel
theorem dX8_carryOut_188 : decode cX8_carryOut 188 = .ok (.pop, 1) := by decide +kernel
theorem dX8_carryOut_189 : decode cX8_carryOut 189 = .ok (.goto 36, 3) := by decide +kernel
theorem dX8_carryOut_192 : decode cX8_carryOut 192 = .ok (.aload_n 0, 1) := by decide +kernel
theorem dX8_carryOut_193 : decode cX8_carryOut 193 = .ok (.getfield 12, 3) := by decide +kernel
theorem dX8_carryOut_196 : decode cX8_carryOut 196 = .ok (.iload_n 2, 1) := by decide +kernel
theorem dX8_carryOut_197 : decode cX8_carryOut 197 = .ok (.iload_n 3, 1) := by decide +kernel
theorem dX8_carryOut_198 : decode cX8_carryOut 198 = .ok (.invokevirtual 186, 3) := by decide +kernel
theorem dX8_carryOut_201 : decode cX8_carryOut 201 = .ok (.pop, 1) := by decide +kernel
theorem dX8_carryOut_202 : decode cX8_carryOut 202 = .ok (.goto 23, 3) := by decide +kernel
theorem dX8_carryOut_205 : decode cX8_carryOut 205 = .ok (.aload_n 0, 1) := by decide +kernel
theorem dX8_carryOut_206 : decode cX8_carryOut 206 = .ok (.getfield 12, 3) := by decide +kernel
theorem dX8_carryOut_209 : decode cX8_carryOut 209 = .ok (.iload_n 2, 1) := by decide +kernel
theorem dX8_carryOut_210 : decode cX8_carryOut 210 = .ok (.invokevirtual 192, 3) := by decide +kernel
theorem dX8_carryOut_213 : decode cX8_carryOut 213 = .ok (.pop, 1) := by decide +kernel
theorem dX8_carryOut_214 : decode cX8_carryOut 214 = .ok (.goto 11, 3) := by decide +kernel
theorem dX8_carryOut_217 : decode cX8_carryOut 217 = .ok (.aload_n 0, 1) := by decide +kernel
theorem dX8_carryOut_218 : decode cX8_carryOut 218 = .ok (.getfield 12, 3) := by decide +kernel
theorem dX8_carryOut_221 : decode cX8_carryOut 221 = .ok (.invokevirtual 195, 3) := by decide +kernel
theorem dX8_carryOut_224 : decode cX8_carryOut 224 = .ok (.pop, 1) := by decide +kernel
theorem dX8_carryOut_225 : decode cX8_carryOut 225 = .ok (.return_, 1) := by decide +kernel
theorem dX8_isLine_0 : decode cX8_isLine 0 = .ok (.iload_n 0, 1) := by decide +kernel
theorem dX8_isLine_1 : decode cX8_isLine 1 = .ok (.ifCond .lt 13, 3) := by decide +kernel
theorem dX8_isLine_4 : decode cX8_isLine 4 = .ok (.iload_n 0, 1) := by decide +kernel
theorem dX8_isLine_5 : decode cX8_isLine 5 = .ok (.bipush 7, 2) := by decide +kernel
theorem dX8_isLine_7 : decode cX8_isLine 7 = .ok (.if_icmp .ge 7, 3) := by decide +kernel
theorem dX8_isLine_10 : decode cX8_isLine 10 = .ok (.iconst 1, 1) := by decide +kernel
theorem dX8_isLine_11 : decode cX8_isLine 11 = .ok (.goto 4, 3) := by decide +kernel
theorem dX8_isLine_14 : decode cX8_isLine 14 = .ok (.iconst 0, 1) := by decide +kernel
theorem dX8_isLine_15 : decode cX8_isLine 15 = .ok (.ireturn, 1) := by decide +kernel
theorem dX8_isPlatform_0 : decode cX8_isPlatform 0 = .ok (.iload_n 0, 1) := by decide +kernel
theorem dX8_isPlatform_1 : decode cX8_isPlatform 1 = .ok (.ifCond .lt 12, 3) := by decide +kernel
theorem dX8_isPlatform_4 : decode cX8_isPlatform 4 = .ok (.iload_n 0, 1) := by decide +kernel
theorem dX8_isPlatform_5 : decode cX8_isPlatform 5 = .ok (.iconst 4, 1) := by decide +kernel
theorem dX8_isPlatform_6 : decode cX8_isPlatform 6 = .ok (.if_icmp .ge 7, 3) := by decide +kernel
theorem dX8_isPlatform_9 : decode cX8_isPlatform 9 = .ok (.iconst 1, 1) := by decide +kernel
theorem dX8_isPlatform_10 : decode cX8_isPlatform 10 = .ok (.goto 4, 3) := by decide +kernel
theorem dX8_isPlatform_13 : decode cX8_isPlatform 13 = .ok (.iconst 0, 1) := by decide +kernel
theorem dX8_isPlatform_14 : decode cX8_isPlatform 14 = .ok (.ireturn, 1) := by decide +kernel
theorem dX8_isLength_0 : decode cX8_isLength 0 = .ok (.iload_n 0, 1) := by decide +kernel
theorem dX8_isLength_1 : decode cX8_isLength 1 = .ok (.iconst 1, 1) := by decide +kernel
theorem dX8_isLength_2 : decode cX8_isLength 2 = .ok (.if_icmp .lt 13, 3) := by decide +kernel
theorem dX8_isLength_5 : decode cX8_isLength 5 = .ok (.iload_n 0, 1) := by decide +kernel
theorem dX8_isLength_6 : decode cX8_isLength 6 = .ok (.bipush 6, 2) := by decide +kernel
theorem dX8_isLength_8 : decode cX8_isLength 8 = .ok (.if_icmp .gt 7, 3) := by decide +kernel
theorem dX8_isLength_11 : decode cX8_isLength 11 = .ok (.iconst 1, 1) := by decide +kernel
theorem dX8_isLength_12 : decode cX8_isLength 12 = .ok (.goto 4, 3) := by decide +kernel
theorem dX8_isLength_15 : decode cX8_isLength 15 = .ok (.iconst 0, 1) := by decide +kernel
theorem dX8_isLength_16 : decode cX8_isLength 16 = .ok (.ireturn, 1) := by decide +kernel
theorem dX8_lineRanked_0 : decode cX8_lineRanked 0 = .ok (.iconst (-1), 1) := by decide +kernel
theorem dX8_lineRanked_1 : decode cX8_lineRanked 1 = .ok (.istore_n 2, 1) := by decide +kernel
theorem dX8_lineRanked_2 : decode cX8_lineRanked 2 = .ok (.iconst 0, 1) := by decide +kernel
theorem dX8_lineRanked_3 : decode cX8_lineRanked 3 = .ok (.istore_n 3, 1) := by decide +kernel
theorem dX8_lineRanked_4 : decode cX8_lineRanked 4 = .ok (.iload_n 3, 1) := by decide +kernel
theorem dX8_lineRanked_5 : decode cX8_lineRanked 5 = .ok (.bipush 7, 2) := by decide +kernel
theorem dX8_lineRanked_7 : decode cX8_lineRanked 7 = .ok (.if_icmp .ge 20, 3) := by decide +kernel
theorem dX8_lineRanked_10 : decode cX8_lineRanked 10 = .ok (.aload_n 0, 1) := by decide +kernel
theorem dX8_lineRanked_11 : decode cX8_lineRanked 11 = .ok (.iload_n 3, 1) := by decide +kernel
theorem dX8_lineRanked_12 : decode cX8_lineRanked 12 = .ok (.invokestatic 434, 3) := by decide +kernel
theorem dX8_lineRanked_15 : decode cX8_lineRanked 15 = .ok (.iload_n 1, 1) := by decide +kernel
theorem dX8_lineRanked_16 : decode cX8_lineRanked 16 = .ok (.if_icmp .ne 5, 3) := by decide +kernel
theorem dX8_lineRanked_19 : decode cX8_lineRanked 19 = .ok (.iload_n 3, 1) := by decide +kernel
theorem dX8_lineRanked_20 : decode cX8_lineRanked 20 = .ok (.istore_n 2, 1) := by decide +kernel
theorem dX8_lineRanked_21 : decode cX8_lineRanked 21 = .ok (.iinc 3 1, 3) := by decide +kernel
theorem dX8_lineRanked_24 : decode cX8_lineRanked 24 = .ok (.goto (-20), 3) := by decide +kernel
theorem dX8_lineRanked_27 : decode cX8_lineRanked 27 = .ok (.iload_n 2, 1) := by decide +kernel
theorem dX8_lineRanked_28 : decode cX8_lineRanked 28 = .ok (.ireturn, 1) := by decide +kernel
theorem dX8_numberAhead_0 : decode cX8_numberAhead 0 = .ok (.iconst 0, 1) := by decide +kernel
theorem dX8_numberAhead_1 : decode cX8_numberAhead 1 = .ok (.istore_n 2, 1) := by decide +kernel
theorem dX8_numberAhead_2 : decode cX8_numberAhead 2 = .ok (.iconst 0, 1) := by decide +kernel
theorem dX8_numberAhead_3 : decode cX8_numberAhead 3 = .ok (.istore_n 3, 1) := by decide +kernel
theorem dX8_numberAhead_4 : decode cX8_numberAhead 4 = .ok (.iload_n 3, 1) := by decide +kernel
theorem dX8_numberAhead_5 : decode cX8_numberAhead 5 = .ok (.bipush 7, 2) := by decide +kernel
theorem dX8_numberAhead_7 : decode cX8_numberAhead 7 = .ok (.if_icmp .ge 40, 3) := by decide +kernel
theorem dX8_numberAhead_10 : decode cX8_numberAhead 10 = .ok (.aload_n 0, 1) := by decide +kernel
theorem dX8_numberAhead_11 : decode cX8_numberAhead 11 = .ok (.iload_n 3, 1) := by decide +kernel
theorem dX8_numberAhead_12 : decode cX8_numberAhead 12 = .ok (.invokevirtual 215, 3) := by decide +kernel
theorem dX8_numberAhead_15 : decode cX8_numberAhead 15 = .ok (.aload_n 0, 1) := by decide +kernel
theorem dX8_numberAhead_16 : decode cX8_numberAhead 16 = .ok (.iload_n 1, 1) := by decide +kernel
theorem dX8_numberAhead_17 : decode cX8_numberAhead 17 = .ok (.invokevirtual 215, 3) := by decide +kernel
theorem dX8_numberAhead_20 : decode cX8_numberAhead 20 = .ok (.isub, 1) := by decide +kernel
theorem dX8_numberAhead_21 : decode cX8_numberAhead 21 = .ok (.istore 4, 2) := by decide +kernel
theorem dX8_numberAhead_23 : decode cX8_numberAhead 23 = .ok (.iload 4, 2) := by decide +kernel
theorem dX8_numberAhead_25 : decode cX8_numberAhead 25 = .ok (.ifCond .gt 13, 3) := by decide +kernel
theorem dX8_numberAhead_28 : decode cX8_numberAhead 28 = .ok (.iload 4, 2) := by decide +kernel
theorem dX8_numberAhead_30 : decode cX8_numberAhead 30 = .ok (.ifCond .ne 11, 3) := by decide +kernel
theorem dX8_numberAhead_33 : decode cX8_numberAhead 33 = .ok (.iload_n 3, 1) := by decide +kernel
theorem dX8_numberAhead_34 : decode cX8_numberAhead 34 = .ok (.iload_n 1, 1) := by decide +kernel
theorem dX8_numberAhead_35 : decode cX8_numberAhead 35 = .ok (.if_icmp .ge 6, 3) := by decide +kernel
theorem dX8_numberAhead_38 : decode cX8_numberAhead 38 = .ok (.iinc 2 1, 3) := by decide +kernel
theorem dX8_numberAhead_41 : decode cX8_numberAhead 41 = .ok (.iinc 3 1, 3) := by decide +kernel
theorem dX8_numberAhead_44 : decode cX8_numberAhead 44 = .ok (.goto (-40), 3) := by decide +kernel
theorem dX8_numberAhead_47 : decode cX8_numberAhead 47 = .ok (.iload_n 2, 1) := by decide +kernel
theorem dX8_numberAhead_48 : decode cX8_numberAhead 48 = .ok (.ireturn, 1) := by decide +kernel
theorem dX8_areFreeWordsRight_0 : decode cX8_areFreeWordsRight 0 = .ok (.iconst 1, 1) := by decide +kernel
theorem dX8_areFreeWordsRight_1 : decode cX8_areFreeWordsRight 1 = .ok (.istore_n 1, 1) := by decide +kernel
theorem dX8_areFreeWordsRight_2 : decode cX8_areFreeWordsRight 2 = .ok (.iload_n 1, 1) := by decide +kernel
theorem dX8_areFreeWordsRight_3 : decode cX8_areFreeWordsRight 3 = .ok (.bipush 6, 2) := by decide +kernel
theorem dX8_areFreeWordsRight_5 : decode cX8_areFreeWordsRight 5 = .ok (.if_icmp .gt 36, 3) := by decide +kernel
theorem dX8_areFreeWordsRight_8 : decode cX8_areFreeWordsRight 8 = .ok (.aload_n 0, 1) := by decide +kernel
theorem dX8_areFreeWordsRight_9 : decode cX8_areFreeWordsRight 9 = .ok (.getfield 12, 3) := by decide +kernel
theorem dX8_areFreeWordsRight_12 : decode cX8_areFreeWordsRight 12 = .ok (.getfield 67, 3) := by decide +kernel
theorem dX8_areFreeWordsRight_15 : decode cX8_areFreeWordsRight 15 = .ok (.iload_n 1, 1) := by decide +kernel
theorem dX8_areFreeWordsRight_16 : decode cX8_areFreeWordsRight 16 = .ok (.invokestatic 165, 3) := by decide +kernel
theorem dX8_areFreeWordsRight_19 : decode cX8_areFreeWordsRight 19 = .ok (.aload_n 0, 1) := by decide +kernel
theorem dX8_areFreeWordsRight_20 : decode cX8_areFreeWordsRight 20 = .ok (.getfield 12, 3) := by decide +kernel
theorem dX8_areFreeWordsRight_23 : decode cX8_areFreeWordsRight 23 = .ok (.getfield 67, 3) := by decide +kernel
theorem dX8_areFreeWordsRight_26 : decode cX8_areFreeWordsRight 26 = .ok (.iload_n 1, 1) := by decide +kernel
theorem dX8_areFreeWordsRight_27 : decode cX8_areFreeWordsRight 27 = .ok (.invokestatic 161, 3) := by decide +kernel
theorem dX8_areFreeWordsRight_30 : decode cX8_areFreeWordsRight 30 = .ok (.if_icmp .eq 5, 3) := by decide +kernel
theorem dX8_areFreeWordsRight_33 : decode cX8_areFreeWordsRight 33 = .ok (.iconst 0, 1) := by decide +kernel
theorem dX8_areFreeWordsRight_34 : decode cX8_areFreeWordsRight 34 = .ok (.ireturn, 1) := by decide +kernel
theorem dX8_areFreeWordsRight_35 : decode cX8_areFreeWordsRight 35 = .ok (.iinc 1 1, 3) := by decide +kernel
theorem dX8_areFreeWordsRight_38 : decode cX8_areFreeWordsRight 38 = .ok (.goto (-36), 3) := by decide +kernel
theorem dX8_areFreeWordsRight_41 : decode cX8_areFreeWordsRight 41 = .ok (.iconst 1, 1) := by decide +kernel
theorem dX8_areFreeWordsRight_42 : decode cX8_areFreeWordsRight 42 = .ok (.ireturn, 1) := by decide +kernel
theorem dX8_writeLine_0 : decode cX8_writeLine 0 = .ok (.aload_n 0, 1) := by decide +kernel
theorem dX8_writeLine_1 : decode cX8_writeLine 1 = .ok (.getfield 50, 3) := by decide +kernel
theorem dX8_writeLine_4 : decode cX8_writeLine 4 = .ok (.iload_n 1, 1) := by decide +kernel
theorem dX8_writeLine_5 : decode cX8_writeLine 5 = .ok (.invokevirtual 437, 3) := by decide +kernel
theorem dX8_writeLine_8 : decode cX8_writeLine 8 = .ok (.pop, 1) := by decide +kernel
theorem dX8_writeLine_9 : decode cX8_writeLine 9 = .ok (.aload_n 0, 1) := by decide +kernel
theorem dX8_writeLine_10 : decode cX8_writeLine 10 = .ok (.getfield 12, 3) := by decide +kernel
theorem dX8_writeLine_13 : decode cX8_writeLine 13 = .ok (.getfield 67, 3) := by decide +kernel
theorem dX8_writeLine_16 : decode cX8_writeLine 16 = .ok (.iload_n 1, 1) := by decide +kernel
theorem dX8_writeLine_17 : decode cX8_writeLine 17 = .ok (.invokevirtual 215, 3) := by decide +kernel
theorem dX8_writeLine_20 : decode cX8_writeLine 20 = .ok (.ifCond .eq 28, 3) := by decide +kernel
theorem dX8_writeLine_23 : decode cX8_writeLine 23 = .ok (.aload_n 0, 1) := by decide +kernel
theorem dX8_writeLine_24 : decode cX8_writeLine 24 = .ok (.getfield 50, 3) := by decide +kernel
theorem dX8_writeLine_27 : decode cX8_writeLine 27 = .ok (.bipush 58, 2) := by decide +kernel
theorem dX8_writeLine_29 : decode cX8_writeLine 29 = .ok (.invokevirtual 441, 3) := by decide +kernel
theorem dX8_writeLine_32 : decode cX8_writeLine 32 = .ok (.pop, 1) := by decide +kernel
theorem dX8_writeLine_33 : decode cX8_writeLine 33 = .ok (.aload_n 0, 1) := by decide +kernel
theorem dX8_writeLine_34 : decode cX8_writeLine 34 = .ok (.aload_n 0, 1) := by decide +kernel
theorem dX8_writeLine_35 : decode cX8_writeLine 35 = .ok (.getfield 12, 3) := by decide +kernel
theorem dX8_writeLine_38 : decode cX8_writeLine 38 = .ok (.getfield 67, 3) := by decide +kernel
theorem dX8_writeLine_41 : decode cX8_writeLine 41 = .ok (.iload_n 1, 1) := by decide +kernel
theorem dX8_writeLine_42 : decode cX8_writeLine 42 = .ok (.invokevirtual 215, 3) := by decide +kernel
theorem dX8_writeLine_45 : decode cX8_writeLine 45 = .ok (.invokevirtual 282, 3) := by decide +kernel
theorem dX8_writeLine_48 : decode cX8_writeLine 48 = .ok (.aload_n 0, 1) := by decide +kernel
theorem dX8_writeLine_49 : decode cX8_writeLine 49 = .ok (.getfield 50, 3) := by decide +kernel
theorem dX8_writeLine_52 : decode cX8_writeLine 52 = .ok (.bipush 47, 2) := by decide +kernel
theorem dX8_writeLine_54 : decode cX8_writeLine 54 = .ok (.invokevirtual 441, 3) := by decide +kernel
theorem dX8_writeLine_57 : decode cX8_writeLine 57 = .ok (.aload_n 0, 1) := by decide +kernel
theorem dX8_writeLine_58 : decode cX8_writeLine 58 = .ok (.getfield 12, 3) := by decide +kernel
theorem dX8_writeLine_61 : decode cX8_writeLine 61 = .ok (.getfield 248, 3) := by decide +kernel
theorem dX8_writeLine_64 : decode cX8_writeLine 64 = .ok (.iload_n 1, 1) := by decide +kernel
theorem dX8_writeLine_65 : decode cX8_writeLine 65 = .ok (.invokevirtual 215, 3) := by decide +kernel
theorem dX8_writeLine_68 : decode cX8_writeLine 68 = .ok (.invokevirtual 437, 3) := by decide +kernel
theorem dX8_writeLine_71 : decode cX8_writeLine 71 = .ok (.pop, 1) := by decide +kernel
theorem dX8_writeLine_72 : decode cX8_writeLine 72 = .ok (.aload_n 0, 1) := by decide +kernel
theorem dX8_writeLine_73 : decode cX8_writeLine 73 = .ok (.getfield 50, 3) := by decide +kernel
theorem dX8_writeLine_76 : decode cX8_writeLine 76 = .ok (.bipush 42, 2) := by decide +kernel
theorem dX8_writeLine_78 : decode cX8_writeLine 78 = .ok (.invokevirtual 441, 3) := by decide +kernel
theorem dX8_writeLine_81 : decode cX8_writeLine 81 = .ok (.aload_n 0, 1) := by decide +kernel
theorem dX8_writeLine_82 : decode cX8_writeLine 82 = .ok (.getfield 12, 3) := by decide +kernel
theorem dX8_writeLine_85 : decode cX8_writeLine 85 = .ok (.getfield 251, 3) := by decide +kernel
theorem dX8_writeLine_88 : decode cX8_writeLine 88 = .ok (.iload_n 1, 1) := by decide +kernel
theorem dX8_writeLine_89 : decode cX8_writeLine 89 = .ok (.invokevirtual 215, 3) := by decide +kernel
theorem dX8_writeLine_92 : decode cX8_writeLine 92 = .ok (.invokevirtual 437, 3) := by decide +kernel
theorem dX8_writeLine_95 : decode cX8_writeLine 95 = .ok (.pop, 1) := by decide +kernel
theorem dX8_writeLine_96 : decode cX8_writeLine 96 = .ok (.aload_n 0, 1) := by decide +kernel
theorem dX8_writeLine_97 : decode cX8_writeLine 97 = .ok (.getfield 12, 3) := by decide +kernel
theorem dX8_writeLine_100 : decode cX8_writeLine 100 = .ok (.getfield 411, 3) := by decide +kernel
theorem dX8_writeLine_103 : decode cX8_writeLine 103 = .ok (.iload_n 1, 1) := by decide +kernel
theorem dX8_writeLine_104 : decode cX8_writeLine 104 = .ok (.invokevirtual 215, 3) := by decide +kernel
theorem dX8_writeLine_107 : decode cX8_writeLine 107 = .ok (.ifCond .le 27, 3) := by decide +kernel
theorem dX8_writeLine_110 : decode cX8_writeLine 110 = .ok (.aload_n 0, 1) := by decide +kernel
theorem dX8_writeLine_111 : decode cX8_writeLine 111 = .ok (.getfield 50, 3) := by decide +kernel
theorem dX8_writeLine_114 : decode cX8_writeLine 114 = .ok (.bipush 33, 2) := by decide +kernel
theorem dX8_writeLine_116 : decode cX8_writeLine 116 = .ok (.invokevirtual 441, 3) := by decide +kernel
theorem dX8_writeLine_119 : decode cX8_writeLine 119 = .ok (.aload_n 0, 1) := by decide +kernel
theorem dX8_writeLine_120 : decode cX8_writeLine 120 = .ok (.getfield 12, 3) := by decide +kernel
theorem dX8_writeLine_123 : decode cX8_writeLine 123 = .ok (.getfield 411, 3) := by decide +kernel
theorem dX8_writeLine_126 : decode cX8_writeLine 126 = .ok (.iload_n 1, 1) := by decide +kernel
theorem dX8_writeLine_127 : decode cX8_writeLine 127 = .ok (.invokevirtual 215, 3) := by decide +kernel
theorem dX8_writeLine_130 : decode cX8_writeLine 130 = .ok (.invokevirtual 437, 3) := by decide +kernel
theorem dX8_writeLine_133 : decode cX8_writeLine 133 = .ok (.pop, 1) := by decide +kernel
theorem dX8_writeLine_134 : decode cX8_writeLine 134 = .ok (.return_, 1) := by decide +kernel
theorem dX8_writeWord_0 : decode cX8_writeWord 0 = .ok (.iconst 0, 1) := by decide +kernel
theorem dX8_writeWord_1 : decode cX8_writeWord 1 = .ok (.istore_n 2, 1) := by decide +kernel
theorem dX8_writeWord_2 : decode cX8_writeWord 2 = .ok (.iload_n 2, 1) := by decide +kernel
theorem dX8_writeWord_3 : decode cX8_writeWord 3 = .ok (.iload_n 1, 1) := by decide +kernel
theorem dX8_writeWord_4 : decode cX8_writeWord 4 = .ok (.invokestatic 429, 3) := by decide +kernel
theorem dX8_writeWord_7 : decode cX8_writeWord 7 = .ok (.if_icmp .ge 33, 3) := by decide +kernel
theorem dX8_writeWord_10 : decode cX8_writeWord 10 = .ok (.aload_n 0, 1) := by decide +kernel
theorem dX8_writeWord_11 : decode cX8_writeWord 11 = .ok (.getfield 50, 3) := by decide +kernel
theorem dX8_writeWord_14 : decode cX8_writeWord 14 = .ok (.iload_n 1, 1) := by decide +kernel
theorem dX8_writeWord_15 : decode cX8_writeWord 15 = .ok (.iload_n 2, 1) := by decide +kernel
theorem dX8_writeWord_16 : decode cX8_writeWord 16 = .ok (.invokestatic 444, 3) := by decide +kernel
theorem dX8_writeWord_19 : decode cX8_writeWord 19 = .ok (.iconst 1, 1) := by decide +kernel
theorem dX8_writeWord_20 : decode cX8_writeWord 20 = .ok (.if_icmp .ne 8, 3) := by decide +kernel
theorem dX8_writeWord_23 : decode cX8_writeWord 23 = .ok (.bipush 108, 2) := by decide +kernel
theorem dX8_writeWord_25 : decode cX8_writeWord 25 = .ok (.goto 5, 3) := by decide +kernel
theorem dX8_writeWord_28 : decode cX8_writeWord 28 = .ok (.bipush 115, 2) := by decide +kernel
theorem dX8_writeWord_30 : decode cX8_writeWord 30 = .ok (.invokevirtual 441, 3) := by decide +kernel
theorem dX8_writeWord_33 : decode cX8_writeWord 33 = .ok (.pop, 1) := by decide +kernel
theorem dX8_writeWord_34 : decode cX8_writeWord 34 = .ok (.iinc 2 1, 3) := by decide +kernel
theorem dX8_writeWord_37 : decode cX8_writeWord 37 = .ok (.goto (-35), 3) := by decide +kernel
theorem dX8_writeWord_40 : decode cX8_writeWord 40 = .ok (.return_, 1) := by decide +kernel
