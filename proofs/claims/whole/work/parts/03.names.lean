/-! ===== BEGIN printed: names, fields, word lists, decode rows ===== -/
def RX0 : String := "AdBreaks$AdBreak"
def TX0 : u_T := fun k => match k with
  | 0 => ("AdBreaks$AdBreak", "day", "I", false)
  | 1 => ("AdBreaks$AdBreak", "hour", "I", false)
  | 2 => ("AdBreaks$AdBreak", "length", "I", false)
  | 3 => ("AdBreaks$AdBreak", "audience", "I", false)
  | 4 => ("AdBreaks$AdBreak", "state", "I", false)
  | _ => ("AdBreaks$AdBreak", "row", "LAdBreaks$SpotRow;", true)
def tyX0 : Nat → FieldType := fun k => match k with
  | 0 => .int
  | 1 => .int
  | 2 => .int
  | 3 => .int
  | 4 => .int
  | _ => .object "AdBreaks$SpotRow"
abbrev wsX00 : List Cond := u_ws RX0 TX0 6
theorem nmX0 : ∀ a, a < 6 → ∀ b, b < 6 → a ≠ b → (TX0 a).2.1 ≠ (TX0 b).2.1 := by decide +kernel
theorem tyX0_ok : ∀ k, k < 6 → parseFieldDescriptor (TX0 k).2.2.1 = some (tyX0 k) := by decide +kernel
abbrev cX0_init : ByteArray := prog_2_method_1_code
def yX0_init : MethodName := ⟨RX0, "<init>", "()V"⟩
abbrev cX0_setUp : ByteArray := prog_2_method_2_code
def yX0_setUp : MethodName := ⟨RX0, "setUp", "(IIII)V"⟩
abbrev cX0_copyFrom : ByteArray := prog_2_method_3_code
def yX0_copyFrom : MethodName := ⟨RX0, "copyFrom", "(LAdBreaks$AdBreak;)V"⟩
abbrev cX0_isLaterThan : ByteArray := prog_2_method_4_code
def yX0_isLaterThan : MethodName := ⟨RX0, "isLaterThan", "(II)Z"⟩
def RX1 : String := "AdBreaks$Arranger"
def TX1 : u_T := fun k => match k with
  | 0 => ("AdBreaks$Arranger", "friends", "[I", true)
  | 1 => ("AdBreaks$Arranger", "beginning", "[[I", true)
  | _ => ("AdBreaks$Arranger", "order", "[I", true)
def tyX1 : Nat → FieldType := fun k => match k with
  | 0 => .array .int
  | 1 => .array (.array .int)
  | _ => .array .int
abbrev wsX10 : List Cond := u_ws RX1 TX1 3
theorem nmX1 : ∀ a, a < 3 → ∀ b, b < 3 → a ≠ b → (TX1 a).2.1 ≠ (TX1 b).2.1 := by decide +kernel
theorem tyX1_ok : ∀ k, k < 3 → parseFieldDescriptor (TX1 k).2.2.1 = some (tyX1 k) := by decide +kernel
abbrev cX1_init : ByteArray := prog_3_method_1_code
def yX1_init : MethodName := ⟨RX1, "<init>", "()V"⟩
abbrev cX1_countOrders : ByteArray := prog_3_method_2_code
def yX1_countOrders : MethodName := ⟨RX1, "countOrders", "(LAdBreaks$Plan;I)I"⟩
abbrev cX1_findFirst : ByteArray := prog_3_method_3_code
def yX1_findFirst : MethodName := ⟨RX1, "findFirst", "(LAdBreaks$Plan;I)Z"⟩
abbrev cX1_countBeginnings : ByteArray := prog_3_method_4_code
def yX1_countBeginnings : MethodName := ⟨RX1, "countBeginnings", "(LAdBreaks$Plan;I)V"⟩
abbrev cX1_findFriends : ByteArray := prog_3_method_5_code
def yX1_findFriends : MethodName := ⟨RX1, "findFriends", "(LAdBreaks$Plan;)V"⟩
abbrev cX1_countBeginningsOf : ByteArray := prog_3_method_6_code
def yX1_countBeginningsOf : MethodName := ⟨RX1, "countBeginningsOf", "(I)V"⟩
abbrev cX1_sumOver : ByteArray := prog_3_method_7_code
def yX1_sumOver : MethodName := ⟨RX1, "sumOver", "(II)I"⟩
abbrev cX1_smallestBeginning : ByteArray := prog_3_method_8_code
def yX1_smallestBeginning : MethodName := ⟨RX1, "smallestBeginning", "(II)I"⟩
def RX2 : String := "AdBreaks$Formula"
def TX2 : u_T := fun k => match k with
  | 0 => ("AdBreaks$Formula", "codes", "[I", true)
  | 1 => ("AdBreaks$Formula", "size", "I", false)
  | 2 => ("AdBreaks$Formula", "given", "[I", true)
  | _ => ("AdBreaks$Formula", "stack", "[I", true)
def tyX2 : Nat → FieldType := fun k => match k with
  | 0 => .array .int
  | 1 => .int
  | 2 => .array .int
  | _ => .array .int
abbrev wsX20 : List Cond := u_ws RX2 TX2 4
theorem nmX2 : ∀ a, a < 4 → ∀ b, b < 4 → a ≠ b → (TX2 a).2.1 ≠ (TX2 b).2.1 := by decide +kernel
theorem tyX2_ok : ∀ k, k < 4 → parseFieldDescriptor (TX2 k).2.2.1 = some (tyX2 k) := by decide +kernel
abbrev cX2_init : ByteArray := prog_4_method_1_code
def yX2_init : MethodName := ⟨RX2, "<init>", "()V"⟩
abbrev cX2_clear : ByteArray := prog_4_method_2_code
def yX2_clear : MethodName := ⟨RX2, "clear", "()V"⟩
abbrev cX2_setDefault : ByteArray := prog_4_method_3_code
def yX2_setDefault : MethodName := ⟨RX2, "setDefault", "()V"⟩
abbrev cX2_emit : ByteArray := prog_4_method_4_code
def yX2_emit : MethodName := ⟨RX2, "emit", "(I)V"⟩
abbrev cX2_copyFrom : ByteArray := prog_4_method_5_code
def yX2_copyFrom : MethodName := ⟨RX2, "copyFrom", "(LAdBreaks$Formula;)V"⟩
abbrev cX2_evaluate : ByteArray := prog_4_method_6_code
def yX2_evaluate : MethodName := ⟨RX2, "evaluate", "(IIIII)I"⟩
abbrev cX2_operate : ByteArray := prog_4_method_7_code
def yX2_operate : MethodName := ⟨RX2, "operate", "(IJJ)I"⟩
def RX3 : String := "AdBreaks$History"
def TX3 : u_T := fun k => match k with
  | 0 => ("AdBreaks$History", "plans", "[LAdBreaks$Plan;", true)
  | 1 => ("AdBreaks$History", "current", "I", false)
  | _ => ("AdBreaks$History", "undoable", "I", false)
def tyX3 : Nat → FieldType := fun k => match k with
  | 0 => .array (.object "AdBreaks$Plan")
  | 1 => .int
  | _ => .int
abbrev wsX30 : List Cond := u_ws RX3 TX3 3
theorem nmX3 : ∀ a, a < 3 → ∀ b, b < 3 → a ≠ b → (TX3 a).2.1 ≠ (TX3 b).2.1 := by decide +kernel
theorem tyX3_ok : ∀ k, k < 3 → parseFieldDescriptor (TX3 k).2.2.1 = some (tyX3 k) := by decide +kernel
abbrev cX3_init : ByteArray := prog_5_method_1_code
def yX3_init : MethodName := ⟨RX3, "<init>", "()V"⟩
abbrev cX3_latest : ByteArray := prog_5_method_2_code
def yX3_latest : MethodName := ⟨RX3, "latest", "()LAdBreaks$Plan;"⟩
abbrev cX3_beginChange : ByteArray := prog_5_method_3_code
def yX3_beginChange : MethodName := ⟨RX3, "beginChange", "()LAdBreaks$Plan;"⟩
abbrev cX3_stepBack : ByteArray := prog_5_method_4_code
def yX3_stepBack : MethodName := ⟨RX3, "stepBack", "()I"⟩
def RX4 : String := "AdBreaks$Plan"
def TX4 : u_T := fun k => match k with
  | 0 => ("AdBreaks$Plan", "list", "[LAdBreaks$AdBreak;", true)
  | 1 => ("AdBreaks$Plan", "breakCount", "I", false)
  | 2 => ("AdBreaks$Plan", "category", "[I", true)
  | 3 => ("AdBreaks$Plan", "cap", "[I", true)
  | 4 => ("AdBreaks$Plan", "sponsorCount", "I", false)
  | 5 => ("AdBreaks$Plan", "bannedFrom", "[I", true)
  | 6 => ("AdBreaks$Plan", "formula", "LAdBreaks$Formula;", true)
  | 7 => ("AdBreaks$Plan", "owedRow", "LAdBreaks$SpotRow;", true)
  | _ => ("AdBreaks$Plan", "earned", "I", false)
def tyX4 : Nat → FieldType := fun k => match k with
  | 0 => .array (.object "AdBreaks$AdBreak")
  | 1 => .int
  | 2 => .array .int
  | 3 => .array .int
  | 4 => .int
  | 5 => .array .int
  | 6 => .object "AdBreaks$Formula"
  | 7 => .object "AdBreaks$SpotRow"
  | _ => .int
abbrev wsX40 : List Cond := u_ws RX4 TX4 9
theorem nmX4 : ∀ a, a < 9 → ∀ b, b < 9 → a ≠ b → (TX4 a).2.1 ≠ (TX4 b).2.1 := by decide +kernel
theorem tyX4_ok : ∀ k, k < 9 → parseFieldDescriptor (TX4 k).2.2.1 = some (tyX4 k) := by decide +kernel
abbrev cX4_init : ByteArray := prog_6_method_1_code
def yX4_init : MethodName := ⟨RX4, "<init>", "()V"⟩
abbrev cX4_clear : ByteArray := prog_6_method_2_code
def yX4_clear : MethodName := ⟨RX4, "clear", "()V"⟩
abbrev cX4_copyFrom : ByteArray := prog_6_method_3_code
def yX4_copyFrom : MethodName := ⟨RX4, "copyFrom", "(LAdBreaks$Plan;)V"⟩
abbrev cX4_hasBreakAt : ByteArray := prog_6_method_4_code
def yX4_hasBreakAt : MethodName := ⟨RX4, "hasBreakAt", "(II)Z"⟩
abbrev cX4_addBreak : ByteArray := prog_6_method_5_code
def yX4_addBreak : MethodName := ⟨RX4, "addBreak", "(IIII)V"⟩
abbrev cX4_addSponsor : ByteArray := prog_6_method_6_code
def yX4_addSponsor : MethodName := ⟨RX4, "addSponsor", "(II)V"⟩
abbrev cX4_addBan : ByteArray := prog_6_method_7_code
def yX4_addBan : MethodName := ⟨RX4, "addBan", "(II)V"⟩
abbrev cX4_hasBan : ByteArray := prog_6_method_8_code
def yX4_hasBan : MethodName := ⟨RX4, "hasBan", "(II)Z"⟩
abbrev cX4_clash : ByteArray := prog_6_method_9_code
def yX4_clash : MethodName := ⟨RX4, "clash", "(II)Z"⟩
abbrev cX4_spotsOf : ByteArray := prog_6_method_10_code
def yX4_spotsOf : MethodName := ⟨RX4, "spotsOf", "(I)I"⟩
abbrev cX4_airedSpotsOf : ByteArray := prog_6_method_11_code
def yX4_airedSpotsOf : MethodName := ⟨RX4, "airedSpotsOf", "(I)I"⟩
abbrev cX4_spotsOfDay : ByteArray := prog_6_method_12_code
def yX4_spotsOfDay : MethodName := ⟨RX4, "spotsOfDay", "(II)I"⟩
abbrev cX4_refusal : ByteArray := prog_6_method_13_code
def yX4_refusal : MethodName := ⟨RX4, "refusal", "(III)I"⟩
abbrev cX4_placeFor : ByteArray := prog_6_method_14_code
def yX4_placeFor : MethodName := ⟨RX4, "placeFor", "(ILAdBreaks$SpotRow;)I"⟩
abbrev cX4_priceOf : ByteArray := prog_6_method_15_code
def yX4_priceOf : MethodName := ⟨RX4, "priceOf", "(III)I"⟩
abbrev cX4_cheapestBreak : ByteArray := prog_6_method_16_code
def yX4_cheapestBreak : MethodName := ⟨RX4, "cheapestBreak", "(II)I"⟩
abbrev cX4_widestBreak : ByteArray := prog_6_method_17_code
def yX4_widestBreak : MethodName := ⟨RX4, "widestBreak", "(II)I"⟩
abbrev cX4_earliestOpen : ByteArray := prog_6_method_18_code
def yX4_earliestOpen : MethodName := ⟨RX4, "earliestOpen", "()I"⟩
abbrev cX4_bookSpot : ByteArray := prog_6_method_19_code
def yX4_bookSpot : MethodName := ⟨RX4, "bookSpot", "(III)I"⟩
abbrev cX4_bookInOrder : ByteArray := prog_6_method_20_code
def yX4_bookInOrder : MethodName := ⟨RX4, "bookInOrder", "(III[I)V"⟩
abbrev cX4_bookCheapest : ByteArray := prog_6_method_21_code
def yX4_bookCheapest : MethodName := ⟨RX4, "bookCheapest", "(III)I"⟩
abbrev cX4_canTakeOut : ByteArray := prog_6_method_22_code
def yX4_canTakeOut : MethodName := ⟨RX4, "canTakeOut", "(II)Z"⟩
abbrev cX4_takeOut : ByteArray := prog_6_method_23_code
def yX4_takeOut : MethodName := ⟨RX4, "takeOut", "(II)I"⟩
abbrev cX4_cancelBreak : ByteArray := prog_6_method_24_code
def yX4_cancelBreak : MethodName := ⟨RX4, "cancelBreak", "(I)V"⟩
abbrev cX4_settleOwed : ByteArray := prog_6_method_25_code
def yX4_settleOwed : MethodName := ⟨RX4, "settleOwed", "()I"⟩
abbrev cX4_breakForOwed : ByteArray := prog_6_method_26_code
def yX4_breakForOwed : MethodName := ⟨RX4, "breakForOwed", "(I)I"⟩
def RX5 : String := "AdBreaks$SetupReader"
def TX5 : u_T := fun k => match k with
  | 0 => ("AdBreaks$SetupReader", "tokens", "LAdBreaks$Tokens;", true)
  | 1 => ("AdBreaks$SetupReader", "error", "I", false)
  | 2 => ("AdBreaks$SetupReader", "errorAt", "I", false)
  | 3 => ("AdBreaks$SetupReader", "taken", "I", false)
  | 4 => ("AdBreaks$SetupReader", "banCount", "I", false)
  | _ => ("AdBreaks$SetupReader", "priceRead", "Z", false)
def tyX5 : Nat → FieldType := fun k => match k with
  | 0 => .object "AdBreaks$Tokens"
  | 1 => .int
  | 2 => .int
  | 3 => .int
  | 4 => .int
  | _ => .boolean
abbrev wsX50 : List Cond := u_ws RX5 TX5 6
theorem nmX5 : ∀ a, a < 6 → ∀ b, b < 6 → a ≠ b → (TX5 a).2.1 ≠ (TX5 b).2.1 := by decide +kernel
theorem tyX5_ok : ∀ k, k < 6 → parseFieldDescriptor (TX5 k).2.2.1 = some (tyX5 k) := by decide +kernel
abbrev cX5_init : ByteArray := prog_7_method_1_code
def yX5_init : MethodName := ⟨RX5, "<init>", "()V"⟩
abbrev cX5_readSetup : ByteArray := prog_7_method_2_code
def yX5_readSetup : MethodName := ⟨RX5, "readSetup", "([BILAdBreaks$Plan;)Z"⟩
abbrev cX5_readStatement : ByteArray := prog_7_method_3_code
def yX5_readStatement : MethodName := ⟨RX5, "readStatement", "(LAdBreaks$Plan;)Z"⟩
abbrev cX5_readBreak : ByteArray := prog_7_method_4_code
def yX5_readBreak : MethodName := ⟨RX5, "readBreak", "(LAdBreaks$Plan;)Z"⟩
abbrev cX5_readSponsor : ByteArray := prog_7_method_5_code
def yX5_readSponsor : MethodName := ⟨RX5, "readSponsor", "(LAdBreaks$Plan;)Z"⟩
abbrev cX5_readBan : ByteArray := prog_7_method_6_code
def yX5_readBan : MethodName := ⟨RX5, "readBan", "(LAdBreaks$Plan;)Z"⟩
abbrev cX5_readSum : ByteArray := prog_7_method_7_code
def yX5_readSum : MethodName := ⟨RX5, "readSum", "(LAdBreaks$Formula;I)Z"⟩
abbrev cX5_readTerm : ByteArray := prog_7_method_8_code
def yX5_readTerm : MethodName := ⟨RX5, "readTerm", "(LAdBreaks$Formula;I)Z"⟩
abbrev cX5_readFactor : ByteArray := prog_7_method_9_code
def yX5_readFactor : MethodName := ⟨RX5, "readFactor", "(LAdBreaks$Formula;I)Z"⟩
abbrev cX5_codeOfWord : ByteArray := prog_7_method_10_code
def yX5_codeOfWord : MethodName := ⟨RX5, "codeOfWord", "()I"⟩
abbrev cX5_takeWord : ByteArray := prog_7_method_11_code
def yX5_takeWord : MethodName := ⟨RX5, "takeWord", "(Ljava/lang/String;)Z"⟩
abbrev cX5_takeSign : ByteArray := prog_7_method_12_code
def yX5_takeSign : MethodName := ⟨RX5, "takeSign", "(C)Z"⟩
abbrev cX5_takeNumber : ByteArray := prog_7_method_13_code
def yX5_takeNumber : MethodName := ⟨RX5, "takeNumber", "(II)Z"⟩
abbrev cX5_fail : ByteArray := prog_7_method_14_code
def yX5_fail : MethodName := ⟨RX5, "fail", "(I)Z"⟩
def RX6 : String := "AdBreaks$SpotRow"
def TX6 : u_T := fun k => match k with
  | 0 => ("AdBreaks$SpotRow", "sponsors", "[I", true)
  | 1 => ("AdBreaks$SpotRow", "seconds", "[I", true)
  | 2 => ("AdBreaks$SpotRow", "prices", "[I", true)
  | 3 => ("AdBreaks$SpotRow", "leastAudiences", "[I", true)
  | _ => ("AdBreaks$SpotRow", "count", "I", false)
def tyX6 : Nat → FieldType := fun k => match k with
  | 0 => .array .int
  | 1 => .array .int
  | 2 => .array .int
  | 3 => .array .int
  | _ => .int
abbrev wsX60 : List Cond := u_ws RX6 TX6 5
theorem nmX6 : ∀ a, a < 5 → ∀ b, b < 5 → a ≠ b → (TX6 a).2.1 ≠ (TX6 b).2.1 := by decide +kernel
theorem tyX6_ok : ∀ k, k < 5 → parseFieldDescriptor (TX6 k).2.2.1 = some (tyX6 k) := by decide +kernel
abbrev cX6_init : ByteArray := prog_8_method_1_code
def yX6_init : MethodName := ⟨RX6, "<init>", "(I)V"⟩
abbrev cX6_copyFrom : ByteArray := prog_8_method_2_code
def yX6_copyFrom : MethodName := ⟨RX6, "copyFrom", "(LAdBreaks$SpotRow;)V"⟩
abbrev cX6_copySpot : ByteArray := prog_8_method_3_code
def yX6_copySpot : MethodName := ⟨RX6, "copySpot", "(LAdBreaks$SpotRow;II)V"⟩
abbrev cX6_takeOver : ByteArray := prog_8_method_4_code
def yX6_takeOver : MethodName := ⟨RX6, "takeOver", "(LAdBreaks$SpotRow;III)V"⟩
abbrev cX6_insert : ByteArray := prog_8_method_5_code
def yX6_insert : MethodName := ⟨RX6, "insert", "(IIIII)V"⟩
abbrev cX6_delete : ByteArray := prog_8_method_6_code
def yX6_delete : MethodName := ⟨RX6, "delete", "(I)V"⟩
abbrev cX6_moveForward : ByteArray := prog_8_method_7_code
def yX6_moveForward : MethodName := ⟨RX6, "moveForward", "(II)V"⟩
abbrev cX6_tell : ByteArray := prog_8_method_8_code
def yX6_tell : MethodName := ⟨RX6, "tell", "(II)I"⟩
abbrev cX6_placeOf : ByteArray := prog_8_method_9_code
def yX6_placeOf : MethodName := ⟨RX6, "placeOf", "(I)I"⟩
abbrev cX6_countOf : ByteArray := prog_8_method_10_code
def yX6_countOf : MethodName := ⟨RX6, "countOf", "(I)I"⟩
abbrev cX6_secondsTogether : ByteArray := prog_8_method_11_code
def yX6_secondsTogether : MethodName := ⟨RX6, "secondsTogether", "()I"⟩
abbrev cX6_sponsorSet : ByteArray := prog_8_method_12_code
def yX6_sponsorSet : MethodName := ⟨RX6, "sponsorSet", "()I"⟩
abbrev cX6_addTo : ByteArray := prog_8_method_13_code
def yX6_addTo : MethodName := ⟨RX6, "addTo", "(JI)J"⟩
def RX7 : String := "AdBreaks$Tokens"
def TX7 : u_T := fun k => match k with
  | 0 => ("AdBreaks$Tokens", "text", "[B", false)
  | 1 => ("AdBreaks$Tokens", "length", "I", false)
  | 2 => ("AdBreaks$Tokens", "kind", "I", false)
  | 3 => ("AdBreaks$Tokens", "start", "I", false)
  | 4 => ("AdBreaks$Tokens", "end", "I", false)
  | _ => ("AdBreaks$Tokens", "value", "I", false)
def tyX7 : Nat → FieldType := fun k => match k with
  | 0 => .array .byte
  | 1 => .int
  | 2 => .int
  | 3 => .int
  | 4 => .int
  | _ => .int
abbrev wsX70 : List Cond := u_ws RX7 TX7 6
theorem nmX7 : ∀ a, a < 6 → ∀ b, b < 6 → a ≠ b → (TX7 a).2.1 ≠ (TX7 b).2.1 := by decide +kernel
theorem tyX7_ok : ∀ k, k < 6 → parseFieldDescriptor (TX7 k).2.2.1 = some (tyX7 k) := by decide +kernel
abbrev cX7_init : ByteArray := prog_9_method_1_code
def yX7_init : MethodName := ⟨RX7, "<init>", "()V"⟩
abbrev cX7_begin : ByteArray := prog_9_method_2_code
def yX7_begin : MethodName := ⟨RX7, "begin", "([BI)V"⟩
abbrev cX7_advance : ByteArray := prog_9_method_3_code
def yX7_advance : MethodName := ⟨RX7, "advance", "()V"⟩
abbrev cX7_isWord : ByteArray := prog_9_method_4_code
def yX7_isWord : MethodName := ⟨RX7, "isWord", "(Ljava/lang/String;)Z"⟩
abbrev cX7_isSign : ByteArray := prog_9_method_5_code
def yX7_isSign : MethodName := ⟨RX7, "isSign", "(C)Z"⟩
def RX8 : String := "AdBreaks"
def TX8 : u_T := fun k => match k with
  | 0 => ("AdBreaks", "buffer", "[B", true)
  | 1 => ("AdBreaks", "filled", "I", false)
  | 2 => ("AdBreaks", "offsetOfError", "I", false)
  | 3 => ("AdBreaks", "reader", "LAdBreaks$SetupReader;", true)
  | 4 => ("AdBreaks", "draft", "LAdBreaks$Plan;", true)
  | 5 => ("AdBreaks", "history", "LAdBreaks$History;", true)
  | _ => ("AdBreaks", "arranger", "LAdBreaks$Arranger;", true)
def tyX8 : Nat → FieldType := fun k => match k with
  | 0 => .array .byte
  | 1 => .int
  | 2 => .int
  | 3 => .object "AdBreaks$SetupReader"
  | 4 => .object "AdBreaks$Plan"
  | 5 => .object "AdBreaks$History"
  | _ => .object "AdBreaks$Arranger"
abbrev wsX80 : List Cond := u_ws RX8 TX8 7
theorem nmX8 : ∀ a, a < 7 → ∀ b, b < 7 → a ≠ b → (TX8 a).2.1 ≠ (TX8 b).2.1 := by decide +kernel
theorem tyX8_ok : ∀ k, k < 7 → parseFieldDescriptor (TX8 k).2.2.1 = some (tyX8 k) := by decide +kernel
abbrev cX8_init : ByteArray := prog_1_method_1_code
def yX8_init : MethodName := ⟨RX8, "<init>", "()V"⟩
abbrev cX8_append : ByteArray := prog_1_method_2_code
def yX8_append : MethodName := ⟨RX8, "append", "(IIIII)I"⟩
abbrev cX8_load : ByteArray := prog_1_method_3_code
def yX8_load : MethodName := ⟨RX8, "load", "(I)I"⟩
abbrev cX8_errorOffset : ByteArray := prog_1_method_4_code
def yX8_errorOffset : MethodName := ⟨RX8, "errorOffset", "()I"⟩
abbrev cX8_breaks : ByteArray := prog_1_method_5_code
def yX8_breaks : MethodName := ⟨RX8, "breaks", "()I"⟩
abbrev cX8_sponsors : ByteArray := prog_1_method_6_code
def yX8_sponsors : MethodName := ⟨RX8, "sponsors", "()I"⟩
abbrev cX8_breakOf : ByteArray := prog_1_method_7_code
def yX8_breakOf : MethodName := ⟨RX8, "breakOf", "(II)I"⟩
abbrev cX8_spot : ByteArray := prog_1_method_8_code
def yX8_spot : MethodName := ⟨RX8, "spot", "(III)I"⟩
abbrev cX8_sponsor : ByteArray := prog_1_method_9_code
def yX8_sponsor : MethodName := ⟨RX8, "sponsor", "(II)I"⟩
abbrev cX8_isBanned : ByteArray := prog_1_method_10_code
def yX8_isBanned : MethodName := ⟨RX8, "isBanned", "(II)Z"⟩
abbrev cX8_spotsOn : ByteArray := prog_1_method_11_code
def yX8_spotsOn : MethodName := ⟨RX8, "spotsOn", "(II)I"⟩
abbrev cX8_reason : ByteArray := prog_1_method_12_code
def yX8_reason : MethodName := ⟨RX8, "reason", "(III)I"⟩
abbrev cX8_price : ByteArray := prog_1_method_13_code
def yX8_price : MethodName := ⟨RX8, "price", "(III)I"⟩
abbrev cX8_cheapest : ByteArray := prog_1_method_14_code
def yX8_cheapest : MethodName := ⟨RX8, "cheapest", "(II)I"⟩
abbrev cX8_widest : ByteArray := prog_1_method_15_code
def yX8_widest : MethodName := ⟨RX8, "widest", "(II)I"⟩
abbrev cX8_income : ByteArray := prog_1_method_16_code
def yX8_income : MethodName := ⟨RX8, "income", "()I"⟩
abbrev cX8_owed : ByteArray := prog_1_method_17_code
def yX8_owed : MethodName := ⟨RX8, "owed", "()I"⟩
abbrev cX8_owedSpot : ByteArray := prog_1_method_18_code
def yX8_owedSpot : MethodName := ⟨RX8, "owedSpot", "(II)I"⟩
abbrev cX8_arrangements : ByteArray := prog_1_method_19_code
def yX8_arrangements : MethodName := ⟨RX8, "arrangements", "(I)I"⟩
abbrev cX8_arranged : ByteArray := prog_1_method_20_code
def yX8_arranged : MethodName := ⟨RX8, "arranged", "(II)I"⟩
abbrev cX8_book : ByteArray := prog_1_method_21_code
def yX8_book : MethodName := ⟨RX8, "book", "(III)I"⟩
abbrev cX8_bookAnyhow : ByteArray := prog_1_method_22_code
def yX8_bookAnyhow : MethodName := ⟨RX8, "bookAnyhow", "(III)I"⟩
abbrev cX8_remove : ByteArray := prog_1_method_23_code
def yX8_remove : MethodName := ⟨RX8, "remove", "(II)I"⟩
abbrev cX8_air : ByteArray := prog_1_method_24_code
def yX8_air : MethodName := ⟨RX8, "air", "()I"⟩
abbrev cX8_cancel : ByteArray := prog_1_method_25_code
def yX8_cancel : MethodName := ⟨RX8, "cancel", "(I)I"⟩
abbrev cX8_makeGood : ByteArray := prog_1_method_26_code
def yX8_makeGood : MethodName := ⟨RX8, "makeGood", "()I"⟩
abbrev cX8_campaign : ByteArray := prog_1_method_27_code
def yX8_campaign : MethodName := ⟨RX8, "campaign", "(III)I"⟩
abbrev cX8_setCap : ByteArray := prog_1_method_28_code
def yX8_setCap : MethodName := ⟨RX8, "setCap", "(II)I"⟩
abbrev cX8_undo : ByteArray := prog_1_method_29_code
def yX8_undo : MethodName := ⟨RX8, "undo", "()I"⟩
abbrev cX8_checksum : ByteArray := prog_1_method_30_code
def yX8_checksum : MethodName := ⟨RX8, "checksum", "()J"⟩
abbrev cX8_appendWord : ByteArray := prog_1_method_31_code
def yX8_appendWord : MethodName := ⟨RX8, "appendWord", "(I)V"⟩
abbrev cX8_checkBreak : ByteArray := prog_1_method_32_code
def yX8_checkBreak : MethodName := ⟨RX8, "checkBreak", "(LAdBreaks$Plan;I)V"⟩
abbrev cX8_checkSponsor : ByteArray := prog_1_method_33_code
def yX8_checkSponsor : MethodName := ⟨RX8, "checkSponsor", "(LAdBreaks$Plan;I)V"⟩
abbrev cX8_checkPlace : ByteArray := prog_1_method_34_code
def yX8_checkPlace : MethodName := ⟨RX8, "checkPlace", "(LAdBreaks$SpotRow;I)V"⟩
abbrev cX8_checkRange : ByteArray := prog_1_method_35_code
def yX8_checkRange : MethodName := ⟨RX8, "checkRange", "(III)V"⟩
abbrev cX8_checkSet : ByteArray := prog_1_method_36_code
def yX8_checkSet : MethodName := ⟨RX8, "checkSet", "(LAdBreaks$Plan;I)V"⟩
abbrev cX8_checkSpotIn : ByteArray := prog_1_method_37_code
def yX8_checkSpotIn : MethodName := ⟨RX8, "checkSpotIn", "(LAdBreaks$Plan;III)V"⟩
def RX9 : String := "AdBreaksModel"
def TX9 : u_T := fun k => match k with
  | 0 => ("AdBreaksModel", "thrown", "I", false)
  | 1 => ("AdBreaksModel", "buffer", "[I", true)
  | 2 => ("AdBreaksModel", "bufferLength", "I", false)
  | 3 => ("AdBreaksModel", "textLength", "I", false)
  | 4 => ("AdBreaksModel", "position", "I", false)
  | 5 => ("AdBreaksModel", "error", "I", false)
  | 6 => ("AdBreaksModel", "errorAt", "I", false)
  | 7 => ("AdBreaksModel", "errorOffset", "I", false)
  | 8 => ("AdBreaksModel", "data", "[I", true)
  | 9 => ("AdBreaksModel", "draft", "[I", true)
  | 10 => ("AdBreaksModel", "history", "[[I", true)
  | 11 => ("AdBreaksModel", "undoDepth", "I", false)
  | 12 => ("AdBreaksModel", "numberStart", "I", false)
  | 13 => ("AdBreaksModel", "nesting", "I", false)
  | 14 => ("AdBreaksModel", "seen", "I", false)
  | 15 => ("AdBreaksModel", "stack", "[J", true)
  | 16 => ("AdBreaksModel", "orders", "[[I", true)
  | 17 => ("AdBreaksModel", "row", "[I", true)
  | _ => ("AdBreaksModel", "moved", "[I", true)
def tyX9 : Nat → FieldType := fun k => match k with
  | 0 => .int
  | 1 => .array .int
  | 2 => .int
  | 3 => .int
  | 4 => .int
  | 5 => .int
  | 6 => .int
  | 7 => .int
  | 8 => .array .int
  | 9 => .array .int
  | 10 => .array (.array .int)
  | 11 => .int
  | 12 => .int
  | 13 => .int
  | 14 => .int
  | 15 => .array .long
  | 16 => .array (.array .int)
  | 17 => .array .int
  | _ => .array .int
abbrev wsX90 : List Cond := u_ws RX9 TX9 19
theorem nmX9 : ∀ a, a < 19 → ∀ b, b < 19 → a ≠ b → (TX9 a).2.1 ≠ (TX9 b).2.1 := by decide +kernel
theorem tyX9_ok : ∀ k, k < 19 → parseFieldDescriptor (TX9 k).2.2.1 = some (tyX9 k) := by decide +kernel
abbrev cX9_init : ByteArray := prog_11_method_1_code
def yX9_init : MethodName := ⟨RX9, "<init>", "()V"⟩
abbrev cX9_thrown : ByteArray := prog_11_method_2_code
def yX9_thrown : MethodName := ⟨RX9, "thrown", "()I"⟩
abbrev cX9_fails : ByteArray := prog_11_method_3_code
def yX9_fails : MethodName := ⟨RX9, "fails", "(ZI)Z"⟩
abbrev cX9_in : ByteArray := prog_11_method_4_code
def yX9_in : MethodName := ⟨RX9, "in", "(III)Z"⟩
abbrev cX9_min : ByteArray := prog_11_method_5_code
def yX9_min : MethodName := ⟨RX9, "min", "(II)I"⟩
abbrev cX9_copy : ByteArray := prog_11_method_6_code
def yX9_copy : MethodName := ⟨RX9, "copy", "([I[I)V"⟩
abbrev cX9_at : ByteArray := prog_11_method_7_code
def yX9_at : MethodName := ⟨RX9, "at", "(I)I"⟩
abbrev cX9_when : ByteArray := prog_11_method_8_code
def yX9_when : MethodName := ⟨RX9, "when", "([II)I"⟩
abbrev cX9_append : ByteArray := prog_11_method_9_code
def yX9_append : MethodName := ⟨RX9, "append", "(IIIII)I"⟩
abbrev cX9_byteAt : ByteArray := prog_11_method_10_code
def yX9_byteAt : MethodName := ⟨RX9, "byteAt", "(I)I"⟩
abbrev cX9_next : ByteArray := prog_11_method_11_code
def yX9_next : MethodName := ⟨RX9, "next", "()I"⟩
abbrev cX9_isGood : ByteArray := prog_11_method_12_code
def yX9_isGood : MethodName := ⟨RX9, "isGood", "()Z"⟩
abbrev cX9_report : ByteArray := prog_11_method_13_code
def yX9_report : MethodName := ⟨RX9, "report", "(II)V"⟩
abbrev cX9_isDigit : ByteArray := prog_11_method_14_code
def yX9_isDigit : MethodName := ⟨RX9, "isDigit", "(I)Z"⟩
abbrev cX9_takeWord : ByteArray := prog_11_method_15_code
def yX9_takeWord : MethodName := ⟨RX9, "takeWord", "(Ljava/lang/String;)Z"⟩
abbrev cX9_expect : ByteArray := prog_11_method_16_code
def yX9_expect : MethodName := ⟨RX9, "expect", "(I)V"⟩
abbrev cX9_number : ByteArray := prog_11_method_17_code
def yX9_number : MethodName := ⟨RX9, "number", "(II)I"⟩
abbrev cX9_emit : ByteArray := prog_11_method_18_code
def yX9_emit : MethodName := ⟨RX9, "emit", "(I)V"⟩
abbrev cX9_factor : ByteArray := prog_11_method_19_code
def yX9_factor : MethodName := ⟨RX9, "factor", "()V"⟩
abbrev cX9_term : ByteArray := prog_11_method_20_code
def yX9_term : MethodName := ⟨RX9, "term", "()V"⟩
abbrev cX9_sum : ByteArray := prog_11_method_21_code
def yX9_sum : MethodName := ⟨RX9, "sum", "()V"⟩
abbrev cX9_once : ByteArray := prog_11_method_22_code
def yX9_once : MethodName := ⟨RX9, "once", "(II)V"⟩
abbrev cX9_readBreak : ByteArray := prog_11_method_23_code
def yX9_readBreak : MethodName := ⟨RX9, "readBreak", "(I)V"⟩
abbrev cX9_readSponsor : ByteArray := prog_11_method_24_code
def yX9_readSponsor : MethodName := ⟨RX9, "readSponsor", "(I)V"⟩
abbrev cX9_readBan : ByteArray := prog_11_method_25_code
def yX9_readBan : MethodName := ⟨RX9, "readBan", "(I)V"⟩
abbrev cX9_statement : ByteArray := prog_11_method_26_code
def yX9_statement : MethodName := ⟨RX9, "statement", "()V"⟩
abbrev cX9_sortBreaks : ByteArray := prog_11_method_27_code
def yX9_sortBreaks : MethodName := ⟨RX9, "sortBreaks", "()V"⟩
abbrev cX9_load : ByteArray := prog_11_method_28_code
def yX9_load : MethodName := ⟨RX9, "load", "(I)I"⟩
abbrev cX9_errorOffset : ByteArray := prog_11_method_29_code
def yX9_errorOffset : MethodName := ⟨RX9, "errorOffset", "()I"⟩
abbrev cX9_spotAt : ByteArray := prog_11_method_30_code
def yX9_spotAt : MethodName := ⟨RX9, "spotAt", "(II)I"⟩
abbrev cX9_countOf : ByteArray := prog_11_method_31_code
def yX9_countOf : MethodName := ⟨RX9, "countOf", "(I)I"⟩
abbrev cX9_usedOf : ByteArray := prog_11_method_32_code
def yX9_usedOf : MethodName := ⟨RX9, "usedOf", "(I)I"⟩
abbrev cX9_hasSpot : ByteArray := prog_11_method_33_code
def yX9_hasSpot : MethodName := ⟨RX9, "hasSpot", "(II)Z"⟩
abbrev cX9_spotsOf : ByteArray := prog_11_method_34_code
def yX9_spotsOf : MethodName := ⟨RX9, "spotsOf", "(IIII)I"⟩
abbrev cX9_clash : ByteArray := prog_11_method_35_code
def yX9_clash : MethodName := ⟨RX9, "clash", "(II)Z"⟩
abbrev cX9_placeFor : ByteArray := prog_11_method_36_code
def yX9_placeFor : MethodName := ⟨RX9, "placeFor", "(II)I"⟩
abbrev cX9_reasonOf : ByteArray := prog_11_method_37_code
def yX9_reasonOf : MethodName := ⟨RX9, "reasonOf", "(III)I"⟩
abbrev cX9_put : ByteArray := prog_11_method_38_code
def yX9_put : MethodName := ⟨RX9, "put", "(IIIII)V"⟩
abbrev cX9_limited : ByteArray := prog_11_method_39_code
def yX9_limited : MethodName := ⟨RX9, "limited", "(J)J"⟩
abbrev cX9_operate : ByteArray := prog_11_method_40_code
def yX9_operate : MethodName := ⟨RX9, "operate", "(IJJ)J"⟩
abbrev cX9_priceOf : ByteArray := prog_11_method_41_code
def yX9_priceOf : MethodName := ⟨RX9, "priceOf", "(III)I"⟩
abbrev cX9_findCheapest : ByteArray := prog_11_method_42_code
def yX9_findCheapest : MethodName := ⟨RX9, "findCheapest", "(II)I"⟩
abbrev cX9_layOrders : ByteArray := prog_11_method_43_code
def yX9_layOrders : MethodName := ⟨RX9, "layOrders", "()V"⟩
abbrev cX9_countOrders : ByteArray := prog_11_method_44_code
def yX9_countOrders : MethodName := ⟨RX9, "countOrders", "(I)I"⟩
abbrev cX9_layFirst : ByteArray := prog_11_method_45_code
def yX9_layFirst : MethodName := ⟨RX9, "layFirst", "(I)V"⟩
abbrev cX9_noBreak : ByteArray := prog_11_method_46_code
def yX9_noBreak : MethodName := ⟨RX9, "noBreak", "(I)Z"⟩
abbrev cX9_noSponsor : ByteArray := prog_11_method_47_code
def yX9_noSponsor : MethodName := ⟨RX9, "noSponsor", "(I)Z"⟩
abbrev cX9_noSeconds : ByteArray := prog_11_method_48_code
def yX9_noSeconds : MethodName := ⟨RX9, "noSeconds", "(I)Z"⟩
abbrev cX9_noRequest : ByteArray := prog_11_method_49_code
def yX9_noRequest : MethodName := ⟨RX9, "noRequest", "(III)Z"⟩
abbrev cX9_breaks : ByteArray := prog_11_method_50_code
def yX9_breaks : MethodName := ⟨RX9, "breaks", "()I"⟩
abbrev cX9_sponsors : ByteArray := prog_11_method_51_code
def yX9_sponsors : MethodName := ⟨RX9, "sponsors", "()I"⟩
abbrev cX9_breakOf : ByteArray := prog_11_method_52_code
def yX9_breakOf : MethodName := ⟨RX9, "breakOf", "(II)I"⟩
abbrev cX9_spot : ByteArray := prog_11_method_53_code
def yX9_spot : MethodName := ⟨RX9, "spot", "(III)I"⟩
abbrev cX9_owedOf : ByteArray := prog_11_method_54_code
def yX9_owedOf : MethodName := ⟨RX9, "owedOf", "(I)I"⟩
abbrev cX9_sponsor : ByteArray := prog_11_method_55_code
def yX9_sponsor : MethodName := ⟨RX9, "sponsor", "(II)I"⟩
abbrev cX9_isBanned : ByteArray := prog_11_method_56_code
def yX9_isBanned : MethodName := ⟨RX9, "isBanned", "(II)Z"⟩
abbrev cX9_spotsOn : ByteArray := prog_11_method_57_code
def yX9_spotsOn : MethodName := ⟨RX9, "spotsOn", "(II)I"⟩
abbrev cX9_reason : ByteArray := prog_11_method_58_code
def yX9_reason : MethodName := ⟨RX9, "reason", "(III)I"⟩
abbrev cX9_price : ByteArray := prog_11_method_59_code
def yX9_price : MethodName := ⟨RX9, "price", "(III)I"⟩
abbrev cX9_cheapest : ByteArray := prog_11_method_60_code
def yX9_cheapest : MethodName := ⟨RX9, "cheapest", "(II)I"⟩
abbrev cX9_widest : ByteArray := prog_11_method_61_code
def yX9_widest : MethodName := ⟨RX9, "widest", "(II)I"⟩
abbrev cX9_income : ByteArray := prog_11_method_62_code
def yX9_income : MethodName := ⟨RX9, "income", "()I"⟩
abbrev cX9_owed : ByteArray := prog_11_method_63_code
def yX9_owed : MethodName := ⟨RX9, "owed", "()I"⟩
abbrev cX9_owedSpot : ByteArray := prog_11_method_64_code
def yX9_owedSpot : MethodName := ⟨RX9, "owedSpot", "(II)I"⟩
abbrev cX9_noSet : ByteArray := prog_11_method_65_code
def yX9_noSet : MethodName := ⟨RX9, "noSet", "(I)Z"⟩
abbrev cX9_arrangements : ByteArray := prog_11_method_66_code
def yX9_arrangements : MethodName := ⟨RX9, "arrangements", "(I)I"⟩
abbrev cX9_arranged : ByteArray := prog_11_method_67_code
def yX9_arranged : MethodName := ⟨RX9, "arranged", "(II)I"⟩
abbrev cX9_remember : ByteArray := prog_11_method_68_code
def yX9_remember : MethodName := ⟨RX9, "remember", "()V"⟩
abbrev cX9_books : ByteArray := prog_11_method_69_code
def yX9_books : MethodName := ⟨RX9, "books", "(III)I"⟩
abbrev cX9_book : ByteArray := prog_11_method_70_code
def yX9_book : MethodName := ⟨RX9, "book", "(III)I"⟩
abbrev cX9_setOf : ByteArray := prog_11_method_71_code
def yX9_setOf : MethodName := ⟨RX9, "setOf", "(I)I"⟩
abbrev cX9_reorder : ByteArray := prog_11_method_72_code
def yX9_reorder : MethodName := ⟨RX9, "reorder", "(II)I"⟩
abbrev cX9_bookAnyhow : ByteArray := prog_11_method_73_code
def yX9_bookAnyhow : MethodName := ⟨RX9, "bookAnyhow", "(III)I"⟩
abbrev cX9_remove : ByteArray := prog_11_method_74_code
def yX9_remove : MethodName := ⟨RX9, "remove", "(II)I"⟩
abbrev cX9_air : ByteArray := prog_11_method_75_code
def yX9_air : MethodName := ⟨RX9, "air", "()I"⟩
abbrev cX9_cancel : ByteArray := prog_11_method_76_code
def yX9_cancel : MethodName := ⟨RX9, "cancel", "(I)I"⟩
abbrev cX9_goodFor : ByteArray := prog_11_method_77_code
def yX9_goodFor : MethodName := ⟨RX9, "goodFor", "(I)I"⟩
abbrev cX9_makeGood : ByteArray := prog_11_method_78_code
def yX9_makeGood : MethodName := ⟨RX9, "makeGood", "()I"⟩
abbrev cX9_campaign : ByteArray := prog_11_method_79_code
def yX9_campaign : MethodName := ⟨RX9, "campaign", "(III)I"⟩
abbrev cX9_setCap : ByteArray := prog_11_method_80_code
def yX9_setCap : MethodName := ⟨RX9, "setCap", "(II)I"⟩
abbrev cX9_undo : ByteArray := prog_11_method_81_code
def yX9_undo : MethodName := ⟨RX9, "undo", "()I"⟩
abbrev cX9_checksum : ByteArray := prog_11_method_82_code
def yX9_checksum : MethodName := ⟨RX9, "checksum", "()J"⟩
def RJx145de : String := "java/io/Serializable"
def TJx145de : u_T := fun k => match k with
  | _ => ("", "", "", false)
def tyJx145de : Nat → FieldType := fun k => match k with
  | _ => .int
abbrev wsJx145de0 : List Cond := u_ws RJx145de TJx145de 0
theorem nmJx145de : ∀ a, a < 0 → ∀ b, b < 0 → a ≠ b → (TJx145de a).2.1 ≠ (TJx145de b).2.1 := by decide +kernel
theorem tyJx145de_ok : ∀ k, k < 0 → parseFieldDescriptor (TJx145de k).2.2.1 = some (tyJx145de k) := by decide +kernel
def RJx9f9b0 : String := "java/lang/CharSequence"
def TJx9f9b0 : u_T := fun k => match k with
  | _ => ("", "", "", false)
def tyJx9f9b0 : Nat → FieldType := fun k => match k with
  | _ => .int
abbrev wsJx9f9b00 : List Cond := u_ws RJx9f9b0 TJx9f9b0 0
theorem nmJx9f9b0 : ∀ a, a < 0 → ∀ b, b < 0 → a ≠ b → (TJx9f9b0 a).2.1 ≠ (TJx9f9b0 b).2.1 := by decide +kernel
theorem tyJx9f9b0_ok : ∀ k, k < 0 → parseFieldDescriptor (TJx9f9b0 k).2.2.1 = some (tyJx9f9b0 k) := by decide +kernel
def RJxb160c : String := "java/lang/Comparable"
def TJxb160c : u_T := fun k => match k with
  | _ => ("", "", "", false)
def tyJxb160c : Nat → FieldType := fun k => match k with
  | _ => .int
abbrev wsJxb160c0 : List Cond := u_ws RJxb160c TJxb160c 0
theorem nmJxb160c : ∀ a, a < 0 → ∀ b, b < 0 → a ≠ b → (TJxb160c a).2.1 ≠ (TJxb160c b).2.1 := by decide +kernel
theorem tyJxb160c_ok : ∀ k, k < 0 → parseFieldDescriptor (TJxb160c k).2.2.1 = some (tyJxb160c k) := by decide +kernel
def RJ6 : String := "java/lang/Integer"
def TJ6 : u_T := fun k => match k with
  | _ => ("", "", "", false)
def tyJ6 : Nat → FieldType := fun k => match k with
  | _ => .int
abbrev wsJ60 : List Cond := u_ws RJ6 TJ6 0
theorem nmJ6 : ∀ a, a < 0 → ∀ b, b < 0 → a ≠ b → (TJ6 a).2.1 ≠ (TJ6 b).2.1 := by decide +kernel
theorem tyJ6_ok : ∀ k, k < 0 → parseFieldDescriptor (TJ6 k).2.2.1 = some (tyJ6 k) := by decide +kernel
abbrev cJ6_bitCount_0f7a4 : ByteArray := prog_19_method_49_code
def yJ6_bitCount_0f7a4 : MethodName := ⟨RJ6, "bitCount", "(I)I"⟩
def RJ9 : String := "java/lang/Math"
def TJ9 : u_T := fun k => match k with
  | _ => ("", "", "", false)
def tyJ9 : Nat → FieldType := fun k => match k with
  | _ => .int
abbrev wsJ90 : List Cond := u_ws RJ9 TJ9 0
theorem nmJ9 : ∀ a, a < 0 → ∀ b, b < 0 → a ≠ b → (TJ9 a).2.1 ≠ (TJ9 b).2.1 := by decide +kernel
theorem tyJ9_ok : ∀ k, k < 0 → parseFieldDescriptor (TJ9 k).2.2.1 = some (tyJ9 k) := by decide +kernel
abbrev cJ9_max_7cf53 : ByteArray := prog_20_method_65_code
def yJ9_max_7cf53 : MethodName := ⟨RJ9, "max", "(II)I"⟩
abbrev cJ9_max_f86c9 : ByteArray := prog_20_method_66_code
def yJ9_max_f86c9 : MethodName := ⟨RJ9, "max", "(JJ)J"⟩
abbrev cJ9_min_7cf53 : ByteArray := prog_20_method_69_code
def yJ9_min_7cf53 : MethodName := ⟨RJ9, "min", "(II)I"⟩
abbrev cJ9_min_f86c9 : ByteArray := prog_20_method_70_code
def yJ9_min_f86c9 : MethodName := ⟨RJ9, "min", "(JJ)J"⟩
def RJ0 : String := "java/lang/String"
def TJ0 : u_T := fun k => match k with
  | _ => ("", "", "", false)
def tyJ0 : Nat → FieldType := fun k => match k with
  | _ => .int
abbrev wsJ00 : List Cond := u_ws RJ0 TJ0 0
theorem nmJ0 : ∀ a, a < 0 → ∀ b, b < 0 → a ≠ b → (TJ0 a).2.1 ≠ (TJ0 b).2.1 := by decide +kernel
theorem tyJ0_ok : ∀ k, k < 0 → parseFieldDescriptor (TJ0 k).2.2.1 = some (tyJ0 k) := by decide +kernel
abbrev cJ0_length_8abf5 : ByteArray := prog_22_method_54_code
def yJ0_length_8abf5 : MethodName := ⟨RJ0, "length", "()I"⟩
abbrev cJ0_charAt_5068e : ByteArray := prog_22_method_56_code
def yJ0_charAt_5068e : MethodName := ⟨RJ0, "charAt", "(I)C"⟩
abbrev cJ0_coder_7d493 : ByteArray := prog_22_method_152_code
def yJ0_coder_7d493 : MethodName := ⟨RJ0, "coder", "()B"⟩
abbrev cJ0_isLatin1_aae02 : ByteArray := prog_22_method_154_code
def yJ0_isLatin1_aae02 : MethodName := ⟨RJ0, "isLatin1", "()Z"⟩
abbrev cJ0_checkIndex_df160 : ByteArray := prog_22_method_155_code
def yJ0_checkIndex_df160 : MethodName := ⟨RJ0, "checkIndex", "(II)V"⟩
def RJ1 : String := "java/lang/StringLatin1"
def TJ1 : u_T := fun k => match k with
  | _ => ("", "", "", false)
def tyJ1 : Nat → FieldType := fun k => match k with
  | _ => .int
abbrev wsJ10 : List Cond := u_ws RJ1 TJ1 0
theorem nmJ1 : ∀ a, a < 0 → ∀ b, b < 0 → a ≠ b → (TJ1 a).2.1 ≠ (TJ1 b).2.1 := by decide +kernel
theorem tyJ1_ok : ∀ k, k < 0 → parseFieldDescriptor (TJ1 k).2.2.1 = some (tyJ1 k) := by decide +kernel
abbrev cJ1_charAt_3b067 : ByteArray := prog_23_method_2_code
def yJ1_charAt_3b067 : MethodName := ⟨RJ1, "charAt", "([BI)C"⟩
def RJ2 : String := "java/lang/StringUTF16"
def TJ2 : u_T := fun k => match k with
  | _ => ("", "", "", false)
def tyJ2 : Nat → FieldType := fun k => match k with
  | _ => .int
abbrev wsJ20 : List Cond := u_ws RJ2 TJ2 0
theorem nmJ2 : ∀ a, a < 0 → ∀ b, b < 0 → a ≠ b → (TJ2 a).2.1 ≠ (TJ2 b).2.1 := by decide +kernel
theorem tyJ2_ok : ∀ k, k < 0 → parseFieldDescriptor (TJ2 k).2.2.1 = some (tyJ2 k) := by decide +kernel
abbrev cJ2_getChar_3b067 : ByteArray := prog_24_method_5_code
def yJ2_getChar_3b067 : MethodName := ⟨RJ2, "getChar", "([BI)C"⟩
abbrev cJ2_length_9d52b : ByteArray := prog_24_method_6_code
def yJ2_length_9d52b : MethodName := ⟨RJ2, "length", "([B)I"⟩
abbrev cJ2_charAt_3b067 : ByteArray := prog_24_method_83_code
def yJ2_charAt_3b067 : MethodName := ⟨RJ2, "charAt", "([BI)C"⟩
abbrev cJ2_checkIndex_2214a : ByteArray := prog_24_method_91_code
def yJ2_checkIndex_2214a : MethodName := ⟨RJ2, "checkIndex", "(I[B)V"⟩
def RJxfd54e : String := "java/lang/constant/Constable"
def TJxfd54e : u_T := fun k => match k with
  | _ => ("", "", "", false)
def tyJxfd54e : Nat → FieldType := fun k => match k with
  | _ => .int
abbrev wsJxfd54e0 : List Cond := u_ws RJxfd54e TJxfd54e 0
theorem nmJxfd54e : ∀ a, a < 0 → ∀ b, b < 0 → a ≠ b → (TJxfd54e a).2.1 ≠ (TJxfd54e b).2.1 := by decide +kernel
theorem tyJxfd54e_ok : ∀ k, k < 0 → parseFieldDescriptor (TJxfd54e k).2.2.1 = some (tyJxfd54e k) := by decide +kernel
def RJx3cf43 : String := "java/lang/constant/ConstantDesc"
def TJx3cf43 : u_T := fun k => match k with
  | _ => ("", "", "", false)
def tyJx3cf43 : Nat → FieldType := fun k => match k with
  | _ => .int
abbrev wsJx3cf430 : List Cond := u_ws RJx3cf43 TJx3cf43 0
theorem nmJx3cf43 : ∀ a, a < 0 → ∀ b, b < 0 → a ≠ b → (TJx3cf43 a).2.1 ≠ (TJx3cf43 b).2.1 := by decide +kernel
theorem tyJx3cf43_ok : ∀ k, k < 0 → parseFieldDescriptor (TJx3cf43 k).2.2.1 = some (tyJx3cf43 k) := by decide +kernel
def RJ3 : String := "jdk/internal/util/Preconditions"
def TJ3 : u_T := fun k => match k with
  | _ => ("", "", "", false)
def tyJ3 : Nat → FieldType := fun k => match k with
  | _ => .int
abbrev wsJ30 : List Cond := u_ws RJ3 TJ3 0
theorem nmJ3 : ∀ a, a < 0 → ∀ b, b < 0 → a ≠ b → (TJ3 a).2.1 ≠ (TJ3 b).2.1 := by decide +kernel
theorem tyJ3_ok : ∀ k, k < 0 → parseFieldDescriptor (TJ3 k).2.2.1 = some (tyJ3 k) := by decide +kernel
abbrev cJ3_checkIndex_8e157 : ByteArray := prog_29_method_11_code
def yJ3_checkIndex_8e157 : MethodName := ⟨RJ3, "checkIndex", "(IILjava/util/function/BiFunction;)I"⟩
def RL : String := "AdBreaksLaw"
abbrev cL_load : ByteArray := method_3_code
def yL_load : MethodName := ⟨RL, "load", "(LAdBreaks;I[J)I"⟩
abbrev cL_breakOf : ByteArray := method_4_code
def yL_breakOf : MethodName := ⟨RL, "breakOf", "(LAdBreaks;II[J)I"⟩
abbrev cL_spot : ByteArray := method_5_code
def yL_spot : MethodName := ⟨RL, "spot", "(LAdBreaks;III[J)I"⟩
abbrev cL_sponsor : ByteArray := method_6_code
def yL_sponsor : MethodName := ⟨RL, "sponsor", "(LAdBreaks;II[J)I"⟩
abbrev cL_isBanned : ByteArray := method_7_code
def yL_isBanned : MethodName := ⟨RL, "isBanned", "(LAdBreaks;II[J)I"⟩
abbrev cL_spotsOn : ByteArray := method_8_code
def yL_spotsOn : MethodName := ⟨RL, "spotsOn", "(LAdBreaks;II[J)I"⟩
abbrev cL_reason : ByteArray := method_9_code
def yL_reason : MethodName := ⟨RL, "reason", "(LAdBreaks;III[J)I"⟩
abbrev cL_price : ByteArray := method_10_code
def yL_price : MethodName := ⟨RL, "price", "(LAdBreaks;III[J)I"⟩
abbrev cL_cheapest : ByteArray := method_11_code
def yL_cheapest : MethodName := ⟨RL, "cheapest", "(LAdBreaks;II[J)I"⟩
abbrev cL_widest : ByteArray := method_12_code
def yL_widest : MethodName := ⟨RL, "widest", "(LAdBreaks;II[J)I"⟩
abbrev cL_owedSpot : ByteArray := method_13_code
def yL_owedSpot : MethodName := ⟨RL, "owedSpot", "(LAdBreaks;II[J)I"⟩
abbrev cL_arrangements : ByteArray := method_14_code
def yL_arrangements : MethodName := ⟨RL, "arrangements", "(LAdBreaks;I[J)I"⟩
abbrev cL_arranged : ByteArray := method_15_code
def yL_arranged : MethodName := ⟨RL, "arranged", "(LAdBreaks;II[J)I"⟩
abbrev cL_book : ByteArray := method_16_code
def yL_book : MethodName := ⟨RL, "book", "(LAdBreaks;III[J)I"⟩
abbrev cL_bookAnyhow : ByteArray := method_17_code
def yL_bookAnyhow : MethodName := ⟨RL, "bookAnyhow", "(LAdBreaks;III[J)I"⟩
abbrev cL_remove : ByteArray := method_18_code
def yL_remove : MethodName := ⟨RL, "remove", "(LAdBreaks;II[J)I"⟩
abbrev cL_air : ByteArray := method_19_code
def yL_air : MethodName := ⟨RL, "air", "(LAdBreaks;[J)I"⟩
abbrev cL_cancel : ByteArray := method_20_code
def yL_cancel : MethodName := ⟨RL, "cancel", "(LAdBreaks;I[J)I"⟩
abbrev cL_campaign : ByteArray := method_21_code
def yL_campaign : MethodName := ⟨RL, "campaign", "(LAdBreaks;III[J)I"⟩
abbrev cL_setCap : ByteArray := method_22_code
def yL_setCap : MethodName := ⟨RL, "setCap", "(LAdBreaks;II[J)I"⟩
abbrev cL_law : ByteArray := code
def yL_law : MethodName := ⟨RL, "law", "([I)Z"⟩
theorem inX0 : ∀ w ∈ wsX00, w ∈ lw_tbl := by decide +kernel
theorem inX1 : ∀ w ∈ wsX10, w ∈ lw_tbl := by decide +kernel
theorem inX2 : ∀ w ∈ wsX20, w ∈ lw_tbl := by decide +kernel
theorem inX3 : ∀ w ∈ wsX30, w ∈ lw_tbl := by decide +kernel
theorem inX4 : ∀ w ∈ wsX40, w ∈ lw_tbl := by decide +kernel
theorem inX5 : ∀ w ∈ wsX50, w ∈ lw_tbl := by decide +kernel
theorem inX6 : ∀ w ∈ wsX60, w ∈ lw_tbl := by decide +kernel
theorem inX7 : ∀ w ∈ wsX70, w ∈ lw_tbl := by decide +kernel
theorem inX8 : ∀ w ∈ wsX80, w ∈ lw_tbl := by decide +kernel
theorem inX9 : ∀ w ∈ wsX90, w ∈ lw_tbl := by decide +kernel
theorem inJx145de : ∀ w ∈ wsJx145de0, w ∈ lw_tbl := by decide +kernel
theorem inJx9f9b0 : ∀ w ∈ wsJx9f9b00, w ∈ lw_tbl := by decide +kernel
theorem inJxb160c : ∀ w ∈ wsJxb160c0, w ∈ lw_tbl := by decide +kernel
theorem inJ6 : ∀ w ∈ wsJ60, w ∈ lw_tbl := by decide +kernel
theorem inJ9 : ∀ w ∈ wsJ90, w ∈ lw_tbl := by decide +kernel
theorem inJ0 : ∀ w ∈ wsJ00, w ∈ lw_tbl := by decide +kernel
theorem inJ1 : ∀ w ∈ wsJ10, w ∈ lw_tbl := by decide +kernel
theorem inJ2 : ∀ w ∈ wsJ20, w ∈ lw_tbl := by decide +kernel
theorem inJxfd54e : ∀ w ∈ wsJxfd54e0, w ∈ lw_tbl := by decide +kernel
theorem inJx3cf43 : ∀ w ∈ wsJx3cf430, w ∈ lw_tbl := by decide +kernel
theorem inJ3 : ∀ w ∈ wsJ30, w ∈ lw_tbl := by decide +kernel
theorem dJ6_bitCount_0f7a4_0 : decode cJ6_bitCount_0f7a4 0 = .ok (.iload_n 0, 1) := by decide +kernel
theorem dJ6_bitCount_0f7a4_1 : decode cJ6_bitCount_0f7a4 1 = .ok (.iload_n 0, 1) := by decide +kernel
theorem dJ6_bitCount_0f7a4_2 : decode cJ6_bitCount_0f7a4 2 = .ok (.iconst 1, 1) := by decide +kernel
theorem dJ6_bitCount_0f7a4_3 : decode cJ6_bitCount_0f7a4 3 = .ok (.iushr, 1) := by decide +kernel
theorem dJ6_bitCount_0f7a4_4 : decode cJ6_bitCount_0f7a4 4 = .ok (.ldc_w 265, 3) := by decide +kernel
theorem dJ6_bitCount_0f7a4_7 : decode cJ6_bitCount_0f7a4 7 = .ok (.iand, 1) := by decide +kernel
theorem dJ6_bitCount_0f7a4_8 : decode cJ6_bitCount_0f7a4 8 = .ok (.isub, 1) := by decide +kernel
theorem dJ6_bitCount_0f7a4_9 : decode cJ6_bitCount_0f7a4 9 = .ok (.istore_n 0, 1) := by decide +kernel
theorem dJ6_bitCount_0f7a4_10 : decode cJ6_bitCount_0f7a4 10 = .ok (.iload_n 0, 1) := by decide +kernel
theorem dJ6_bitCount_0f7a4_11 : decode cJ6_bitCount_0f7a4 11 = .ok (.ldc_w 266, 3) := by decide +kernel
theorem dJ6_bitCount_0f7a4_14 : decode cJ6_bitCount_0f7a4 14 = .ok (.iand, 1) := by decide +kernel
theorem dJ6_bitCount_0f7a4_15 : decode cJ6_bitCount_0f7a4 15 = .ok (.iload_n 0, 1) := by decide +kernel
theorem dJ6_bitCount_0f7a4_16 : decode cJ6_bitCount_0f7a4 16 = .ok (.iconst 2, 1) := by decide +kernel
theorem dJ6_bitCount_0f7a4_17 : decode cJ6_bitCount_0f7a4 17 = .ok (.iushr, 1) := by decide +kernel
theorem dJ6_bitCount_0f7a4_18 : decode cJ6_bitCount_0f7a4 18 = .ok (.ldc_w 266, 3) := by decide +kernel
theorem dJ6_bitCount_0f7a4_21 : decode cJ6_bitCount_0f7a4 21 = .ok (.iand, 1) := by decide +kernel
theorem dJ6_bitCount_0f7a4_22 : decode cJ6_bitCount_0f7a4 22 = .ok (.iadd, 1) := by decide +kernel
theorem dJ6_bitCount_0f7a4_23 : decode cJ6_bitCount_0f7a4 23 = .ok (.istore_n 0, 1) := by decide +kernel
theorem dJ6_bitCount_0f7a4_24 : decode cJ6_bitCount_0f7a4 24 = .ok (.iload_n 0, 1) := by decide +kernel
theorem dJ6_bitCount_0f7a4_25 : decode cJ6_bitCount_0f7a4 25 = .ok (.iload_n 0, 1) := by decide +kernel
theorem dJ6_bitCount_0f7a4_26 : decode cJ6_bitCount_0f7a4 26 = .ok (.iconst 4, 1) := by decide +kernel
theorem dJ6_bitCount_0f7a4_27 : decode cJ6_bitCount_0f7a4 27 = .ok (.iushr, 1) := by decide +kernel
theorem dJ6_bitCount_0f7a4_28 : decode cJ6_bitCount_0f7a4 28 = .ok (.iadd, 1) := by decide +kernel
theorem dJ6_bitCount_0f7a4_29 : decode cJ6_bitCount_0f7a4 29 = .ok (.ldc_w 267, 3) := by decide +kernel
theorem dJ6_bitCount_0f7a4_32 : decode cJ6_bitCount_0f7a4 32 = .ok (.iand, 1) := by decide +kernel
theorem dJ6_bitCount_0f7a4_33 : decode cJ6_bitCount_0f7a4 33 = .ok (.istore_n 0, 1) := by decide +kernel
theorem dJ6_bitCount_0f7a4_34 : decode cJ6_bitCount_0f7a4 34 = .ok (.iload_n 0, 1) := by decide +kernel
theorem dJ6_bitCount_0f7a4_35 : decode cJ6_bitCount_0f7a4 35 = .ok (.iload_n 0, 1) := by decide +kernel
theorem dJ6_bitCount_0f7a4_36 : decode cJ6_bitCount_0f7a4 36 = .ok (.bipush 8, 2) := by decide +kernel
theorem dJ6_bitCount_0f7a4_38 : decode cJ6_bitCount_0f7a4 38 = .ok (.iushr, 1) := by decide +kernel
theorem dJ6_bitCount_0f7a4_39 : decode cJ6_bitCount_0f7a4 39 = .ok (.iadd, 1) := by decide +kernel
theorem dJ6_bitCount_0f7a4_40 : decode cJ6_bitCount_0f7a4 40 = .ok (.istore_n 0, 1) := by decide +kernel
theorem dJ6_bitCount_0f7a4_41 : decode cJ6_bitCount_0f7a4 41 = .ok (.iload_n 0, 1) := by decide +kernel
theorem dJ6_bitCount_0f7a4_42 : decode cJ6_bitCount_0f7a4 42 = .ok (.iload_n 0, 1) := by decide +kernel
theorem dJ6_bitCount_0f7a4_43 : decode cJ6_bitCount_0f7a4 43 = .ok (.bipush 16, 2) := by decide +kernel
theorem dJ6_bitCount_0f7a4_45 : decode cJ6_bitCount_0f7a4 45 = .ok (.iushr, 1) := by decide +kernel
theorem dJ6_bitCount_0f7a4_46 : decode cJ6_bitCount_0f7a4 46 = .ok (.iadd, 1) := by decide +kernel
theorem dJ6_bitCount_0f7a4_47 : decode cJ6_bitCount_0f7a4 47 = .ok (.istore_n 0, 1) := by decide +kernel
theorem dJ6_bitCount_0f7a4_48 : decode cJ6_bitCount_0f7a4 48 = .ok (.iload_n 0, 1) := by decide +kernel
theorem dJ6_bitCount_0f7a4_49 : decode cJ6_bitCount_0f7a4 49 = .ok (.bipush 63, 2) := by decide +kernel
theorem dJ6_bitCount_0f7a4_51 : decode cJ6_bitCount_0f7a4 51 = .ok (.iand, 1) := by decide +kernel
theorem dJ6_bitCount_0f7a4_52 : decode cJ6_bitCount_0f7a4 52 = .ok (.ireturn, 1) := by decide +kernel
theorem dJ9_max_7cf53_0 : decode cJ9_max_7cf53 0 = .ok (.iload_n 0, 1) := by decide +kernel
theorem dJ9_max_7cf53_1 : decode cJ9_max_7cf53 1 = .ok (.iload_n 1, 1) := by decide +kernel
theorem dJ9_max_7cf53_2 : decode cJ9_max_7cf53 2 = .ok (.if_icmp .lt 7, 3) := by decide +kernel
theorem dJ9_max_7cf53_5 : decode cJ9_max_7cf53 5 = .ok (.iload_n 0, 1) := by decide +kernel
theorem dJ9_max_7cf53_6 : decode cJ9_max_7cf53 6 = .ok (.goto 4, 3) := by decide +kernel
theorem dJ9_max_7cf53_9 : decode cJ9_max_7cf53 9 = .ok (.iload_n 1, 1) := by decide +kernel
theorem dJ9_max_7cf53_10 : decode cJ9_max_7cf53 10 = .ok (.ireturn, 1) := by decide +kernel
theorem dJ9_max_f86c9_0 : decode cJ9_max_f86c9 0 = .ok (.lload_n 0, 1) := by decide +kernel
theorem dJ9_max_f86c9_1 : decode cJ9_max_f86c9 1 = .ok (.lload_n 2, 1) := by decide +kernel
theorem dJ9_max_f86c9_2 : decode cJ9_max_f86c9 2 = .ok (.lcmp, 1) := by decide +kernel
theorem dJ9_max_f86c9_3 : decode cJ9_max_f86c9 3 = .ok (.ifCond .lt 7, 3) := by decide +kernel
theorem dJ9_max_f86c9_6 : decode cJ9_max_f86c9 6 = .ok (.lload_n 0, 1) := by decide +kernel
theorem dJ9_max_f86c9_7 : decode cJ9_max_f86c9 7 = .ok (.goto 4, 3) := by decide +kernel
theorem dJ9_max_f86c9_10 : decode cJ9_max_f86c9 10 = .ok (.lload_n 2, 1) := by decide +kernel
theorem dJ9_max_f86c9_11 : decode cJ9_max_f86c9 11 = .ok (.lreturn, 1) := by decide +kernel
theorem dJ9_min_7cf53_0 : decode cJ9_min_7cf53 0 = .ok (.iload_n 0, 1) := by decide +kernel
theorem dJ9_min_7cf53_1 : decode cJ9_min_7cf53 1 = .ok (.iload_n 1, 1) := by decide +kernel
theorem dJ9_min_7cf53_2 : decode cJ9_min_7cf53 2 = .ok (.if_icmp .gt 7, 3) := by decide +kernel
theorem dJ9_min_7cf53_5 : decode cJ9_min_7cf53 5 = .ok (.iload_n 0, 1) := by decide +kernel
theorem dJ9_min_7cf53_6 : decode cJ9_min_7cf53 6 = .ok (.goto 4, 3) := by decide +kernel
theorem dJ9_min_7cf53_9 : decode cJ9_min_7cf53 9 = .ok (.iload_n 1, 1) := by decide +kernel
theorem dJ9_min_7cf53_10 : decode cJ9_min_7cf53 10 = .ok (.ireturn, 1) := by decide +kernel
theorem dJ9_min_f86c9_0 : decode cJ9_min_f86c9 0 = .ok (.lload_n 0, 1) := by decide +kernel
theorem dJ9_min_f86c9_1 : decode cJ9_min_f86c9 1 = .ok (.lload_n 2, 1) := by decide +kernel
theorem dJ9_min_f86c9_2 : decode cJ9_min_f86c9 2 = .ok (.lcmp, 1) := by decide +kernel
theorem dJ9_min_f86c9_3 : decode cJ9_min_f86c9 3 = .ok (.ifCond .gt 7, 3) := by decide +kernel
theorem dJ9_min_f86c9_6 : decode cJ9_min_f86c9 6 = .ok (.lload_n 0, 1) := by decide +kernel
theorem dJ9_min_f86c9_7 : decode cJ9_min_f86c9 7 = .ok (.goto 4, 3) := by decide +kernel
theorem dJ9_min_f86c9_10 : decode cJ9_min_f86c9 10 = .ok (.lload_n 2, 1) := by decide +kernel
theorem dJ9_min_f86c9_11 : decode cJ9_min_f86c9 11 = .ok (.lreturn, 1) := by decide +kernel
theorem dJ0_length_8abf5_0 : decode cJ0_length_8abf5 0 = .ok (.aload_n 0, 1) := by decide +kernel
theorem dJ0_length_8abf5_1 : decode cJ0_length_8abf5 1 = .ok (.getfield 9, 3) := by decide +kernel
theorem dJ0_length_8abf5_4 : decode cJ0_length_8abf5 4 = .ok (.arraylength, 1) := by decide +kernel
theorem dJ0_length_8abf5_5 : decode cJ0_length_8abf5 5 = .ok (.aload_n 0, 1) := by decide +kernel
theorem dJ0_length_8abf5_6 : decode cJ0_length_8abf5 6 = .ok (.invokevirtual 335, 3) := by decide +kernel
theorem dJ0_length_8abf5_9 : decode cJ0_length_8abf5 9 = .ok (.ishr, 1) := by decide +kernel
theorem dJ0_length_8abf5_10 : decode cJ0_length_8abf5 10 = .ok (.ireturn, 1) := by decide +kernel
theorem dJ0_charAt_5068e_0 : decode cJ0_charAt_5068e 0 = .ok (.aload_n 0, 1) := by decide +kernel
theorem dJ0_charAt_5068e_1 : decode cJ0_charAt_5068e 1 = .ok (.invokevirtual 492, 3) := by decide +kernel
theorem dJ0_charAt_5068e_4 : decode cJ0_charAt_5068e 4 = .ok (.ifCond .eq 12, 3) := by decide +kernel
theorem dJ0_charAt_5068e_7 : decode cJ0_charAt_5068e 7 = .ok (.aload_n 0, 1) := by decide +kernel
theorem dJ0_charAt_5068e_8 : decode cJ0_charAt_5068e 8 = .ok (.getfield 9, 3) := by decide +kernel
theorem dJ0_charAt_5068e_11 : decode cJ0_charAt_5068e 11 = .ok (.iload_n 1, 1) := by decide +kernel
theorem dJ0_charAt_5068e_12 : decode cJ0_charAt_5068e 12 = .ok (.invokestatic 495, 3) := by decide +kernel
theorem dJ0_charAt_5068e_15 : decode cJ0_charAt_5068e 15 = .ok (.ireturn, 1) := by decide +kernel
theorem dJ0_charAt_5068e_16 : decode cJ0_charAt_5068e 16 = .ok (.aload_n 0, 1) := by decide +kernel
theorem dJ0_charAt_5068e_17 : decode cJ0_charAt_5068e 17 = .ok (.getfield 9, 3) := by decide +kernel
theorem dJ0_charAt_5068e_20 : decode cJ0_charAt_5068e 20 = .ok (.iload_n 1, 1) := by decide +kernel
theorem dJ0_charAt_5068e_21 : decode cJ0_charAt_5068e 21 = .ok (.invokestatic 498, 3) := by decide +kernel
theorem dJ0_charAt_5068e_24 : decode cJ0_charAt_5068e 24 = .ok (.ireturn, 1) := by decide +kernel
theorem dJ0_coder_7d493_0 : decode cJ0_coder_7d493 0 = .ok (.getstatic 38, 3) := by decide +kernel
theorem dJ0_coder_7d493_3 : decode cJ0_coder_7d493 3 = .ok (.ifCond .eq 10, 3) := by decide +kernel
theorem dJ0_coder_7d493_6 : decode cJ0_coder_7d493 6 = .ok (.aload_n 0, 1) := by decide +kernel
theorem dJ0_coder_7d493_7 : decode cJ0_coder_7d493 7 = .ok (.getfield 15, 3) := by decide +kernel
theorem dJ0_coder_7d493_10 : decode cJ0_coder_7d493 10 = .ok (.goto 4, 3) := by decide +kernel
theorem dJ0_coder_7d493_13 : decode cJ0_coder_7d493 13 = .ok (.iconst 1, 1) := by decide +kernel
theorem dJ0_coder_7d493_14 : decode cJ0_coder_7d493 14 = .ok (.ireturn, 1) := by decide +kernel
theorem dJ0_isLatin1_aae02_0 : decode cJ0_isLatin1_aae02 0 = .ok (.getstatic 38, 3) := by decide +kernel
theorem dJ0_isLatin1_aae02_3 : decode cJ0_isLatin1_aae02 3 = .ok (.ifCond .eq 14, 3) := by decide +kernel
theorem dJ0_isLatin1_aae02_6 : decode cJ0_isLatin1_aae02 6 = .ok (.aload_n 0, 1) := by decide +kernel
theorem dJ0_isLatin1_aae02_7 : decode cJ0_isLatin1_aae02 7 = .ok (.getfield 15, 3) := by decide +kernel
theorem dJ0_isLatin1_aae02_10 : decode cJ0_isLatin1_aae02 10 = .ok (.ifCond .ne 7, 3) := by decide +kernel
theorem dJ0_isLatin1_aae02_13 : decode cJ0_isLatin1_aae02 13 = .ok (.iconst 1, 1) := by decide +kernel
theorem dJ0_isLatin1_aae02_14 : decode cJ0_isLatin1_aae02 14 = .ok (.goto 4, 3) := by decide +kernel
theorem dJ0_isLatin1_aae02_17 : decode cJ0_isLatin1_aae02 17 = .ok (.iconst 0, 1) := by decide +kernel
theorem dJ0_isLatin1_aae02_18 : decode cJ0_isLatin1_aae02 18 = .ok (.ireturn, 1) := by decide +kernel
theorem dJ0_checkIndex_df160_0 : decode cJ0_checkIndex_df160 0 = .ok (.iload_n 0, 1) := by decide +kernel
theorem dJ0_checkIndex_df160_1 : decode cJ0_checkIndex_df160 1 = .ok (.iload_n 1, 1) := by decide +kernel
theorem dJ0_checkIndex_df160_2 : decode cJ0_checkIndex_df160 2 = .ok (.getstatic 1053, 3) := by decide +kernel
theorem dJ0_checkIndex_df160_5 : decode cJ0_checkIndex_df160 5 = .ok (.invokestatic 1059, 3) := by decide +kernel
theorem dJ0_checkIndex_df160_8 : decode cJ0_checkIndex_df160 8 = .ok (.pop, 1) := by decide +kernel
theorem dJ0_checkIndex_df160_9 : decode cJ0_checkIndex_df160 9 = .ok (.return_, 1) := by decide +kernel
theorem dJ1_charAt_3b067_0 : decode cJ1_charAt_3b067 0 = .ok (.iload_n 1, 1) := by decide +kernel
theorem dJ1_charAt_3b067_1 : decode cJ1_charAt_3b067 1 = .ok (.aload_n 0, 1) := by decide +kernel
theorem dJ1_charAt_3b067_2 : decode cJ1_charAt_3b067 2 = .ok (.arraylength, 1) := by decide +kernel
theorem dJ1_charAt_3b067_3 : decode cJ1_charAt_3b067 3 = .ok (.invokestatic 9, 3) := by decide +kernel
theorem dJ1_charAt_3b067_6 : decode cJ1_charAt_3b067 6 = .ok (.aload_n 0, 1) := by decide +kernel
theorem dJ1_charAt_3b067_7 : decode cJ1_charAt_3b067 7 = .ok (.iload_n 1, 1) := by decide +kernel
theorem dJ1_charAt_3b067_8 : decode cJ1_charAt_3b067 8 = .ok (.baload, 1) := by decide +kernel
theorem dJ1_charAt_3b067_9 : decode cJ1_charAt_3b067 9 = .ok (.sipush 255, 3) := by decide +kernel
theorem dJ1_charAt_3b067_12 : decode cJ1_charAt_3b067 12 = .ok (.iand, 1) := by decide +kernel
theorem dJ1_charAt_3b067_13 : decode cJ1_charAt_3b067 13 = .ok (.i2c, 1) := by decide +kernel
theorem dJ1_charAt_3b067_14 : decode cJ1_charAt_3b067 14 = .ok (.ireturn, 1) := by decide +kernel
theorem dJ2_getChar_3b067_0 : decode cJ2_getChar_3b067 0 = .ok (.getstatic 44, 3) := by decide +kernel
theorem dJ2_getChar_3b067_3 : decode cJ2_getChar_3b067 3 = .ok (.ifCond .ne 25, 3) := by decide +kernel
theorem dJ2_getChar_3b067_6 : decode cJ2_getChar_3b067 6 = .ok (.iload_n 1, 1) := by decide +kernel
theorem dJ2_getChar_3b067_7 : decode cJ2_getChar_3b067 7 = .ok (.ifCond .lt 11, 3) := by decide +kernel
theorem dJ2_getChar_3b067_10 : decode cJ2_getChar_3b067 10 = .ok (.iload_n 1, 1) := by decide +kernel
theorem dJ2_getChar_3b067_11 : decode cJ2_getChar_3b067 11 = .ok (.aload_n 0, 1) := by decide +kernel
theorem dJ2_getChar_3b067_12 : decode cJ2_getChar_3b067 12 = .ok (.invokestatic 48, 3) := by decide +kernel
theorem dJ2_getChar_3b067_15 : decode cJ2_getChar_3b067 15 = .ok (.if_icmp .lt 13, 3) := by decide +kernel
theorem dJ2_getChar_3b067_18 : decode cJ2_getChar_3b067 18 = .ok (.new 52, 3) := by decide +kernel
theorem dJ2_getChar_3b067_21 : decode cJ2_getChar_3b067 21 = .ok (.dup, 1) := by decide +kernel
theorem dJ2_getChar_3b067_22 : decode cJ2_getChar_3b067 22 = .ok (.ldc 54, 2) := by decide +kernel
theorem dJ2_getChar_3b067_24 : decode cJ2_getChar_3b067 24 = .ok (.invokespecial 56, 3) := by decide +kernel
theorem dJ2_getChar_3b067_27 : decode cJ2_getChar_3b067 27 = .ok (.athrow, 1) := by decide +kernel
theorem dJ2_getChar_3b067_28 : decode cJ2_getChar_3b067 28 = .ok (.iload_n 1, 1) := by decide +kernel
theorem dJ2_getChar_3b067_29 : decode cJ2_getChar_3b067 29 = .ok (.iconst 1, 1) := by decide +kernel
theorem dJ2_getChar_3b067_30 : decode cJ2_getChar_3b067 30 = .ok (.ishl, 1) := by decide +kernel
theorem dJ2_getChar_3b067_31 : decode cJ2_getChar_3b067 31 = .ok (.istore_n 1, 1) := by decide +kernel
theorem dJ2_getChar_3b067_32 : decode cJ2_getChar_3b067 32 = .ok (.aload_n 0, 1) := by decide +kernel
theorem dJ2_getChar_3b067_33 : decode cJ2_getChar_3b067 33 = .ok (.iload_n 1, 1) := by decide +kernel
theorem dJ2_getChar_3b067_34 : decode cJ2_getChar_3b067 34 = .ok (.iinc 1 1, 3) := by decide +kernel
theorem dJ2_getChar_3b067_37 : decode cJ2_getChar_3b067 37 = .ok (.baload, 1) := by decide +kernel
theorem dJ2_getChar_3b067_38 : decode cJ2_getChar_3b067 38 = .ok (.sipush 255, 3) := by decide +kernel
theorem dJ2_getChar_3b067_41 : decode cJ2_getChar_3b067 41 = .ok (.iand, 1) := by decide +kernel
theorem dJ2_getChar_3b067_42 : decode cJ2_getChar_3b067 42 = .ok (.getstatic 59, 3) := by decide +kernel
theorem dJ2_getChar_3b067_45 : decode cJ2_getChar_3b067 45 = .ok (.ishl, 1) := by decide +kernel
theorem dJ2_getChar_3b067_46 : decode cJ2_getChar_3b067 46 = .ok (.aload_n 0, 1) := by decide +kernel
theorem dJ2_getChar_3b067_47 : decode cJ2_getChar_3b067 47 = .ok (.iload_n 1, 1) := by decide +kernel
theorem dJ2_getChar_3b067_48 : decode cJ2_getChar_3b067 48 = .ok (.baload, 1) := by decide +kernel
theorem dJ2_getChar_3b067_49 : decode cJ2_getChar_3b067 49 = .ok (.sipush 255, 3) := by decide +kernel
theorem dJ2_getChar_3b067_52 : decode cJ2_getChar_3b067 52 = .ok (.iand, 1) := by decide +kernel
theorem dJ2_getChar_3b067_53 : decode cJ2_getChar_3b067 53 = .ok (.getstatic 63, 3) := by decide +kernel
theorem dJ2_getChar_3b067_56 : decode cJ2_getChar_3b067 56 = .ok (.ishl, 1) := by decide +kernel
theorem dJ2_getChar_3b067_57 : decode cJ2_getChar_3b067 57 = .ok (.ior, 1) := by decide +kernel
theorem dJ2_getChar_3b067_58 : decode cJ2_getChar_3b067 58 = .ok (.i2c, 1) := by decide +kernel
theorem dJ2_getChar_3b067_59 : decode cJ2_getChar_3b067 59 = .ok (.ireturn, 1) := by decide +kernel
theorem dJ2_length_9d52b_0 : decode cJ2_length_9d52b 0 = .ok (.aload_n 0, 1) := by decide +kernel
theorem dJ2_length_9d52b_1 : decode cJ2_length_9d52b 1 = .ok (.arraylength, 1) := by decide +kernel
theorem dJ2_length_9d52b_2 : decode cJ2_length_9d52b 2 = .ok (.iconst 1, 1) := by decide +kernel
theorem dJ2_length_9d52b_3 : decode cJ2_length_9d52b 3 = .ok (.ishr, 1) := by decide +kernel
theorem dJ2_length_9d52b_4 : decode cJ2_length_9d52b 4 = .ok (.ireturn, 1) := by decide +kernel
theorem dJ2_charAt_3b067_0 : decode cJ2_charAt_3b067 0 = .ok (.iload_n 1, 1) := by decide +kernel
theorem dJ2_charAt_3b067_1 : decode cJ2_charAt_3b067 1 = .ok (.aload_n 0, 1) := by decide +kernel
theorem dJ2_charAt_3b067_2 : decode cJ2_charAt_3b067 2 = .ok (.invokestatic 67, 3) := by decide +kernel
theorem dJ2_charAt_3b067_5 : decode cJ2_charAt_3b067 5 = .ok (.aload_n 0, 1) := by decide +kernel
theorem dJ2_charAt_3b067_6 : decode cJ2_charAt_3b067 6 = .ok (.iload_n 1, 1) := by decide +kernel
theorem dJ2_charAt_3b067_7 : decode cJ2_charAt_3b067 7 = .ok (.invokestatic 71, 3) := by decide +kernel
theorem dJ2_charAt_3b067_10 : decode cJ2_charAt_3b067 10 = .ok (.ireturn, 1) := by decide +kernel
theorem dJ2_checkIndex_2214a_0 : decode cJ2_checkIndex_2214a 0 = .ok (.iload_n 0, 1) := by decide +kernel
theorem dJ2_checkIndex_2214a_1 : decode cJ2_checkIndex_2214a 1 = .ok (.aload_n 1, 1) := by decide +kernel
theorem dJ2_checkIndex_2214a_2 : decode cJ2_checkIndex_2214a 2 = .ok (.invokestatic 48, 3) := by decide +kernel
theorem dJ2_checkIndex_2214a_5 : decode cJ2_checkIndex_2214a 5 = .ok (.invokestatic 414, 3) := by decide +kernel
theorem dJ2_checkIndex_2214a_8 : decode cJ2_checkIndex_2214a 8 = .ok (.return_, 1) := by decide +kernel
theorem dJ3_checkIndex_8e157_0 : decode cJ3_checkIndex_8e157 0 = .ok (.iload_n 0, 1) := by decide +kernel
theorem dJ3_checkIndex_8e157_1 : decode cJ3_checkIndex_8e157 1 = .ok (.ifCond .lt 8, 3) := by decide +kernel
theorem dJ3_checkIndex_8e157_4 : decode cJ3_checkIndex_8e157 4 = .ok (.iload_n 0, 1) := by decide +kernel
theorem dJ3_checkIndex_8e157_5 : decode cJ3_checkIndex_8e157 5 = .ok (.iload_n 1, 1) := by decide +kernel
theorem dJ3_checkIndex_8e157_6 : decode cJ3_checkIndex_8e157 6 = .ok (.if_icmp .lt 10, 3) := by decide +kernel
theorem dJ3_checkIndex_8e157_9 : decode cJ3_checkIndex_8e157 9 = .ok (.aload_n 2, 1) := by decide +kernel
theorem dJ3_checkIndex_8e157_10 : decode cJ3_checkIndex_8e157 10 = .ok (.iload_n 0, 1) := by decide +kernel
theorem dJ3_checkIndex_8e157_11 : decode cJ3_checkIndex_8e157 11 = .ok (.iload_n 1, 1) := by decide +kernel
theorem dJ3_checkIndex_8e157_12 : decode cJ3_checkIndex_8e157 12 = .ok (.invokestatic 95, 3) := by decide +kernel
theorem dJ3_checkIndex_8e157_15 : decode cJ3_checkIndex_8e157 15 = .ok (.athrow, 1) := by decide +kernel
theorem dJ3_checkIndex_8e157_16 : decode cJ3_checkIndex_8e157 16 = .ok (.iload_n 0, 1) := by decide +kernel
theorem dJ3_checkIndex_8e157_17 : decode cJ3_checkIndex_8e157 17 = .ok (.ireturn, 1) := by decide +kernel
abbrev vwCl : List vw_C := [(RX0, TX0, 6), (RX1, TX1, 3), (RX2, TX2, 4), (RX3, TX3, 3), (RX4, TX4, 9), (RX5, TX5, 6), (RX6, TX6, 5), (RX7, TX7, 6), (RX8, TX8, 7), (RX9, TX9, 19)]
