/-! classes, fields, methods: names -/
def RX0 : String := "TradeLine$Back"
def TX0 : u_T := fun k => match k with
  | 0 => ("TradeLine$Back", "nexts", "[I", false)
  | _ => ("TradeLine$Back", "count", "I", false)
def tyX0 : Nat → FieldType := fun k => match k with
  | 0 => .array .int
  | _ => .int
abbrev wsX00 : List Cond := u_ws RX0 TX0 2
theorem nmX0 : ∀ a, a < 2 → ∀ b, b < 2 → a ≠ b → (TX0 a).2.1 ≠ (TX0 b).2.1 := by decide +kernel
theorem tyX0_ok : ∀ k, k < 2 → parseFieldDescriptor (TX0 k).2.2.1 = some (tyX0 k) := by decide +kernel
abbrev cX0_init : ByteArray := prog_2_method_1_code
def yX0_init : MethodName := ⟨RX0, "<init>", "()V"⟩
abbrev cX0_hold : ByteArray := prog_2_method_2_code
def yX0_hold : MethodName := ⟨RX0, "hold", "(II)V"⟩
abbrev cX0_take : ByteArray := prog_2_method_3_code
def yX0_take : MethodName := ⟨RX0, "take", "(I)I"⟩
abbrev cX0_dropBetween : ByteArray := prog_2_method_4_code
def yX0_dropBetween : MethodName := ⟨RX0, "dropBetween", "(II)V"⟩
abbrev cX0_clear : ByteArray := prog_2_method_5_code
def yX0_clear : MethodName := ⟨RX0, "clear", "()V"⟩
def RX1 : String := "TradeLine$Book"
def TX1 : u_T := fun k => match k with
  | 0 => ("TradeLine$Book", "price", "I", false)
  | 1 => ("TradeLine$Book", "size", "I", false)
  | 2 => ("TradeLine$Book", "doneSize", "I", false)
  | _ => ("TradeLine$Book", "outSize", "I", false)
def tyX1 : Nat → FieldType := fun k => match k with
  | 0 => .int
  | 1 => .int
  | 2 => .int
  | _ => .int
abbrev wsX10 : List Cond := u_ws RX1 TX1 4
theorem nmX1 : ∀ a, a < 4 → ∀ b, b < 4 → a ≠ b → (TX1 a).2.1 ≠ (TX1 b).2.1 := by decide +kernel
theorem tyX1_ok : ∀ k, k < 4 → parseFieldDescriptor (TX1 k).2.2.1 = some (tyX1 k) := by decide +kernel
abbrev cX1_init : ByteArray := prog_3_method_1_code
def yX1_init : MethodName := ⟨RX1, "<init>", "(II)V"⟩
abbrev cX1_rest : ByteArray := prog_3_method_2_code
def yX1_rest : MethodName := ⟨RX1, "rest", "()I"⟩
abbrev cX1_takeBack : ByteArray := prog_3_method_3_code
def yX1_takeBack : MethodName := ⟨RX1, "takeBack", "(I)V"⟩
def RX2 : String := "TradeLine$Execution"
def TX2 : u_T := fun k => match k with
  | 0 => ("TradeLine$Execution", "order", "LTradeLine$Order;", true)
  | 1 => ("TradeLine$Execution", "venue", "I", true)
  | 2 => ("TradeLine$Execution", "size", "I", true)
  | 3 => ("TradeLine$Execution", "day", "I", true)
  | 4 => ("TradeLine$Execution", "price", "I", false)
  | 5 => ("TradeLine$Execution", "busted", "Z", false)
  | 6 => ("TradeLine$Execution", "known", "Z", false)
  | 7 => ("TradeLine$Execution", "knownPrice", "I", false)
  | _ => ("TradeLine$Execution", "knownBusted", "Z", false)
def tyX2 : Nat → FieldType := fun k => match k with
  | 0 => .object "TradeLine$Order"
  | 1 => .int
  | 2 => .int
  | 3 => .int
  | 4 => .int
  | 5 => .boolean
  | 6 => .boolean
  | 7 => .int
  | _ => .boolean
abbrev wsX20 : List Cond := u_ws RX2 TX2 9
theorem nmX2 : ∀ a, a < 9 → ∀ b, b < 9 → a ≠ b → (TX2 a).2.1 ≠ (TX2 b).2.1 := by decide +kernel
theorem tyX2_ok : ∀ k, k < 9 → parseFieldDescriptor (TX2 k).2.2.1 = some (tyX2 k) := by decide +kernel
abbrev cX2_init : ByteArray := prog_4_method_1_code
def yX2_init : MethodName := ⟨RX2, "<init>", "(LTradeLine$Order;LTradeLine$Quote;II)V"⟩
abbrev cX2_countsFor : ByteArray := prog_4_method_2_code
def yX2_countsFor : MethodName := ⟨RX2, "countsFor", "(I)Z"⟩
abbrev cX2_priceFor : ByteArray := prog_4_method_3_code
def yX2_priceFor : MethodName := ⟨RX2, "priceFor", "(I)I"⟩
def RX3 : String := "TradeLine$Message"
def TX3 : u_T := fun k => match k with
  | 0 => ("TradeLine$Message", "kind", "I", true)
  | 1 => ("TradeLine$Message", "sentAt", "I", true)
  | 2 => ("TradeLine$Message", "row", "[I", true)
  | _ => ("TradeLine$Message", "wentAgain", "Z", false)
def tyX3 : Nat → FieldType := fun k => match k with
  | 0 => .int
  | 1 => .int
  | 2 => .array .int
  | _ => .boolean
abbrev wsX30 : List Cond := u_ws RX3 TX3 4
theorem nmX3 : ∀ a, a < 4 → ∀ b, b < 4 → a ≠ b → (TX3 a).2.1 ≠ (TX3 b).2.1 := by decide +kernel
theorem tyX3_ok : ∀ k, k < 4 → parseFieldDescriptor (TX3 k).2.2.1 = some (tyX3 k) := by decide +kernel
abbrev cX3_init : ByteArray := prog_5_method_1_code
def yX3_init : MethodName := ⟨RX3, "<init>", "(III[I)V"⟩
abbrev cX3_fieldCount : ByteArray := prog_5_method_2_code
def yX3_fieldCount : MethodName := ⟨RX3, "fieldCount", "()I"⟩
abbrev cX3_hasPlace : ByteArray := prog_5_method_3_code
def yX3_hasPlace : MethodName := ⟨RX3, "hasPlace", "(I)Z"⟩
abbrev cX3_tagOfPlace : ByteArray := prog_5_method_4_code
def yX3_tagOfPlace : MethodName := ⟨RX3, "tagOfPlace", "(I)I"⟩
abbrev cX3_valueOfPlace : ByteArray := prog_5_method_5_code
def yX3_valueOfPlace : MethodName := ⟨RX3, "valueOfPlace", "(I)I"⟩
abbrev cX3_valueOf : ByteArray := prog_5_method_6_code
def yX3_valueOf : MethodName := ⟨RX3, "valueOf", "(I)I"⟩
def RX4 : String := "TradeLine$Order"
def TX4 : u_T := fun k => match k with
  | 0 => ("TradeLine$Order", "number", "I", true)
  | 1 => ("TradeLine$Order", "sells", "Z", true)
  | 2 => ("TradeLine$Order", "traderBook", "LTradeLine$Book;", true)
  | 3 => ("TradeLine$Order", "houseBook", "LTradeLine$Book;", true)
  | 4 => ("TradeLine$Order", "acknowledged", "Z", false)
  | 5 => ("TradeLine$Order", "leftOut", "Z", false)
  | 6 => ("TradeLine$Order", "atHouse", "Z", false)
  | _ => ("TradeLine$Order", "requests", "I", false)
def tyX4 : Nat → FieldType := fun k => match k with
  | 0 => .int
  | 1 => .boolean
  | 2 => .object "TradeLine$Book"
  | 3 => .object "TradeLine$Book"
  | 4 => .boolean
  | 5 => .boolean
  | 6 => .boolean
  | _ => .int
abbrev wsX40 : List Cond := u_ws RX4 TX4 8
theorem nmX4 : ∀ a, a < 8 → ∀ b, b < 8 → a ≠ b → (TX4 a).2.1 ≠ (TX4 b).2.1 := by decide +kernel
theorem tyX4_ok : ∀ k, k < 8 → parseFieldDescriptor (TX4 k).2.2.1 = some (tyX4 k) := by decide +kernel
abbrev cX4_init : ByteArray := prog_6_method_1_code
def yX4_init : MethodName := ⟨RX4, "<init>", "(IZII)V"⟩
abbrev cX4_isInBook : ByteArray := prog_6_method_2_code
def yX4_isInBook : MethodName := ⟨RX4, "isInBook", "(I)Z"⟩
abbrev cX4_book : ByteArray := prog_6_method_3_code
def yX4_book : MethodName := ⟨RX4, "book", "(I)LTradeLine$Book;"⟩
abbrev cX4_leftFor : ByteArray := prog_6_method_4_code
def yX4_leftFor : MethodName := ⟨RX4, "leftFor", "(I)I"⟩
abbrev cX4_state : ByteArray := prog_6_method_5_code
def yX4_state : MethodName := ⟨RX4, "state", "()I"⟩
abbrev cX4_booksAgree : ByteArray := prog_6_method_6_code
def yX4_booksAgree : MethodName := ⟨RX4, "booksAgree", "()Z"⟩
abbrev cX4_canTradeWith : ByteArray := prog_6_method_7_code
def yX4_canTradeWith : MethodName := ⟨RX4, "canTradeWith", "(LTradeLine$Quote;)Z"⟩
abbrev cX4_hasBetterPriceThan : ByteArray := prog_6_method_8_code
def yX4_hasBetterPriceThan : MethodName := ⟨RX4, "hasBetterPriceThan", "(LTradeLine$Order;)Z"⟩
abbrev cX4_endRequest : ByteArray := prog_6_method_9_code
def yX4_endRequest : MethodName := ⟨RX4, "endRequest", "()V"⟩
def RX5 : String := "TradeLine$Party"
def TX5 : u_T := fun k => match k with
  | 0 => ("TradeLine$Party", "kept", "Ljava/util/ArrayList;", true)
  | 1 => ("TradeLine$Party", "way", "LTradeLine$Way;", true)
  | 2 => ("TradeLine$Party", "back", "LTradeLine$Back;", true)
  | 3 => ("TradeLine$Party", "on", "Z", false)
  | 4 => ("TradeLine$Party", "expectedNumber", "I", false)
  | 5 => ("TradeLine$Party", "askedFor", "I", false)
  | 6 => ("TradeLine$Party", "askedAt", "I", false)
  | 7 => ("TradeLine$Party", "lastSent", "I", false)
  | _ => ("TradeLine$Party", "lastCame", "I", false)
def tyX5 : Nat → FieldType := fun k => match k with
  | 0 => .object "java/util/ArrayList"
  | 1 => .object "TradeLine$Way"
  | 2 => .object "TradeLine$Back"
  | 3 => .boolean
  | 4 => .int
  | 5 => .int
  | 6 => .int
  | 7 => .int
  | _ => .int
abbrev wsX50 : List Cond := u_ws RX5 TX5 9
theorem nmX5 : ∀ a, a < 9 → ∀ b, b < 9 → a ≠ b → (TX5 a).2.1 ≠ (TX5 b).2.1 := by decide +kernel
theorem tyX5_ok : ∀ k, k < 9 → parseFieldDescriptor (TX5 k).2.2.1 = some (tyX5 k) := by decide +kernel
abbrev cX5_init : ByteArray := prog_7_method_1_code
def yX5_init : MethodName := ⟨RX5, "<init>", "()V"⟩
abbrev cX5_message : ByteArray := prog_7_method_2_code
def yX5_message : MethodName := ⟨RX5, "message", "(I)LTradeLine$Message;"⟩
abbrev cX5_numberAnew : ByteArray := prog_7_method_3_code
def yX5_numberAnew : MethodName := ⟨RX5, "numberAnew", "()V"⟩
abbrev cX5_leaveLine : ByteArray := prog_7_method_4_code
def yX5_leaveLine : MethodName := ⟨RX5, "leaveLine", "()V"⟩
def RX6 : String := "TradeLine$Quote"
def TX6 : u_T := fun k => match k with
  | 0 => ("TradeLine$Quote", "venue", "I", true)
  | 1 => ("TradeLine$Quote", "price", "I", false)
  | _ => ("TradeLine$Quote", "size", "I", false)
def tyX6 : Nat → FieldType := fun k => match k with
  | 0 => .int
  | 1 => .int
  | _ => .int
abbrev wsX60 : List Cond := u_ws RX6 TX6 3
theorem nmX6 : ∀ a, a < 3 → ∀ b, b < 3 → a ≠ b → (TX6 a).2.1 ≠ (TX6 b).2.1 := by decide +kernel
theorem tyX6_ok : ∀ k, k < 3 → parseFieldDescriptor (TX6 k).2.2.1 = some (tyX6 k) := by decide +kernel
abbrev cX6_init : ByteArray := prog_8_method_1_code
def yX6_init : MethodName := ⟨RX6, "<init>", "(I)V"⟩
abbrev cX6_isBetterThan : ByteArray := prog_8_method_2_code
def yX6_isBetterThan : MethodName := ⟨RX6, "isBetterThan", "(LTradeLine$Quote;Z)Z"⟩
def RX7 : String := "TradeLine$Way"
def TX7 : u_T := fun k => match k with
  | 0 => ("TradeLine$Way", "numbers", "[I", false)
  | 1 => ("TradeLine$Way", "nexts", "[I", false)
  | 2 => ("TradeLine$Way", "garbled", "[Z", false)
  | 3 => ("TradeLine$Way", "head", "I", false)
  | _ => ("TradeLine$Way", "count", "I", false)
def tyX7 : Nat → FieldType := fun k => match k with
  | 0 => .array .int
  | 1 => .array .int
  | 2 => .array .boolean
  | 3 => .int
  | _ => .int
abbrev wsX70 : List Cond := u_ws RX7 TX7 5
theorem nmX7 : ∀ a, a < 5 → ∀ b, b < 5 → a ≠ b → (TX7 a).2.1 ≠ (TX7 b).2.1 := by decide +kernel
theorem tyX7_ok : ∀ k, k < 5 → parseFieldDescriptor (TX7 k).2.2.1 = some (tyX7 k) := by decide +kernel
abbrev cX7_init : ByteArray := prog_9_method_1_code
def yX7_init : MethodName := ⟨RX7, "<init>", "()V"⟩
abbrev cX7_put : ByteArray := prog_9_method_2_code
def yX7_put : MethodName := ⟨RX7, "put", "(II)V"⟩
abbrev cX7_grow : ByteArray := prog_9_method_3_code
def yX7_grow : MethodName := ⟨RX7, "grow", "()V"⟩
abbrev cX7_slotOf : ByteArray := prog_9_method_4_code
def yX7_slotOf : MethodName := ⟨RX7, "slotOf", "(I)I"⟩
abbrev cX7_numberAt : ByteArray := prog_9_method_5_code
def yX7_numberAt : MethodName := ⟨RX7, "numberAt", "(I)I"⟩
abbrev cX7_nextAt : ByteArray := prog_9_method_6_code
def yX7_nextAt : MethodName := ⟨RX7, "nextAt", "(I)I"⟩
abbrev cX7_isGarbledAt : ByteArray := prog_9_method_7_code
def yX7_isGarbledAt : MethodName := ⟨RX7, "isGarbledAt", "(I)Z"⟩
abbrev cX7_garbleAt : ByteArray := prog_9_method_8_code
def yX7_garbleAt : MethodName := ⟨RX7, "garbleAt", "(I)V"⟩
abbrev cX7_dropFirst : ByteArray := prog_9_method_9_code
def yX7_dropFirst : MethodName := ⟨RX7, "dropFirst", "()V"⟩
abbrev cX7_clear : ByteArray := prog_9_method_10_code
def yX7_clear : MethodName := ⟨RX7, "clear", "()V"⟩
def RX8 : String := "TradeLine"
def TX8 : u_T := fun k => match k with
  | 0 => ("TradeLine", "trader", "LTradeLine$Party;", true)
  | 1 => ("TradeLine", "house", "LTradeLine$Party;", true)
  | 2 => ("TradeLine", "allOrders", "Ljava/util/ArrayList;", true)
  | 3 => ("TradeLine", "buyersByRank", "Ljava/util/ArrayList;", true)
  | 4 => ("TradeLine", "sellersByRank", "Ljava/util/ArrayList;", true)
  | 5 => ("TradeLine", "allExecutions", "Ljava/util/ArrayList;", true)
  | 6 => ("TradeLine", "quotesForBuyers", "[LTradeLine$Quote;", true)
  | 7 => ("TradeLine", "quotesForSellers", "[LTradeLine$Quote;", true)
  | 8 => ("TradeLine", "up", "Z", false)
  | 9 => ("TradeLine", "now", "I", false)
  | _ => ("TradeLine", "today", "I", false)
def tyX8 : Nat → FieldType := fun k => match k with
  | 0 => .object "TradeLine$Party"
  | 1 => .object "TradeLine$Party"
  | 2 => .object "java/util/ArrayList"
  | 3 => .object "java/util/ArrayList"
  | 4 => .object "java/util/ArrayList"
  | 5 => .object "java/util/ArrayList"
  | 6 => .array (.object "TradeLine$Quote")
  | 7 => .array (.object "TradeLine$Quote")
  | 8 => .boolean
  | 9 => .int
  | _ => .int
abbrev wsX80 : List Cond := u_ws RX8 TX8 11
theorem nmX8 : ∀ a, a < 11 → ∀ b, b < 11 → a ≠ b → (TX8 a).2.1 ≠ (TX8 b).2.1 := by decide +kernel
theorem tyX8_ok : ∀ k, k < 11 → parseFieldDescriptor (TX8 k).2.2.1 = some (tyX8 k) := by decide +kernel
abbrev cX8_init : ByteArray := prog_1_method_1_code
def yX8_init : MethodName := ⟨RX8, "<init>", "()V"⟩
abbrev cX8_connect : ByteArray := prog_1_method_2_code
def yX8_connect : MethodName := ⟨RX8, "connect", "(Z)V"⟩
abbrev cX8_cut : ByteArray := prog_1_method_3_code
def yX8_cut : MethodName := ⟨RX8, "cut", "()I"⟩
abbrev cX8_come : ByteArray := prog_1_method_4_code
def yX8_come : MethodName := ⟨RX8, "come", "(II)I"⟩
abbrev cX8_garble : ByteArray := prog_1_method_5_code
def yX8_garble : MethodName := ⟨RX8, "garble", "(II)I"⟩
abbrev cX8_pass : ByteArray := prog_1_method_6_code
def yX8_pass : MethodName := ⟨RX8, "pass", "(I)I"⟩
abbrev cX8_isUp : ByteArray := prog_1_method_7_code
def yX8_isUp : MethodName := ⟨RX8, "isUp", "()Z"⟩
abbrev cX8_isOn : ByteArray := prog_1_method_8_code
def yX8_isOn : MethodName := ⟨RX8, "isOn", "(I)Z"⟩
abbrev cX8_onWay : ByteArray := prog_1_method_9_code
def yX8_onWay : MethodName := ⟨RX8, "onWay", "(I)I"⟩
abbrev cX8_sent : ByteArray := prog_1_method_10_code
def yX8_sent : MethodName := ⟨RX8, "sent", "(I)I"⟩
abbrev cX8_expected : ByteArray := prog_1_method_11_code
def yX8_expected : MethodName := ⟨RX8, "expected", "(I)I"⟩
abbrev cX8_held : ByteArray := prog_1_method_12_code
def yX8_held : MethodName := ⟨RX8, "held", "(I)I"⟩
abbrev cX8_fields : ByteArray := prog_1_method_13_code
def yX8_fields : MethodName := ⟨RX8, "fields", "(II)I"⟩
abbrev cX8_tagAt : ByteArray := prog_1_method_14_code
def yX8_tagAt : MethodName := ⟨RX8, "tagAt", "(III)I"⟩
abbrev cX8_valueAt : ByteArray := prog_1_method_15_code
def yX8_valueAt : MethodName := ⟨RX8, "valueAt", "(III)I"⟩
abbrev cX8_order : ByteArray := prog_1_method_16_code
def yX8_order : MethodName := ⟨RX8, "order", "(ZII)I"⟩
abbrev cX8_cancel : ByteArray := prog_1_method_17_code
def yX8_cancel : MethodName := ⟨RX8, "cancel", "(I)I"⟩
abbrev cX8_replace : ByteArray := prog_1_method_18_code
def yX8_replace : MethodName := ⟨RX8, "replace", "(III)I"⟩
abbrev cX8_stateOf : ByteArray := prog_1_method_19_code
def yX8_stateOf : MethodName := ⟨RX8, "stateOf", "(I)I"⟩
abbrev cX8_isLeftOut : ByteArray := prog_1_method_20_code
def yX8_isLeftOut : MethodName := ⟨RX8, "isLeftOut", "(I)Z"⟩
abbrev cX8_underWay : ByteArray := prog_1_method_21_code
def yX8_underWay : MethodName := ⟨RX8, "underWay", "(I)I"⟩
abbrev cX8_quote : ByteArray := prog_1_method_22_code
def yX8_quote : MethodName := ⟨RX8, "quote", "(IZII)I"⟩
abbrev cX8_quoted : ByteArray := prog_1_method_23_code
def yX8_quoted : MethodName := ⟨RX8, "quoted", "(IZ)I"⟩
abbrev cX8_bust : ByteArray := prog_1_method_24_code
def yX8_bust : MethodName := ⟨RX8, "bust", "(I)I"⟩
abbrev cX8_correct : ByteArray := prog_1_method_25_code
def yX8_correct : MethodName := ⟨RX8, "correct", "(II)I"⟩
abbrev cX8_executions : ByteArray := prog_1_method_26_code
def yX8_executions : MethodName := ⟨RX8, "executions", "()I"⟩
abbrev cX8_endDay : ByteArray := prog_1_method_27_code
def yX8_endDay : MethodName := ⟨RX8, "endDay", "()I"⟩
abbrev cX8_orders : ByteArray := prog_1_method_28_code
def yX8_orders : MethodName := ⟨RX8, "orders", "()I"⟩
abbrev cX8_left : ByteArray := prog_1_method_29_code
def yX8_left : MethodName := ⟨RX8, "left", "(II)I"⟩
abbrev cX8_done : ByteArray := prog_1_method_30_code
def yX8_done : MethodName := ⟨RX8, "done", "(II)I"⟩
abbrev cX8_doneByLog : ByteArray := prog_1_method_31_code
def yX8_doneByLog : MethodName := ⟨RX8, "doneByLog", "(II)I"⟩
abbrev cX8_out : ByteArray := prog_1_method_32_code
def yX8_out : MethodName := ⟨RX8, "out", "(II)I"⟩
abbrev cX8_venues : ByteArray := prog_1_method_33_code
def yX8_venues : MethodName := ⟨RX8, "venues", "(I)I"⟩
abbrev cX8_total : ByteArray := prog_1_method_34_code
def yX8_total : MethodName := ⟨RX8, "total", "(IIZI)I"⟩
abbrev cX8_agree : ByteArray := prog_1_method_35_code
def yX8_agree : MethodName := ⟨RX8, "agree", "()Z"⟩
abbrev cX8_requireSide : ByteArray := prog_1_method_36_code
def yX8_requireSide : MethodName := ⟨RX8, "requireSide", "(I)V"⟩
abbrev cX8_requireRange : ByteArray := prog_1_method_37_code
def yX8_requireRange : MethodName := ⟨RX8, "requireRange", "(III)V"⟩
abbrev cX8_requireMessage : ByteArray := prog_1_method_38_code
def yX8_requireMessage : MethodName := ⟨RX8, "requireMessage", "(II)LTradeLine$Message;"⟩
abbrev cX8_requireOrder : ByteArray := prog_1_method_39_code
def yX8_requireOrder : MethodName := ⟨RX8, "requireOrder", "(I)LTradeLine$Order;"⟩
abbrev cX8_requireAskable : ByteArray := prog_1_method_40_code
def yX8_requireAskable : MethodName := ⟨RX8, "requireAskable", "(LTradeLine$Order;)V"⟩
abbrev cX8_requireQuote : ByteArray := prog_1_method_41_code
def yX8_requireQuote : MethodName := ⟨RX8, "requireQuote", "(IZ)LTradeLine$Quote;"⟩
abbrev cX8_requireExecution : ByteArray := prog_1_method_42_code
def yX8_requireExecution : MethodName := ⟨RX8, "requireExecution", "(I)LTradeLine$Execution;"⟩
abbrev cX8_requireUnbusted : ByteArray := prog_1_method_43_code
def yX8_requireUnbusted : MethodName := ⟨RX8, "requireUnbusted", "(LTradeLine$Execution;)V"⟩
abbrev cX8_party : ByteArray := prog_1_method_44_code
def yX8_party : MethodName := ⟨RX8, "party", "(I)LTradeLine$Party;"⟩
abbrev cX8_otherSide : ByteArray := prog_1_method_45_code
def yX8_otherSide : MethodName := ⟨RX8, "otherSide", "(I)I"⟩
abbrev cX8_findOrder : ByteArray := prog_1_method_46_code
def yX8_findOrder : MethodName := ⟨RX8, "findOrder", "(I)LTradeLine$Order;"⟩
abbrev cX8_findExecution : ByteArray := prog_1_method_47_code
def yX8_findExecution : MethodName := ⟨RX8, "findExecution", "(I)LTradeLine$Execution;"⟩
abbrev cX8_quotesFor : ByteArray := prog_1_method_48_code
def yX8_quotesFor : MethodName := ⟨RX8, "quotesFor", "(Z)[LTradeLine$Quote;"⟩
abbrev cX8_byRank : ByteArray := prog_1_method_49_code
def yX8_byRank : MethodName := ⟨RX8, "byRank", "(Z)Ljava/util/ArrayList;"⟩
abbrev cX8_hasExecutedAt : ByteArray := prog_1_method_50_code
def yX8_hasExecutedAt : MethodName := ⟨RX8, "hasExecutedAt", "(LTradeLine$Order;I)Z"⟩
abbrev cX8_send : ByteArray := prog_1_method_51_code
def yX8_send : MethodName := ⟨RX8, "send", "(II[I)V"⟩
abbrev cX8_goDown : ByteArray := prog_1_method_52_code
def yX8_goDown : MethodName := ⟨RX8, "goDown", "()V"⟩
abbrev cX8_tick : ByteArray := prog_1_method_53_code
def yX8_tick : MethodName := ⟨RX8, "tick", "(I)V"⟩
abbrev cX8_receive : ByteArray := prog_1_method_54_code
def yX8_receive : MethodName := ⟨RX8, "receive", "(III)Z"⟩
abbrev cX8_askForExpected : ByteArray := prog_1_method_55_code
def yX8_askForExpected : MethodName := ⟨RX8, "askForExpected", "(I)V"⟩
abbrev cX8_answer : ByteArray := prog_1_method_56_code
def yX8_answer : MethodName := ⟨RX8, "answer", "(II)V"⟩
abbrev cX8_mayGoAgain : ByteArray := prog_1_method_57_code
def yX8_mayGoAgain : MethodName := ⟨RX8, "mayGoAgain", "(LTradeLine$Message;)Z"⟩
abbrev cX8_leaveOutOrderOf : ByteArray := prog_1_method_58_code
def yX8_leaveOutOrderOf : MethodName := ⟨RX8, "leaveOutOrderOf", "(LTradeLine$Message;)V"⟩
abbrev cX8_workInTurn : ByteArray := prog_1_method_59_code
def yX8_workInTurn : MethodName := ⟨RX8, "workInTurn", "(II)V"⟩
abbrev cX8_workOff : ByteArray := prog_1_method_60_code
def yX8_workOff : MethodName := ⟨RX8, "workOff", "(ILTradeLine$Message;)V"⟩
abbrev cX8_houseTakesOrder : ByteArray := prog_1_method_61_code
def yX8_houseTakesOrder : MethodName := ⟨RX8, "houseTakesOrder", "(LTradeLine$Message;)V"⟩
abbrev cX8_houseCancels : ByteArray := prog_1_method_62_code
def yX8_houseCancels : MethodName := ⟨RX8, "houseCancels", "(LTradeLine$Order;)V"⟩
abbrev cX8_houseReplaces : ByteArray := prog_1_method_63_code
def yX8_houseReplaces : MethodName := ⟨RX8, "houseReplaces", "(LTradeLine$Order;LTradeLine$Message;)V"⟩
abbrev cX8_reportPlainly : ByteArray := prog_1_method_64_code
def yX8_reportPlainly : MethodName := ⟨RX8, "reportPlainly", "(ILTradeLine$Order;)V"⟩
abbrev cX8_rankBehindItsPrice : ByteArray := prog_1_method_65_code
def yX8_rankBehindItsPrice : MethodName := ⟨RX8, "rankBehindItsPrice", "(LTradeLine$Order;)V"⟩
abbrev cX8_route : ByteArray := prog_1_method_66_code
def yX8_route : MethodName := ⟨RX8, "route", "(LTradeLine$Order;)V"⟩
abbrev cX8_bestQuoteFor : ByteArray := prog_1_method_67_code
def yX8_bestQuoteFor : MethodName := ⟨RX8, "bestQuoteFor", "(LTradeLine$Order;)LTradeLine$Quote;"⟩
abbrev cX8_bodyOfFilled : ByteArray := prog_1_method_68_code
def yX8_bodyOfFilled : MethodName := ⟨RX8, "bodyOfFilled", "(LTradeLine$Order;I)[I"⟩
abbrev cX8_traderReads : ByteArray := prog_1_method_69_code
def yX8_traderReads : MethodName := ⟨RX8, "traderReads", "(LTradeLine$Message;)V"⟩
abbrev cX8_traderReadsFilled : ByteArray := prog_1_method_70_code
def yX8_traderReadsFilled : MethodName := ⟨RX8, "traderReadsFilled", "(LTradeLine$Order;LTradeLine$Message;)V"⟩
abbrev cX8_traderReadsBusted : ByteArray := prog_1_method_71_code
def yX8_traderReadsBusted : MethodName := ⟨RX8, "traderReadsBusted", "(LTradeLine$Order;LTradeLine$Execution;)V"⟩
abbrev cX8_traderReadsCorrected : ByteArray := prog_1_method_72_code
def yX8_traderReadsCorrected : MethodName := ⟨RX8, "traderReadsCorrected", "(LTradeLine$Message;)V"⟩
def RX9 : String := "TradeLineModel"
def TX9 : u_T := fun k => match k with
  | _ => ("", "", "", false)
def tyX9 : Nat → FieldType := fun k => match k with
  | _ => .int
abbrev wsX90 : List Cond := u_ws RX9 TX9 0
theorem nmX9 : ∀ a, a < 0 → ∀ b, b < 0 → a ≠ b → (TX9 a).2.1 ≠ (TX9 b).2.1 := by decide +kernel
theorem tyX9_ok : ∀ k, k < 0 → parseFieldDescriptor (TX9 k).2.2.1 = some (tyX9 k) := by decide +kernel
def RJx145de : String := "java/io/Serializable"
def TJx145de : u_T := fun k => match k with
  | _ => ("", "", "", false)
def tyJx145de : Nat → FieldType := fun k => match k with
  | _ => .int
abbrev wsJx145de0 : List Cond := u_ws RJx145de TJx145de 0
theorem nmJx145de : ∀ a, a < 0 → ∀ b, b < 0 → a ≠ b → (TJx145de a).2.1 ≠ (TJx145de b).2.1 := by decide +kernel
theorem tyJx145de_ok : ∀ k, k < 0 → parseFieldDescriptor (TJx145de k).2.2.1 = some (tyJx145de k) := by decide +kernel
def RJ5 : String := "java/lang/AbstractStringBuilder"
def TJ5 : u_T := fun k => match k with
  | _ => ("", "", "", false)
def tyJ5 : Nat → FieldType := fun k => match k with
  | _ => .int
abbrev wsJ50 : List Cond := u_ws RJ5 TJ5 0
theorem nmJ5 : ∀ a, a < 0 → ∀ b, b < 0 → a ≠ b → (TJ5 a).2.1 ≠ (TJ5 b).2.1 := by decide +kernel
theorem tyJ5_ok : ∀ k, k < 0 → parseFieldDescriptor (TJ5 k).2.2.1 = some (tyJ5 k) := by decide +kernel
abbrev cJ5_init_d00df : ByteArray := prog_13_method_2_code
def yJ5_init_d00df : MethodName := ⟨RJ5, "<init>", "(I)V"⟩
abbrev cJ5_length_8abf5 : ByteArray := prog_13_method_6_code
def yJ5_length_8abf5 : MethodName := ⟨RJ5, "length", "()I"⟩
abbrev cJ5_ensureCapacityInternal_d00df : ByteArray := prog_13_method_9_code
def yJ5_ensureCapacityInternal_d00df : MethodName := ⟨RJ5, "ensureCapacityInternal", "(I)V"⟩
abbrev cJ5_newCapacity_0f7a4 : ByteArray := prog_13_method_10_code
def yJ5_newCapacity_0f7a4 : MethodName := ⟨RJ5, "newCapacity", "(I)I"⟩
abbrev cJ5_inflate_da8c8 : ByteArray := prog_13_method_11_code
def yJ5_inflate_da8c8 : MethodName := ⟨RJ5, "inflate", "()V"⟩
abbrev cJ5_append_cf1ce : ByteArray := prog_13_method_22_code
def yJ5_append_cf1ce : MethodName := ⟨RJ5, "append", "(Ljava/lang/String;)Ljava/lang/AbstractStringBuilder;"⟩
abbrev cJ5_appendNull_278bc : ByteArray := prog_13_method_26_code
def yJ5_appendNull_278bc : MethodName := ⟨RJ5, "appendNull", "()Ljava/lang/AbstractStringBuilder;"⟩
abbrev cJ5_append_c97b9 : ByteArray := prog_13_method_32_code
def yJ5_append_c97b9 : MethodName := ⟨RJ5, "append", "(I)Ljava/lang/AbstractStringBuilder;"⟩
abbrev cJ5_getValue_6d5f1 : ByteArray := prog_13_method_64_code
def yJ5_getValue_6d5f1 : MethodName := ⟨RJ5, "getValue", "()[B"⟩
abbrev cJ5_isLatin1_aae02 : ByteArray := prog_13_method_68_code
def yJ5_isLatin1_aae02 : MethodName := ⟨RJ5, "isLatin1", "()Z"⟩
abbrev cJ5_inflateIfNeededFor_a7421 : ByteArray := prog_13_method_71_code
def yJ5_inflateIfNeededFor_a7421 : MethodName := ⟨RJ5, "inflateIfNeededFor", "(Ljava/lang/String;)V"⟩
abbrev cJ5_putStringAt_47b60 : ByteArray := prog_13_method_73_code
def yJ5_putStringAt_47b60 : MethodName := ⟨RJ5, "putStringAt", "(ILjava/lang/String;)V"⟩
def RJx2cfe8 : String := "java/lang/Appendable"
def TJx2cfe8 : u_T := fun k => match k with
  | _ => ("", "", "", false)
def tyJx2cfe8 : Nat → FieldType := fun k => match k with
  | _ => .int
abbrev wsJx2cfe80 : List Cond := u_ws RJx2cfe8 TJx2cfe8 0
theorem nmJx2cfe8 : ∀ a, a < 0 → ∀ b, b < 0 → a ≠ b → (TJx2cfe8 a).2.1 ≠ (TJx2cfe8 b).2.1 := by decide +kernel
theorem tyJx2cfe8_ok : ∀ k, k < 0 → parseFieldDescriptor (TJx2cfe8 k).2.2.1 = some (tyJx2cfe8 k) := by decide +kernel
def RJx9f9b0 : String := "java/lang/CharSequence"
def TJx9f9b0 : u_T := fun k => match k with
  | _ => ("", "", "", false)
def tyJx9f9b0 : Nat → FieldType := fun k => match k with
  | _ => .int
abbrev wsJx9f9b00 : List Cond := u_ws RJx9f9b0 TJx9f9b0 0
theorem nmJx9f9b0 : ∀ a, a < 0 → ∀ b, b < 0 → a ≠ b → (TJx9f9b0 a).2.1 ≠ (TJx9f9b0 b).2.1 := by decide +kernel
theorem tyJx9f9b0_ok : ∀ k, k < 0 → parseFieldDescriptor (TJx9f9b0 k).2.2.1 = some (tyJx9f9b0 k) := by decide +kernel
def RJx8e188 : String := "java/lang/Cloneable"
def TJx8e188 : u_T := fun k => match k with
  | _ => ("", "", "", false)
def tyJx8e188 : Nat → FieldType := fun k => match k with
  | _ => .int
abbrev wsJx8e1880 : List Cond := u_ws RJx8e188 TJx8e188 0
theorem nmJx8e188 : ∀ a, a < 0 → ∀ b, b < 0 → a ≠ b → (TJx8e188 a).2.1 ≠ (TJx8e188 b).2.1 := by decide +kernel
theorem tyJx8e188_ok : ∀ k, k < 0 → parseFieldDescriptor (TJx8e188 k).2.2.1 = some (tyJx8e188 k) := by decide +kernel
def RJxb160c : String := "java/lang/Comparable"
def TJxb160c : u_T := fun k => match k with
  | _ => ("", "", "", false)
def tyJxb160c : Nat → FieldType := fun k => match k with
  | _ => .int
abbrev wsJxb160c0 : List Cond := u_ws RJxb160c TJxb160c 0
theorem nmJxb160c : ∀ a, a < 0 → ∀ b, b < 0 → a ≠ b → (TJxb160c a).2.1 ≠ (TJxb160c b).2.1 := by decide +kernel
theorem tyJxb160c_ok : ∀ k, k < 0 → parseFieldDescriptor (TJxb160c k).2.2.1 = some (tyJxb160c k) := by decide +kernel
def RJ6 : String := "java/lang/Integer"
def TJ6 : u_T := fun k => match k with
  | _ => ("", "", "", false)
def tyJ6 : Nat → FieldType := fun k => match k with
  | _ => .int
abbrev wsJ60 : List Cond := u_ws RJ6 TJ6 0
theorem nmJ6 : ∀ a, a < 0 → ∀ b, b < 0 → a ≠ b → (TJ6 a).2.1 ≠ (TJ6 b).2.1 := by decide +kernel
theorem tyJ6_ok : ∀ k, k < 0 → parseFieldDescriptor (TJ6 k).2.2.1 = some (tyJ6 k) := by decide +kernel
abbrev cJ6_getChars_ba4f3 : ByteArray := prog_22_method_12_code
def yJ6_getChars_ba4f3 : MethodName := ⟨RJ6, "getChars", "(II[B)I"⟩
abbrev cJ6_stringSize_0f7a4 : ByteArray := prog_22_method_13_code
def yJ6_stringSize_0f7a4 : MethodName := ⟨RJ6, "stringSize", "(I)I"⟩
def RJxab1ab : String := "java/lang/Iterable"
def TJxab1ab : u_T := fun k => match k with
  | _ => ("", "", "", false)
def tyJxab1ab : Nat → FieldType := fun k => match k with
  | _ => .int
abbrev wsJxab1ab0 : List Cond := u_ws RJxab1ab TJxab1ab 0
theorem nmJxab1ab : ∀ a, a < 0 → ∀ b, b < 0 → a ≠ b → (TJxab1ab a).2.1 ≠ (TJxab1ab b).2.1 := by decide +kernel
theorem tyJxab1ab_ok : ∀ k, k < 0 → parseFieldDescriptor (TJxab1ab k).2.2.1 = some (tyJxab1ab k) := by decide +kernel
def RJ9 : String := "java/lang/Math"
def TJ9 : u_T := fun k => match k with
  | _ => ("", "", "", false)
def tyJ9 : Nat → FieldType := fun k => match k with
  | _ => .int
abbrev wsJ90 : List Cond := u_ws RJ9 TJ9 0
theorem nmJ9 : ∀ a, a < 0 → ∀ b, b < 0 → a ≠ b → (TJ9 a).2.1 ≠ (TJ9 b).2.1 := by decide +kernel
theorem tyJ9_ok : ∀ k, k < 0 → parseFieldDescriptor (TJ9 k).2.2.1 = some (tyJ9 k) := by decide +kernel
abbrev cJ9_floorMod_7cf53 : ByteArray := prog_24_method_50_code
def yJ9_floorMod_7cf53 : MethodName := ⟨RJ9, "floorMod", "(II)I"⟩
abbrev cJ9_max_7cf53 : ByteArray := prog_24_method_65_code
def yJ9_max_7cf53 : MethodName := ⟨RJ9, "max", "(II)I"⟩
abbrev cJ9_min_7cf53 : ByteArray := prog_24_method_69_code
def yJ9_min_7cf53 : MethodName := ⟨RJ9, "min", "(II)I"⟩
def RJxd2413 : String := "java/lang/Number"
def TJxd2413 : u_T := fun k => match k with
  | _ => ("", "", "", false)
def tyJxd2413 : Nat → FieldType := fun k => match k with
  | _ => .int
abbrev wsJxd24130 : List Cond := u_ws RJxd2413 TJxd2413 0
theorem nmJxd2413 : ∀ a, a < 0 → ∀ b, b < 0 → a ≠ b → (TJxd2413 a).2.1 ≠ (TJxd2413 b).2.1 := by decide +kernel
theorem tyJxd2413_ok : ∀ k, k < 0 → parseFieldDescriptor (TJxd2413 k).2.2.1 = some (tyJxd2413 k) := by decide +kernel
def RJ0 : String := "java/lang/String"
def TJ0 : u_T := fun k => match k with
  | 0 => ("java/lang/String", "value", "[B", true)
  | 1 => ("java/lang/String", "coder", "B", true)
  | 2 => ("java/lang/String", "hash", "I", false)
  | _ => ("java/lang/String", "hashIsZero", "Z", false)
def tyJ0 : Nat → FieldType := fun k => match k with
  | 0 => .array .byte
  | 1 => .byte
  | 2 => .int
  | _ => .boolean
abbrev wsJ00 : List Cond := u_ws RJ0 TJ0 4
theorem nmJ0 : ∀ a, a < 4 → ∀ b, b < 4 → a ≠ b → (TJ0 a).2.1 ≠ (TJ0 b).2.1 := by decide +kernel
theorem tyJ0_ok : ∀ k, k < 4 → parseFieldDescriptor (TJ0 k).2.2.1 = some (tyJ0 k) := by decide +kernel
abbrev cJ0_init_81219 : ByteArray := prog_27_method_53_code
def yJ0_init_81219 : MethodName := ⟨RJ0, "<init>", "(Ljava/lang/StringBuilder;)V"⟩
abbrev cJ0_length_8abf5 : ByteArray := prog_27_method_54_code
def yJ0_length_8abf5 : MethodName := ⟨RJ0, "length", "()I"⟩
abbrev cJ0_getBytes_840e7 : ByteArray := prog_27_method_147_code
def yJ0_getBytes_840e7 : MethodName := ⟨RJ0, "getBytes", "([BIB)V"⟩
abbrev cJ0_init_db425 : ByteArray := prog_27_method_150_code
def yJ0_init_db425 : MethodName := ⟨RJ0, "<init>", "(Ljava/lang/AbstractStringBuilder;Ljava/lang/Void;)V"⟩
abbrev cJ0_coder_7d493 : ByteArray := prog_27_method_152_code
def yJ0_coder_7d493 : MethodName := ⟨RJ0, "coder", "()B"⟩
abbrev cJ0_checkBoundsOffCount_cabcc : ByteArray := prog_27_method_157_code
def yJ0_checkBoundsOffCount_cabcc : MethodName := ⟨RJ0, "checkBoundsOffCount", "(III)I"⟩
abbrev cJ0_checkBoundsBeginEnd_23922 : ByteArray := prog_27_method_158_code
def yJ0_checkBoundsBeginEnd_23922 : MethodName := ⟨RJ0, "checkBoundsBeginEnd", "(III)V"⟩
def RJ4 : String := "java/lang/StringBuilder"
def TJ4 : u_T := fun k => match k with
  | 0 => ("java/lang/AbstractStringBuilder", "value", "[B", false)
  | 1 => ("java/lang/AbstractStringBuilder", "coder", "B", false)
  | 2 => ("java/lang/AbstractStringBuilder", "maybeLatin1", "Z", false)
  | _ => ("java/lang/AbstractStringBuilder", "count", "I", false)
def tyJ4 : Nat → FieldType := fun k => match k with
  | 0 => .array .byte
  | 1 => .byte
  | 2 => .boolean
  | _ => .int
abbrev wsJ40 : List Cond := u_ws RJ4 TJ4 4
theorem nmJ4 : ∀ a, a < 4 → ∀ b, b < 4 → a ≠ b → (TJ4 a).2.1 ≠ (TJ4 b).2.1 := by decide +kernel
theorem tyJ4_ok : ∀ k, k < 4 → parseFieldDescriptor (TJ4 k).2.2.1 = some (tyJ4 k) := by decide +kernel
abbrev cJ4_init_da8c8 : ByteArray := prog_28_method_1_code
def yJ4_init_da8c8 : MethodName := ⟨RJ4, "<init>", "()V"⟩
abbrev cJ4_append_15ec4 : ByteArray := prog_28_method_7_code
def yJ4_append_15ec4 : MethodName := ⟨RJ4, "append", "(Ljava/lang/String;)Ljava/lang/StringBuilder;"⟩
abbrev cJ4_append_bf812 : ByteArray := prog_28_method_15_code
def yJ4_append_bf812 : MethodName := ⟨RJ4, "append", "(I)Ljava/lang/StringBuilder;"⟩
abbrev cJ4_toString_0e30d : ByteArray := prog_28_method_42_code
def yJ4_toString_0e30d : MethodName := ⟨RJ4, "toString", "()Ljava/lang/String;"⟩
abbrev cJ4_length_8abf5 : ByteArray := prog_28_method_93_code
def yJ4_length_8abf5 : MethodName := ⟨RJ4, "length", "()I"⟩
def RJ1 : String := "java/lang/StringLatin1"
def TJ1 : u_T := fun k => match k with
  | _ => ("", "", "", false)
def tyJ1 : Nat → FieldType := fun k => match k with
  | _ => .int
abbrev wsJ10 : List Cond := u_ws RJ1 TJ1 0
theorem nmJ1 : ∀ a, a < 0 → ∀ b, b < 0 → a ≠ b → (TJ1 a).2.1 ≠ (TJ1 b).2.1 := by decide +kernel
theorem tyJ1_ok : ∀ k, k < 0 → parseFieldDescriptor (TJ1 k).2.2.1 = some (tyJ1 k) := by decide +kernel
abbrev cJ1_inflate_0e8fd : ByteArray := prog_29_method_50_code
def yJ1_inflate_0e8fd : MethodName := ⟨RJ1, "inflate", "([BI[BII)V"⟩
def RJ2 : String := "java/lang/StringUTF16"
def TJ2 : u_T := fun k => match k with
  | _ => ("", "", "", false)
def tyJ2 : Nat → FieldType := fun k => match k with
  | _ => .int
abbrev wsJ20 : List Cond := u_ws RJ2 TJ2 0
theorem nmJ2 : ∀ a, a < 0 → ∀ b, b < 0 → a ≠ b → (TJ2 a).2.1 ≠ (TJ2 b).2.1 := by decide +kernel
theorem tyJ2_ok : ∀ k, k < 0 → parseFieldDescriptor (TJ2 k).2.2.1 = some (tyJ2 k) := by decide +kernel
abbrev cJ2_newBytesFor_77867 : ByteArray := prog_30_method_2_code
def yJ2_newBytesFor_77867 : MethodName := ⟨RJ2, "newBytesFor", "(I)[B"⟩
abbrev cJ2_newBytesLength_0f7a4 : ByteArray := prog_30_method_3_code
def yJ2_newBytesLength_0f7a4 : MethodName := ⟨RJ2, "newBytesLength", "(I)I"⟩
abbrev cJ2_putChar_b72d1 : ByteArray := prog_30_method_4_code
def yJ2_putChar_b72d1 : MethodName := ⟨RJ2, "putChar", "([BII)V"⟩
abbrev cJ2_getChar_3b067 : ByteArray := prog_30_method_5_code
def yJ2_getChar_3b067 : MethodName := ⟨RJ2, "getChar", "([BI)C"⟩
abbrev cJ2_length_9d52b : ByteArray := prog_30_method_6_code
def yJ2_length_9d52b : MethodName := ⟨RJ2, "length", "([B)I"⟩
abbrev cJ2_coderFromArrayLen_85cad : ByteArray := prog_30_method_15_code
def yJ2_coderFromArrayLen_85cad : MethodName := ⟨RJ2, "coderFromArrayLen", "([BI)B"⟩
abbrev cJ2_compress_39247 : ByteArray := prog_30_method_17_code
def yJ2_compress_39247 : MethodName := ⟨RJ2, "compress", "([BII)[B"⟩
abbrev cJ2_compress_5af95 : ByteArray := prog_30_method_22_code
def yJ2_compress_5af95 : MethodName := ⟨RJ2, "compress", "([BI[BII)I"⟩
abbrev cJ2_getChars_46870 : ByteArray := prog_30_method_77_code
def yJ2_getChars_46870 : MethodName := ⟨RJ2, "getChars", "(III[B)I"⟩
abbrev cJ2_putCharsAt_cd4e5 : ByteArray := prog_30_method_81_code
def yJ2_putCharsAt_cd4e5 : MethodName := ⟨RJ2, "putCharsAt", "([BICCCC)I"⟩
abbrev cJ2_inflate_0e8fd : ByteArray := prog_30_method_86_code
def yJ2_inflate_0e8fd : MethodName := ⟨RJ2, "inflate", "([BI[BII)V"⟩
abbrev cJ2_getChars_ba4f3 : ByteArray := prog_30_method_89_code
def yJ2_getChars_ba4f3 : MethodName := ⟨RJ2, "getChars", "(II[B)I"⟩
abbrev cJ2_checkBoundsBeginEnd_d044e : ByteArray := prog_30_method_93_code
def yJ2_checkBoundsBeginEnd_d044e : MethodName := ⟨RJ2, "checkBoundsBeginEnd", "(II[B)V"⟩
abbrev cJ2_checkBoundsOffCount_d044e : ByteArray := prog_30_method_94_code
def yJ2_checkBoundsOffCount_d044e : MethodName := ⟨RJ2, "checkBoundsOffCount", "(II[B)V"⟩
def RJ10 : String := "java/lang/System"
def TJ10 : u_T := fun k => match k with
  | _ => ("", "", "", false)
def tyJ10 : Nat → FieldType := fun k => match k with
  | _ => .int
abbrev wsJ100 : List Cond := u_ws RJ10 TJ10 0
theorem nmJ10 : ∀ a, a < 0 → ∀ b, b < 0 → a ≠ b → (TJ10 a).2.1 ≠ (TJ10 b).2.1 := by decide +kernel
theorem tyJ10_ok : ∀ k, k < 0 → parseFieldDescriptor (TJ10 k).2.2.1 = some (tyJ10 k) := by decide +kernel
def RJxfd54e : String := "java/lang/constant/Constable"
def TJxfd54e : u_T := fun k => match k with
  | _ => ("", "", "", false)
def tyJxfd54e : Nat → FieldType := fun k => match k with
  | _ => .int
abbrev wsJxfd54e0 : List Cond := u_ws RJxfd54e TJxfd54e 0
theorem nmJxfd54e : ∀ a, a < 0 → ∀ b, b < 0 → a ≠ b → (TJxfd54e a).2.1 ≠ (TJxfd54e b).2.1 := by decide +kernel
theorem tyJxfd54e_ok : ∀ k, k < 0 → parseFieldDescriptor (TJxfd54e k).2.2.1 = some (tyJxfd54e k) := by decide +kernel
def RJx3cf43 : String := "java/lang/constant/ConstantDesc"
def TJx3cf43 : u_T := fun k => match k with
  | _ => ("", "", "", false)
def tyJx3cf43 : Nat → FieldType := fun k => match k with
  | _ => .int
abbrev wsJx3cf430 : List Cond := u_ws RJx3cf43 TJx3cf43 0
theorem nmJx3cf43 : ∀ a, a < 0 → ∀ b, b < 0 → a ≠ b → (TJx3cf43 a).2.1 ≠ (TJx3cf43 b).2.1 := by decide +kernel
theorem tyJx3cf43_ok : ∀ k, k < 0 → parseFieldDescriptor (TJx3cf43 k).2.2.1 = some (tyJx3cf43 k) := by decide +kernel
def RJxa1e45 : String := "java/util/AbstractCollection"
def TJxa1e45 : u_T := fun k => match k with
  | _ => ("", "", "", false)
def tyJxa1e45 : Nat → FieldType := fun k => match k with
  | _ => .int
abbrev wsJxa1e450 : List Cond := u_ws RJxa1e45 TJxa1e45 0
theorem nmJxa1e45 : ∀ a, a < 0 → ∀ b, b < 0 → a ≠ b → (TJxa1e45 a).2.1 ≠ (TJxa1e45 b).2.1 := by decide +kernel
theorem tyJxa1e45_ok : ∀ k, k < 0 → parseFieldDescriptor (TJxa1e45 k).2.2.1 = some (tyJxa1e45 k) := by decide +kernel
abbrev cJxa1e45_init_da8c8 : ByteArray := prog_35_method_1_code
def yJxa1e45_init_da8c8 : MethodName := ⟨RJxa1e45, "<init>", "()V"⟩
def RJxc12de : String := "java/util/AbstractList"
def TJxc12de : u_T := fun k => match k with
  | _ => ("", "", "", false)
def tyJxc12de : Nat → FieldType := fun k => match k with
  | _ => .int
abbrev wsJxc12de0 : List Cond := u_ws RJxc12de TJxc12de 0
theorem nmJxc12de : ∀ a, a < 0 → ∀ b, b < 0 → a ≠ b → (TJxc12de a).2.1 ≠ (TJxc12de b).2.1 := by decide +kernel
theorem tyJxc12de_ok : ∀ k, k < 0 → parseFieldDescriptor (TJxc12de k).2.2.1 = some (tyJxc12de k) := by decide +kernel
abbrev cJxc12de_init_da8c8 : ByteArray := prog_36_method_1_code
def yJxc12de_init_da8c8 : MethodName := ⟨RJxc12de, "<init>", "()V"⟩
def RJx4a65c : String := "java/util/ArrayList"
def TJx4a65c : u_T := fun k => match k with
  | 0 => ("java/util/AbstractList", "modCount", "I", false)
  | 1 => ("java/util/ArrayList", "elementData", "[Ljava/lang/Object;", false)
  | _ => ("java/util/ArrayList", "size", "I", false)
def tyJx4a65c : Nat → FieldType := fun k => match k with
  | 0 => .int
  | 1 => .array (.object "java/lang/Object")
  | _ => .int
abbrev wsJx4a65c0 : List Cond := u_ws RJx4a65c TJx4a65c 3
theorem nmJx4a65c : ∀ a, a < 3 → ∀ b, b < 3 → a ≠ b → (TJx4a65c a).2.1 ≠ (TJx4a65c b).2.1 := by decide +kernel
theorem tyJx4a65c_ok : ∀ k, k < 3 → parseFieldDescriptor (TJx4a65c k).2.2.1 = some (tyJx4a65c k) := by decide +kernel
abbrev cJx4a65c_init_da8c8 : ByteArray := prog_37_method_2_code
def yJx4a65c_init_da8c8 : MethodName := ⟨RJx4a65c, "<init>", "()V"⟩
abbrev cJx4a65c_grow_92f84 : ByteArray := prog_37_method_6_code
def yJx4a65c_grow_92f84 : MethodName := ⟨RJx4a65c, "grow", "(I)[Ljava/lang/Object;"⟩
abbrev cJx4a65c_grow_d5877 : ByteArray := prog_37_method_7_code
def yJx4a65c_grow_d5877 : MethodName := ⟨RJx4a65c, "grow", "()[Ljava/lang/Object;"⟩
abbrev cJx4a65c_size_8abf5 : ByteArray := prog_37_method_8_code
def yJx4a65c_size_8abf5 : MethodName := ⟨RJx4a65c, "size", "()I"⟩
abbrev cJx4a65c_elementData_915e3 : ByteArray := prog_37_method_18_code
def yJx4a65c_elementData_915e3 : MethodName := ⟨RJx4a65c, "elementData", "(I)Ljava/lang/Object;"⟩
abbrev cJx4a65c_get_915e3 : ByteArray := prog_37_method_20_code
def yJx4a65c_get_915e3 : MethodName := ⟨RJx4a65c, "get", "(I)Ljava/lang/Object;"⟩
abbrev cJx4a65c_add_72be8 : ByteArray := prog_37_method_24_code
def yJx4a65c_add_72be8 : MethodName := ⟨RJx4a65c, "add", "(Ljava/lang/Object;[Ljava/lang/Object;I)V"⟩
abbrev cJx4a65c_add_9ea2d : ByteArray := prog_37_method_25_code
def yJx4a65c_add_9ea2d : MethodName := ⟨RJx4a65c, "add", "(Ljava/lang/Object;)Z"⟩
abbrev cJx4a65c_add_7a177 : ByteArray := prog_37_method_26_code
def yJx4a65c_add_7a177 : MethodName := ⟨RJx4a65c, "add", "(ILjava/lang/Object;)V"⟩
abbrev cJx4a65c_remove_915e3 : ByteArray := prog_37_method_29_code
def yJx4a65c_remove_915e3 : MethodName := ⟨RJx4a65c, "remove", "(I)Ljava/lang/Object;"⟩
abbrev cJx4a65c_fastRemove_b59b0 : ByteArray := prog_37_method_39_code
def yJx4a65c_fastRemove_b59b0 : MethodName := ⟨RJx4a65c, "fastRemove", "([Ljava/lang/Object;I)V"⟩
abbrev cJx4a65c_clear_da8c8 : ByteArray := prog_37_method_40_code
def yJx4a65c_clear_da8c8 : MethodName := ⟨RJx4a65c, "clear", "()V"⟩
abbrev cJx4a65c_rangeCheckForAdd_d00df : ByteArray := prog_37_method_45_code
def yJx4a65c_rangeCheckForAdd_d00df : MethodName := ⟨RJx4a65c, "rangeCheckForAdd", "(I)V"⟩
abbrev cJx4a65c_outOfBoundsMsg_b52d3 : ByteArray := prog_37_method_46_code
def yJx4a65c_outOfBoundsMsg_b52d3 : MethodName := ⟨RJx4a65c, "outOfBoundsMsg", "(I)Ljava/lang/String;"⟩
def RJ7 : String := "java/util/Arrays"
def TJ7 : u_T := fun k => match k with
  | _ => ("", "", "", false)
def tyJ7 : Nat → FieldType := fun k => match k with
  | _ => .int
abbrev wsJ70 : List Cond := u_ws RJ7 TJ7 0
theorem nmJ7 : ∀ a, a < 0 → ∀ b, b < 0 → a ≠ b → (TJ7 a).2.1 ≠ (TJ7 b).2.1 := by decide +kernel
theorem tyJ7_ok : ∀ k, k < 0 → parseFieldDescriptor (TJ7 k).2.2.1 = some (tyJ7 k) := by decide +kernel
abbrev cJ7_fill_53178 : ByteArray := prog_38_method_103_code
def yJ7_fill_53178 : MethodName := ⟨RJ7, "fill", "([II)V"⟩
abbrev cJ7_copyOf_1904c : ByteArray := prog_38_method_119_code
def yJ7_copyOf_1904c : MethodName := ⟨RJ7, "copyOf", "([Ljava/lang/Object;I)[Ljava/lang/Object;"⟩
abbrev cJ7_copyOf_6403c : ByteArray := prog_38_method_120_code
def yJ7_copyOf_6403c : MethodName := ⟨RJ7, "copyOf", "([Ljava/lang/Object;ILjava/lang/Class;)[Ljava/lang/Object;"⟩
abbrev cJ7_copyOf_9075b : ByteArray := prog_38_method_121_code
def yJ7_copyOf_9075b : MethodName := ⟨RJ7, "copyOf", "([BI)[B"⟩
abbrev cJ7_copyOf_59c91 : ByteArray := prog_38_method_123_code
def yJ7_copyOf_59c91 : MethodName := ⟨RJ7, "copyOf", "([II)[I"⟩
abbrev cJ7_checkLength_df160 : ByteArray := prog_38_method_131_code
def yJ7_checkLength_df160 : MethodName := ⟨RJ7, "checkLength", "(II)V"⟩
abbrev cJ7_copyOfRange_39247 : ByteArray := prog_38_method_132_code
def yJ7_copyOfRange_39247 : MethodName := ⟨RJ7, "copyOfRange", "([BII)[B"⟩
abbrev cJ7_copyOfRangeByte_39247 : ByteArray := prog_38_method_133_code
def yJ7_copyOfRangeByte_39247 : MethodName := ⟨RJ7, "copyOfRangeByte", "([BII)[B"⟩
def RJx5ef63 : String := "java/util/Collection"
def TJx5ef63 : u_T := fun k => match k with
  | _ => ("", "", "", false)
def tyJx5ef63 : Nat → FieldType := fun k => match k with
  | _ => .int
abbrev wsJx5ef630 : List Cond := u_ws RJx5ef63 TJx5ef63 0
theorem nmJx5ef63 : ∀ a, a < 0 → ∀ b, b < 0 → a ≠ b → (TJx5ef63 a).2.1 ≠ (TJx5ef63 b).2.1 := by decide +kernel
theorem tyJx5ef63_ok : ∀ k, k < 0 → parseFieldDescriptor (TJx5ef63 k).2.2.1 = some (tyJx5ef63 k) := by decide +kernel
def RJxbd725 : String := "java/util/List"
def TJxbd725 : u_T := fun k => match k with
  | _ => ("", "", "", false)
def tyJxbd725 : Nat → FieldType := fun k => match k with
  | _ => .int
abbrev wsJxbd7250 : List Cond := u_ws RJxbd725 TJxbd725 0
theorem nmJxbd725 : ∀ a, a < 0 → ∀ b, b < 0 → a ≠ b → (TJxbd725 a).2.1 ≠ (TJxbd725 b).2.1 := by decide +kernel
theorem tyJxbd725_ok : ∀ k, k < 0 → parseFieldDescriptor (TJxbd725 k).2.2.1 = some (tyJxbd725 k) := by decide +kernel
def RJ15 : String := "java/util/Objects"
def TJ15 : u_T := fun k => match k with
  | _ => ("", "", "", false)
def tyJ15 : Nat → FieldType := fun k => match k with
  | _ => .int
abbrev wsJ150 : List Cond := u_ws RJ15 TJ15 0
theorem nmJ15 : ∀ a, a < 0 → ∀ b, b < 0 → a ≠ b → (TJ15 a).2.1 ≠ (TJ15 b).2.1 := by decide +kernel
theorem tyJ15_ok : ∀ k, k < 0 → parseFieldDescriptor (TJ15 k).2.2.1 = some (tyJ15 k) := by decide +kernel
abbrev cJ15_checkIndex_7cf53 : ByteArray := prog_41_method_17_code
def yJ15_checkIndex_7cf53 : MethodName := ⟨RJ15, "checkIndex", "(II)I"⟩
def RJxf0a74 : String := "java/util/RandomAccess"
def TJxf0a74 : u_T := fun k => match k with
  | _ => ("", "", "", false)
def tyJxf0a74 : Nat → FieldType := fun k => match k with
  | _ => .int
abbrev wsJxf0a740 : List Cond := u_ws RJxf0a74 TJxf0a74 0
theorem nmJxf0a74 : ∀ a, a < 0 → ∀ b, b < 0 → a ≠ b → (TJxf0a74 a).2.1 ≠ (TJxf0a74 b).2.1 := by decide +kernel
theorem tyJxf0a74_ok : ∀ k, k < 0 → parseFieldDescriptor (TJxf0a74 k).2.2.1 = some (tyJxf0a74 k) := by decide +kernel
def RJxa66e6 : String := "java/util/SequencedCollection"
def TJxa66e6 : u_T := fun k => match k with
  | _ => ("", "", "", false)
def tyJxa66e6 : Nat → FieldType := fun k => match k with
  | _ => .int
abbrev wsJxa66e60 : List Cond := u_ws RJxa66e6 TJxa66e6 0
theorem nmJxa66e6 : ∀ a, a < 0 → ∀ b, b < 0 → a ≠ b → (TJxa66e6 a).2.1 ≠ (TJxa66e6 b).2.1 := by decide +kernel
theorem tyJxa66e6_ok : ∀ k, k < 0 → parseFieldDescriptor (TJxa66e6 k).2.2.1 = some (tyJxa66e6 k) := by decide +kernel
def RJ8 : String := "jdk/internal/util/ArraysSupport"
def TJ8 : u_T := fun k => match k with
  | _ => ("", "", "", false)
def tyJ8 : Nat → FieldType := fun k => match k with
  | _ => .int
abbrev wsJ80 : List Cond := u_ws RJ8 TJ8 0
theorem nmJ8 : ∀ a, a < 0 → ∀ b, b < 0 → a ≠ b → (TJ8 a).2.1 ≠ (TJ8 b).2.1 := by decide +kernel
theorem tyJ8_ok : ∀ k, k < 0 → parseFieldDescriptor (TJ8 k).2.2.1 = some (tyJ8 k) := by decide +kernel
abbrev cJ8_newLength_cabcc : ByteArray := prog_44_method_27_code
def yJ8_newLength_cabcc : MethodName := ⟨RJ8, "newLength", "(III)I"⟩
abbrev cJ8_hugeLength_7cf53 : ByteArray := prog_44_method_28_code
def yJ8_hugeLength_7cf53 : MethodName := ⟨RJ8, "hugeLength", "(II)I"⟩
def RJ3 : String := "jdk/internal/util/Preconditions"
def TJ3 : u_T := fun k => match k with
  | _ => ("", "", "", false)
def tyJ3 : Nat → FieldType := fun k => match k with
  | _ => .int
abbrev wsJ30 : List Cond := u_ws RJ3 TJ3 0
theorem nmJ3 : ∀ a, a < 0 → ∀ b, b < 0 → a ≠ b → (TJ3 a).2.1 ≠ (TJ3 b).2.1 := by decide +kernel
theorem tyJ3_ok : ∀ k, k < 0 → parseFieldDescriptor (TJ3 k).2.2.1 = some (tyJ3 k) := by decide +kernel
abbrev cJ3_checkIndex_8e157 : ByteArray := prog_45_method_11_code
def yJ3_checkIndex_8e157 : MethodName := ⟨RJ3, "checkIndex", "(IILjava/util/function/BiFunction;)I"⟩
abbrev cJ3_checkFromToIndex_8c36e : ByteArray := prog_45_method_12_code
def yJ3_checkFromToIndex_8c36e : MethodName := ⟨RJ3, "checkFromToIndex", "(IIILjava/util/function/BiFunction;)I"⟩
abbrev cJ3_checkFromIndexSize_8c36e : ByteArray := prog_45_method_13_code
def yJ3_checkFromIndexSize_8c36e : MethodName := ⟨RJ3, "checkFromIndexSize", "(IIILjava/util/function/BiFunction;)I"⟩
def RL : String := "TradeLineLaw"
abbrev cL_cell : ByteArray := method_2_code
def yL_cell : MethodName := ⟨RL, "cell", "([II)I"⟩
abbrev cL_low : ByteArray := method_3_code
def yL_low : MethodName := ⟨RL, "low", "(II)I"⟩
abbrev cL_connect : ByteArray := method_4_code
def yL_connect : MethodName := ⟨RL, "connect", "(LTradeLine;Z)I"⟩
abbrev cL_cut : ByteArray := method_5_code
def yL_cut : MethodName := ⟨RL, "cut", "(LTradeLine;)I"⟩
abbrev cL_come : ByteArray := method_6_code
def yL_come : MethodName := ⟨RL, "come", "(LTradeLine;II)I"⟩
abbrev cL_garble : ByteArray := method_7_code
def yL_garble : MethodName := ⟨RL, "garble", "(LTradeLine;II)I"⟩
abbrev cL_pass : ByteArray := method_8_code
def yL_pass : MethodName := ⟨RL, "pass", "(LTradeLine;I)I"⟩
abbrev cL_isOn : ByteArray := method_9_code
def yL_isOn : MethodName := ⟨RL, "isOn", "(LTradeLine;I)I"⟩
abbrev cL_onWay : ByteArray := method_10_code
def yL_onWay : MethodName := ⟨RL, "onWay", "(LTradeLine;I)I"⟩
abbrev cL_sent : ByteArray := method_11_code
def yL_sent : MethodName := ⟨RL, "sent", "(LTradeLine;I)I"⟩
abbrev cL_expected : ByteArray := method_12_code
def yL_expected : MethodName := ⟨RL, "expected", "(LTradeLine;I)I"⟩
abbrev cL_held : ByteArray := method_13_code
def yL_held : MethodName := ⟨RL, "held", "(LTradeLine;I)I"⟩
abbrev cL_fields : ByteArray := method_14_code
def yL_fields : MethodName := ⟨RL, "fields", "(LTradeLine;II)I"⟩
abbrev cL_tagAt : ByteArray := method_15_code
def yL_tagAt : MethodName := ⟨RL, "tagAt", "(LTradeLine;III)I"⟩
abbrev cL_valueAt : ByteArray := method_16_code
def yL_valueAt : MethodName := ⟨RL, "valueAt", "(LTradeLine;III)I"⟩
abbrev cL_order : ByteArray := method_17_code
def yL_order : MethodName := ⟨RL, "order", "(LTradeLine;ZII)I"⟩
abbrev cL_cancel : ByteArray := method_18_code
def yL_cancel : MethodName := ⟨RL, "cancel", "(LTradeLine;I)I"⟩
abbrev cL_replace : ByteArray := method_19_code
def yL_replace : MethodName := ⟨RL, "replace", "(LTradeLine;III)I"⟩
abbrev cL_stateOf : ByteArray := method_20_code
def yL_stateOf : MethodName := ⟨RL, "stateOf", "(LTradeLine;I)I"⟩
abbrev cL_isLeftOut : ByteArray := method_21_code
def yL_isLeftOut : MethodName := ⟨RL, "isLeftOut", "(LTradeLine;I)I"⟩
abbrev cL_underWay : ByteArray := method_22_code
def yL_underWay : MethodName := ⟨RL, "underWay", "(LTradeLine;I)I"⟩
abbrev cL_quote : ByteArray := method_23_code
def yL_quote : MethodName := ⟨RL, "quote", "(LTradeLine;IZII)I"⟩
abbrev cL_quoted : ByteArray := method_24_code
def yL_quoted : MethodName := ⟨RL, "quoted", "(LTradeLine;IZ)I"⟩
abbrev cL_bust : ByteArray := method_25_code
def yL_bust : MethodName := ⟨RL, "bust", "(LTradeLine;I)I"⟩
abbrev cL_correct : ByteArray := method_26_code
def yL_correct : MethodName := ⟨RL, "correct", "(LTradeLine;II)I"⟩
abbrev cL_left : ByteArray := method_27_code
def yL_left : MethodName := ⟨RL, "left", "(LTradeLine;II)I"⟩
abbrev cL_done : ByteArray := method_28_code
def yL_done : MethodName := ⟨RL, "done", "(LTradeLine;II)I"⟩
abbrev cL_doneByLog : ByteArray := method_29_code
def yL_doneByLog : MethodName := ⟨RL, "doneByLog", "(LTradeLine;II)I"⟩
abbrev cL_out : ByteArray := method_30_code
def yL_out : MethodName := ⟨RL, "out", "(LTradeLine;II)I"⟩
abbrev cL_venues : ByteArray := method_31_code
def yL_venues : MethodName := ⟨RL, "venues", "(LTradeLine;I)I"⟩
abbrev cL_total : ByteArray := method_32_code
def yL_total : MethodName := ⟨RL, "total", "(LTradeLine;IIZI)I"⟩
abbrev cL_get : ByteArray := method_33_code
def yL_get : MethodName := ⟨RL, "get", "([JI)I"⟩
abbrev cL_set : ByteArray := method_34_code
def yL_set : MethodName := ⟨RL, "set", "([JII)V"⟩
abbrev cL_go : ByteArray := method_35_code
def yL_go : MethodName := ⟨RL, "go", "([I[J[JIII)V"⟩
abbrev cL_send : ByteArray := method_36_code
def yL_send : MethodName := ⟨RL, "send", "([I[J[J[J[JIIIIII)V"⟩
abbrev cL_part : ByteArray := method_37_code
def yL_part : MethodName := ⟨RL, "part", "(JI)I"⟩
abbrev cL_down : ByteArray := method_38_code
def yL_down : MethodName := ⟨RL, "down", "([I[I[I)I"⟩
abbrev cL_up : ByteArray := method_39_code
def yL_up : MethodName := ⟨RL, "up", "([I[J[J[J[JZ)V"⟩
abbrev cL_answer : ByteArray := method_40_code
def yL_answer : MethodName := ⟨RL, "answer", "([I[J[J[J[J[III)V"⟩
abbrev cL_rest : ByteArray := method_41_code
def yL_rest : MethodName := ⟨RL, "rest", "([I[I[II)I"⟩
abbrev cL_best : ByteArray := method_42_code
def yL_best : MethodName := ⟨RL, "best", "([I[I[II)I"⟩
abbrev cL_route : ByteArray := method_43_code
def yL_route : MethodName := ⟨RL, "route", "([I[J[J[J[J[I[I[I[I[I[J[II)V"⟩
abbrev cL_house : ByteArray := method_44_code
def yL_house : MethodName := ⟨RL, "house", "([I[J[J[J[J[I[I[I[I[I[J[IJ)V"⟩
abbrev cL_price : ByteArray := method_45_code
def yL_price : MethodName := ⟨RL, "price", "(JI)I"⟩
abbrev cL_size : ByteArray := method_46_code
def yL_size : MethodName := ⟨RL, "size", "(J)I"⟩
abbrev cL_trader : ByteArray := method_47_code
def yL_trader : MethodName := ⟨RL, "trader", "([I[I[I[I[I[JJ)V"⟩
abbrev cL_take : ByteArray := method_48_code
def yL_take : MethodName := ⟨RL, "take", "([I[J[J[J[J[I[I[I[I[I[I[I[J[III)V"⟩
abbrev cL_one : ByteArray := method_49_code
def yL_one : MethodName := ⟨RL, "one", "([I[J[J[J[J[I[I[I[I[I[I[I[J[II)V"⟩
abbrev cL_lines : ByteArray := method_50_code
def yL_lines : MethodName := ⟨RL, "lines", "(LTradeLine;III[I[J[J[J[J[I[I[I[I[I[I[I[J[I)Z"⟩
abbrev cL_trades : ByteArray := method_51_code
def yL_trades : MethodName := ⟨RL, "trades", "(LTradeLine;III[I[J[J[J[J[I[I[I[I[I[J[I)Z"⟩
abbrev cL_isMessage : ByteArray := method_52_code
def yL_isMessage : MethodName := ⟨RL, "isMessage", "(LTradeLine;II[J[J[J)Z"⟩
abbrev cL_isTold : ByteArray := method_53_code
def yL_isTold : MethodName := ⟨RL, "isTold", "(LTradeLine;I[I[J[J[I[I[I[I[I[I[I[J[I)Z"⟩
abbrev cL_law : ByteArray := code
def yL_law : MethodName := ⟨RL, "law", "([I)Z"⟩
abbrev vwCl : List vw_C := [(RJ0, TJ0, 4), (RJ4, TJ4, 4), (RJx4a65c, TJx4a65c, 3), (RX0, TX0, 2), (RX1, TX1, 4), (RX2, TX2, 9), (RX3, TX3, 4), (RX4, TX4, 8), (RX5, TX5, 9), (RX6, TX6, 3), (RX7, TX7, 5), (RX8, TX8, 11)]
def gwX0_init : List Cond := .code yX0_init cX0_init 1 none :: GT
def gwJ7_copyOf_59c91 : List Cond := .code yJ7_copyOf_59c91 cJ7_copyOf_59c91 3 (some (.array .int)) :: GT
def gwX0_hold : List Cond := .code yX0_hold cX0_hold 3 none :: GT
def gwX0_take : List Cond := .code yX0_take cX0_take 3 (some .int) :: GT
def gwX0_dropBetween : List Cond := .code yX0_dropBetween cX0_dropBetween 4 none :: GT
def gwJ7_fill_53178 : List Cond := .code yJ7_fill_53178 cJ7_fill_53178 4 none :: GT
def gwX0_clear : List Cond := .code yX0_clear cX0_clear 1 none :: GT
def gwX1_init : List Cond := .code yX1_init cX1_init 3 none :: GT
def gwX1_rest : List Cond := .code yX1_rest cX1_rest 1 (some .int) :: GT
def gwX1_takeBack : List Cond := .code yX1_takeBack cX1_takeBack 2 none :: GT
def gwX2_init : List Cond := .code yX2_init cX2_init 5 none :: GT
def gwX2_countsFor : List Cond := .code yX2_countsFor cX2_countsFor 2 (some .boolean) :: GT
def gwX2_priceFor : List Cond := .code yX2_priceFor cX2_priceFor 2 (some .int) :: GT
def gwJ9_floorMod_7cf53 : List Cond := .code yJ9_floorMod_7cf53 cJ9_floorMod_7cf53 3 (some .int) :: GT
def gwX3_init : List Cond := .code yX3_init cX3_init 9 none :: GT
def gwX3_fieldCount : List Cond := .code yX3_fieldCount cX3_fieldCount 1 (some .int) :: GT
def gwX3_hasPlace : List Cond := .code yX3_hasPlace cX3_hasPlace 2 (some .boolean) :: GT
def gwX3_tagOfPlace : List Cond := .code yX3_tagOfPlace cX3_tagOfPlace 2 (some .int) :: GT
def gwX3_valueOfPlace : List Cond := .code yX3_valueOfPlace cX3_valueOfPlace 2 (some .int) :: GT
def gwX3_valueOf : List Cond := .code yX3_valueOf cX3_valueOf 3 (some .int) :: GT
def gwX4_init : List Cond := .code yX4_init cX4_init 5 none :: GT
def gwX4_isInBook : List Cond := .code yX4_isInBook cX4_isInBook 2 (some .boolean) :: GT
def gwX4_book : List Cond := .code yX4_book cX4_book 2 (some (.object "TradeLine$Book")) :: GT
def gwX4_leftFor : List Cond := .code yX4_leftFor cX4_leftFor 2 (some .int) :: GT
def gwX4_state : List Cond := .code yX4_state cX4_state 1 (some .int) :: GT
def gwX4_booksAgree : List Cond := .code yX4_booksAgree cX4_booksAgree 1 (some .boolean) :: GT
def gwX4_canTradeWith : List Cond := .code yX4_canTradeWith cX4_canTradeWith 2 (some .boolean) :: GT
def gwX4_hasBetterPriceThan : List Cond := .code yX4_hasBetterPriceThan cX4_hasBetterPriceThan 2 (some .boolean) :: GT
def gwX4_endRequest : List Cond := .code yX4_endRequest cX4_endRequest 1 none :: GT
def gwJxa1e45_init_da8c8 : List Cond := .code yJxa1e45_init_da8c8 cJxa1e45_init_da8c8 1 none :: GT
def gwJxc12de_init_da8c8 : List Cond := .code yJxc12de_init_da8c8 cJxc12de_init_da8c8 1 none :: GT
def gwJx4a65c_init_da8c8 : List Cond := .code yJx4a65c_init_da8c8 cJx4a65c_init_da8c8 1 none :: GT
def gwX7_init : List Cond := .code yX7_init cX7_init 1 none :: GT
def gwX5_init : List Cond := .code yX5_init cX5_init 1 none :: GT
def gwJx4a65c_size_8abf5 : List Cond := .code yJx4a65c_size_8abf5 cJx4a65c_size_8abf5 1 (some .int) :: GT
def gwJ3_checkIndex_8e157 : List Cond := .code yJ3_checkIndex_8e157 cJ3_checkIndex_8e157 3 (some .int) :: GT
def gwJ15_checkIndex_7cf53 : List Cond := .code yJ15_checkIndex_7cf53 cJ15_checkIndex_7cf53 2 (some .int) :: GT
def gwJx4a65c_elementData_915e3 : List Cond := .code yJx4a65c_elementData_915e3 cJx4a65c_elementData_915e3 2 (some (.object "java/lang/Object")) :: GT
def gwJx4a65c_get_915e3 : List Cond := .code yJx4a65c_get_915e3 cJx4a65c_get_915e3 2 (some (.object "java/lang/Object")) :: GT
def gwX5_message : List Cond := .code yX5_message cX5_message 2 (some (.object "TradeLine$Message")) :: GT
def gwJx4a65c_clear_da8c8 : List Cond := .code yJx4a65c_clear_da8c8 cJx4a65c_clear_da8c8 4 none :: GT
def gwX5_numberAnew : List Cond := .code yX5_numberAnew cX5_numberAnew 1 none :: GT
def gwX7_clear : List Cond := .code yX7_clear cX7_clear 1 none :: GT
def gwX5_leaveLine : List Cond := .code yX5_leaveLine cX5_leaveLine 1 none :: GT
def gwX6_init : List Cond := .code yX6_init cX6_init 2 none :: GT
def gwX6_isBetterThan : List Cond := .code yX6_isBetterThan cX6_isBetterThan 3 (some .boolean) :: GT
def gwX7_grow : List Cond := .code yX7_grow cX7_grow 7 none :: GT
def gwX7_slotOf : List Cond := .code yX7_slotOf cX7_slotOf 3 (some .int) :: GT
def gwX7_put : List Cond := .code yX7_put cX7_put 4 none :: GT
def gwX7_numberAt : List Cond := .code yX7_numberAt cX7_numberAt 2 (some .int) :: GT
def gwX7_nextAt : List Cond := .code yX7_nextAt cX7_nextAt 2 (some .int) :: GT
def gwX7_isGarbledAt : List Cond := .code yX7_isGarbledAt cX7_isGarbledAt 2 (some .boolean) :: GT
def gwX7_garbleAt : List Cond := .code yX7_garbleAt cX7_garbleAt 2 none :: GT
def gwX7_dropFirst : List Cond := .code yX7_dropFirst cX7_dropFirst 1 none :: GT
def gwX8_init : List Cond := .code yX8_init cX8_init 2 none :: GT
def gwX8_party : List Cond := .code yX8_party cX8_party 2 (some (.object "TradeLine$Party")) :: GT
def gwJ8_hugeLength_7cf53 : List Cond := .code yJ8_hugeLength_7cf53 cJ8_hugeLength_7cf53 3 (some .int) :: GT
def gwJ8_newLength_cabcc : List Cond := .code yJ8_newLength_cabcc cJ8_newLength_cabcc 4 (some .int) :: GT
def gwJ7_copyOf_6403c : List Cond := .code yJ7_copyOf_6403c cJ7_copyOf_6403c 4 (some (.array (.object "java/lang/Object"))) :: GT
def gwJ7_copyOf_1904c : List Cond := .code yJ7_copyOf_1904c cJ7_copyOf_1904c 2 (some (.array (.object "java/lang/Object"))) :: GT
def gwJx4a65c_grow_92f84 : List Cond := .code yJx4a65c_grow_92f84 cJx4a65c_grow_92f84 4 (some (.array (.object "java/lang/Object"))) :: GT
def gwJx4a65c_grow_d5877 : List Cond := .code yJx4a65c_grow_d5877 cJx4a65c_grow_d5877 1 (some (.array (.object "java/lang/Object"))) :: GT
def gwJx4a65c_add_72be8 : List Cond := .code yJx4a65c_add_72be8 cJx4a65c_add_72be8 4 none :: GT
def gwJx4a65c_add_9ea2d : List Cond := .code yJx4a65c_add_9ea2d cJx4a65c_add_9ea2d 2 (some .boolean) :: GT
def gwX8_otherSide : List Cond := .code yX8_otherSide cX8_otherSide 1 (some .int) :: GT
def gwX8_send : List Cond := .code yX8_send cX8_send 6 none :: GT
def gwX8_connect : List Cond := .code yX8_connect cX8_connect 2 none :: GT
def gwX8_goDown : List Cond := .code yX8_goDown cX8_goDown 1 none :: GT
def gwX8_cut : List Cond := .code yX8_cut cX8_cut 2 (some .int) :: GT
def gwX8_requireSide : List Cond := .code yX8_requireSide cX8_requireSide 1 none :: GT
def gwX8_mayGoAgain : List Cond := .code yX8_mayGoAgain cX8_mayGoAgain 2 (some .boolean) :: GT
def gwX8_findOrder : List Cond := .code yX8_findOrder cX8_findOrder 2 (some (.object "TradeLine$Order")) :: GT
def gwX8_leaveOutOrderOf : List Cond := .code yX8_leaveOutOrderOf cX8_leaveOutOrderOf 3 none :: GT
def gwX8_answer : List Cond := .code yX8_answer cX8_answer 9 none :: GT
def gwX8_askForExpected : List Cond := .code yX8_askForExpected cX8_askForExpected 4 none :: GT
def gwX8_receive : List Cond := .code yX8_receive cX8_receive 7 (some .boolean) :: GT
def gwX8_byRank : List Cond := .code yX8_byRank cX8_byRank 2 (some (.object "java/util/ArrayList")) :: GT
def gwJx4a65c_fastRemove_b59b0 : List Cond := .code yJx4a65c_fastRemove_b59b0 cJx4a65c_fastRemove_b59b0 4 none :: GT
def gwJx4a65c_remove_915e3 : List Cond := .code yJx4a65c_remove_915e3 cJx4a65c_remove_915e3 4 (some (.object "java/lang/Object")) :: GT
def gwJx4a65c_rangeCheckForAdd_d00df : List Cond := .code yJx4a65c_rangeCheckForAdd_d00df cJx4a65c_rangeCheckForAdd_d00df 2 none :: GT
def gwJx4a65c_add_7a177 : List Cond := .code yJx4a65c_add_7a177 cJx4a65c_add_7a177 5 none :: GT
def gwX8_rankBehindItsPrice : List Cond := .code yX8_rankBehindItsPrice cX8_rankBehindItsPrice 4 none :: GT
def gwX8_reportPlainly : List Cond := .code yX8_reportPlainly cX8_reportPlainly 3 none :: GT
def gwX8_quotesFor : List Cond := .code yX8_quotesFor cX8_quotesFor 2 (some (.array (.object "TradeLine$Quote"))) :: GT
def gwX8_bestQuoteFor : List Cond := .code yX8_bestQuoteFor cX8_bestQuoteFor 6 (some (.object "TradeLine$Quote")) :: GT
def gwX8_bodyOfFilled : List Cond := .code yX8_bodyOfFilled cX8_bodyOfFilled 9 (some (.array .int)) :: GT
def gwX8_route : List Cond := .code yX8_route cX8_route 6 none :: GT
def gwX8_houseTakesOrder : List Cond := .code yX8_houseTakesOrder cX8_houseTakesOrder 3 none :: GT
def gwX8_houseCancels : List Cond := .code yX8_houseCancels cX8_houseCancels 3 none :: GT
def gwX8_houseReplaces : List Cond := .code yX8_houseReplaces cX8_houseReplaces 6 none :: GT
def gwX8_findExecution : List Cond := .code yX8_findExecution cX8_findExecution 2 (some (.object "TradeLine$Execution")) :: GT
def gwX8_traderReadsFilled : List Cond := .code yX8_traderReadsFilled cX8_traderReadsFilled 7 none :: GT
def gwX8_traderReadsBusted : List Cond := .code yX8_traderReadsBusted cX8_traderReadsBusted 2 none :: GT
def gwX8_traderReadsCorrected : List Cond := .code yX8_traderReadsCorrected cX8_traderReadsCorrected 3 none :: GT
def gwX8_traderReads : List Cond := .code yX8_traderReads cX8_traderReads 3 none :: GT
def gwX8_workOff : List Cond := .code yX8_workOff cX8_workOff 3 none :: GT
def gwX8_workInTurn : List Cond := .code yX8_workInTurn cX8_workInTurn 9 none :: GT
def gwX8_come : List Cond := .code yX8_come cX8_come 9 (some .int) :: GT
def gwX8_garble : List Cond := .code yX8_garble cX8_garble 4 (some .int) :: GT
def gwX8_tick : List Cond := .code yX8_tick cX8_tick 4 none :: GT
def gwX8_pass : List Cond := .code yX8_pass cX8_pass 4 (some .int) :: GT
def gwX8_isUp : List Cond := .code yX8_isUp cX8_isUp 1 (some .boolean) :: GT
def gwX8_isOn : List Cond := .code yX8_isOn cX8_isOn 2 (some .boolean) :: GT
def gwX8_onWay : List Cond := .code yX8_onWay cX8_onWay 2 (some .int) :: GT
def gwX8_sent : List Cond := .code yX8_sent cX8_sent 2 (some .int) :: GT
def gwX8_expected : List Cond := .code yX8_expected cX8_expected 2 (some .int) :: GT
def gwX8_held : List Cond := .code yX8_held cX8_held 2 (some .int) :: GT
def gwX8_requireMessage : List Cond := .code yX8_requireMessage cX8_requireMessage 4 (some (.object "TradeLine$Message")) :: GT
def gwX8_fields : List Cond := .code yX8_fields cX8_fields 3 (some .int) :: GT
def gwX8_tagAt : List Cond := .code yX8_tagAt cX8_tagAt 5 (some .int) :: GT
def gwX8_valueAt : List Cond := .code yX8_valueAt cX8_valueAt 5 (some .int) :: GT
def gwX8_requireRange : List Cond := .code yX8_requireRange cX8_requireRange 3 none :: GT
def gwX8_order : List Cond := .code yX8_order cX8_order 5 (some .int) :: GT
def gwX8_requireOrder : List Cond := .code yX8_requireOrder cX8_requireOrder 3 (some (.object "TradeLine$Order")) :: GT
def gwX8_requireAskable : List Cond := .code yX8_requireAskable cX8_requireAskable 2 none :: GT
def gwX8_cancel : List Cond := .code yX8_cancel cX8_cancel 3 (some .int) :: GT
def gwX8_replace : List Cond := .code yX8_replace cX8_replace 5 (some .int) :: GT
def gwX8_stateOf : List Cond := .code yX8_stateOf cX8_stateOf 2 (some .int) :: GT
def gwX8_isLeftOut : List Cond := .code yX8_isLeftOut cX8_isLeftOut 3 (some .boolean) :: GT
def gwX8_underWay : List Cond := .code yX8_underWay cX8_underWay 2 (some .int) :: GT
def gwX8_requireQuote : List Cond := .code yX8_requireQuote cX8_requireQuote 4 (some (.object "TradeLine$Quote")) :: GT
def gwX8_quote : List Cond := .code yX8_quote cX8_quote 9 (some .int) :: GT
def gwX8_quoted : List Cond := .code yX8_quoted cX8_quoted 3 (some .int) :: GT
def gwX8_requireExecution : List Cond := .code yX8_requireExecution cX8_requireExecution 3 (some (.object "TradeLine$Execution")) :: GT
def gwX8_requireUnbusted : List Cond := .code yX8_requireUnbusted cX8_requireUnbusted 1 none :: GT
def gwX8_bust : List Cond := .code yX8_bust cX8_bust 4 (some .int) :: GT
def gwX8_correct : List Cond := .code yX8_correct cX8_correct 5 (some .int) :: GT
def gwX8_executions : List Cond := .code yX8_executions cX8_executions 1 (some .int) :: GT
def gwX8_endDay : List Cond := .code yX8_endDay cX8_endDay 1 (some .int) :: GT
def gwX8_orders : List Cond := .code yX8_orders cX8_orders 1 (some .int) :: GT
def gwX8_left : List Cond := .code yX8_left cX8_left 4 (some .int) :: GT
def gwX8_done : List Cond := .code yX8_done cX8_done 4 (some .int) :: GT
def gwX8_doneByLog : List Cond := .code yX8_doneByLog cX8_doneByLog 7 (some .int) :: GT
def gwX8_out : List Cond := .code yX8_out cX8_out 4 (some .int) :: GT
def gwX8_hasExecutedAt : List Cond := .code yX8_hasExecutedAt cX8_hasExecutedAt 5 (some .boolean) :: GT
def gwX8_venues : List Cond := .code yX8_venues cX8_venues 5 (some .int) :: GT
def gwX8_total : List Cond := .code yX8_total cX8_total 8 (some .int) :: GT
def gwX8_agree : List Cond := .code yX8_agree cX8_agree 3 (some .boolean) :: GT
def gwJ2_newBytesLength_0f7a4 : List Cond := .code yJ2_newBytesLength_0f7a4 cJ2_newBytesLength_0f7a4 1 (some .int) :: GT
def gwJ2_newBytesFor_77867 : List Cond := .code yJ2_newBytesFor_77867 cJ2_newBytesFor_77867 1 (some (.array .byte)) :: GT
def gwJ5_init_d00df : List Cond := .code yJ5_init_d00df cJ5_init_d00df 2 none :: GT
def gwJ5_length_8abf5 : List Cond := .code yJ5_length_8abf5 cJ5_length_8abf5 1 (some .int) :: GT
def gwJ5_newCapacity_0f7a4 : List Cond := .code yJ5_newCapacity_0f7a4 cJ5_newCapacity_0f7a4 6 (some .int) :: GT
def gwJ7_copyOf_9075b : List Cond := .code yJ7_copyOf_9075b cJ7_copyOf_9075b 3 (some (.array .byte)) :: GT
def gwJ5_ensureCapacityInternal_d00df : List Cond := .code yJ5_ensureCapacityInternal_d00df cJ5_ensureCapacityInternal_d00df 3 none :: GT
def gwJ5_isLatin1_aae02 : List Cond := .code yJ5_isLatin1_aae02 cJ5_isLatin1_aae02 1 (some .boolean) :: GT
def gwJ2_length_9d52b : List Cond := .code yJ2_length_9d52b cJ2_length_9d52b 1 (some .int) :: GT
def gwJ3_checkFromIndexSize_8c36e : List Cond := .code yJ3_checkFromIndexSize_8c36e cJ3_checkFromIndexSize_8c36e 4 (some .int) :: GT
def gwJ0_checkBoundsOffCount_cabcc : List Cond := .code yJ0_checkBoundsOffCount_cabcc cJ0_checkBoundsOffCount_cabcc 3 (some .int) :: GT
def gwJ2_checkBoundsOffCount_d044e : List Cond := .code yJ2_checkBoundsOffCount_d044e cJ2_checkBoundsOffCount_d044e 3 none :: GT
def gwJ2_putChar_b72d1 : List Cond := .code yJ2_putChar_b72d1 cJ2_putChar_b72d1 3 none :: GT
def gwJ2_inflate_0e8fd : List Cond := .code yJ2_inflate_0e8fd cJ2_inflate_0e8fd 6 none :: GT
def gwJ1_inflate_0e8fd : List Cond := .code yJ1_inflate_0e8fd cJ1_inflate_0e8fd 5 none :: GT
def gwJ5_inflate_da8c8 : List Cond := .code yJ5_inflate_da8c8 cJ5_inflate_da8c8 2 none :: GT
def gwJ3_checkFromToIndex_8c36e : List Cond := .code yJ3_checkFromToIndex_8c36e cJ3_checkFromToIndex_8c36e 4 (some .int) :: GT
def gwJ0_checkBoundsBeginEnd_23922 : List Cond := .code yJ0_checkBoundsBeginEnd_23922 cJ0_checkBoundsBeginEnd_23922 3 none :: GT
def gwJ2_checkBoundsBeginEnd_d044e : List Cond := .code yJ2_checkBoundsBeginEnd_d044e cJ2_checkBoundsBeginEnd_d044e 3 none :: GT
def gwJ2_putCharsAt_cd4e5 : List Cond := .code yJ2_putCharsAt_cd4e5 cJ2_putCharsAt_cd4e5 7 (some .int) :: GT
def gwJ5_appendNull_278bc : List Cond := .code yJ5_appendNull_278bc cJ5_appendNull_278bc 3 (some (.object "java/lang/AbstractStringBuilder")) :: GT
def gwJ0_coder_7d493 : List Cond := .code yJ0_coder_7d493 cJ0_coder_7d493 1 (some .byte) :: GT
def gwJ0_length_8abf5 : List Cond := .code yJ0_length_8abf5 cJ0_length_8abf5 1 (some .int) :: GT
def gwJ5_inflateIfNeededFor_a7421 : List Cond := .code yJ5_inflateIfNeededFor_a7421 cJ5_inflateIfNeededFor_a7421 2 none :: GT
def gwJ0_getBytes_840e7 : List Cond := .code yJ0_getBytes_840e7 cJ0_getBytes_840e7 4 none :: GT
def gwJ5_putStringAt_47b60 : List Cond := .code yJ5_putStringAt_47b60 cJ5_putStringAt_47b60 3 none :: GT
def gwJ5_append_cf1ce : List Cond := .code yJ5_append_cf1ce cJ5_append_cf1ce 3 (some (.object "java/lang/AbstractStringBuilder")) :: GT
def gwJ6_stringSize_0f7a4 : List Cond := .code yJ6_stringSize_0f7a4 cJ6_stringSize_0f7a4 4 (some .int) :: GT
def gwJ6_getChars_ba4f3 : List Cond := .code yJ6_getChars_ba4f3 cJ6_getChars_ba4f3 7 (some .int) :: GT
def gwJ2_getChars_ba4f3 : List Cond := .code yJ2_getChars_ba4f3 cJ2_getChars_ba4f3 7 (some .int) :: GT
def gwJ2_getChars_46870 : List Cond := .code yJ2_getChars_46870 cJ2_getChars_46870 5 (some .int) :: GT
def gwJ5_append_c97b9 : List Cond := .code yJ5_append_c97b9 cJ5_append_c97b9 4 (some (.object "java/lang/AbstractStringBuilder")) :: GT
def gwJ5_getValue_6d5f1 : List Cond := .code yJ5_getValue_6d5f1 cJ5_getValue_6d5f1 1 (some (.array .byte)) :: GT
def gwJ9_max_7cf53 : List Cond := .code yJ9_max_7cf53 cJ9_max_7cf53 2 (some .int) :: GT
def gwJ9_min_7cf53 : List Cond := .code yJ9_min_7cf53 cJ9_min_7cf53 2 (some .int) :: GT
def gwJ4_length_8abf5 : List Cond := .code yJ4_length_8abf5 cJ4_length_8abf5 1 (some .int) :: GT
def gwJ7_checkLength_df160 : List Cond := .code yJ7_checkLength_df160 cJ7_checkLength_df160 2 none :: GT
def gwJ7_copyOfRangeByte_39247 : List Cond := .code yJ7_copyOfRangeByte_39247 cJ7_copyOfRangeByte_39247 5 (some (.array .byte)) :: GT
def gwJ7_copyOfRange_39247 : List Cond := .code yJ7_copyOfRange_39247 cJ7_copyOfRange_39247 3 (some (.array .byte)) :: GT
def gwJ2_getChar_3b067 : List Cond := .code yJ2_getChar_3b067 cJ2_getChar_3b067 2 (some .char) :: GT
def gwJ2_compress_5af95 : List Cond := .code yJ2_compress_5af95 cJ2_compress_5af95 7 (some .int) :: GT
def gwJ2_compress_39247 : List Cond := .code yJ2_compress_39247 cJ2_compress_39247 6 (some (.array .byte)) :: GT
def gwJ2_coderFromArrayLen_85cad : List Cond := .code yJ2_coderFromArrayLen_85cad cJ2_coderFromArrayLen_85cad 2 (some .byte) :: GT
def gwJ0_init_db425 : List Cond := .code yJ0_init_db425 cJ0_init_db425 5 none :: GT
def gwJ0_init_81219 : List Cond := .code yJ0_init_81219 cJ0_init_81219 2 none :: GT
def gwJ4_init_da8c8 : List Cond := .code yJ4_init_da8c8 cJ4_init_da8c8 1 none :: GT
def gwJ4_append_15ec4 : List Cond := .code yJ4_append_15ec4 cJ4_append_15ec4 2 (some (.object "java/lang/StringBuilder")) :: GT
def gwJ4_append_bf812 : List Cond := .code yJ4_append_bf812 cJ4_append_bf812 2 (some (.object "java/lang/StringBuilder")) :: GT
def gwJ4_toString_0e30d : List Cond := .code yJ4_toString_0e30d cJ4_toString_0e30d 1 (some (.object "java/lang/String")) :: GT
def gwJx4a65c_outOfBoundsMsg_b52d3 : List Cond := .code yJx4a65c_outOfBoundsMsg_b52d3 cJx4a65c_outOfBoundsMsg_b52d3 2 (some (.object "java/lang/String")) :: GT
def gwL_cell : List Cond := .code yL_cell cL_cell 2 (some .int) :: GT
def gwL_low : List Cond := .code yL_low cL_low 2 (some .int) :: GT
def gwL_get : List Cond := .code yL_get cL_get 2 (some .int) :: GT
def gwL_set : List Cond := .code yL_set cL_set 3 none :: GT
def gwL_go : List Cond := .code yL_go cL_go 7 none :: GT
def gwL_send : List Cond := .code yL_send cL_send 11 none :: GT
def gwL_part : List Cond := .code yL_part cL_part 3 (some .int) :: GT
def gwL_down : List Cond := .code yL_down cL_down 5 (some .int) :: GT
def gwL_up : List Cond := .code yL_up cL_up 7 none :: GT
def gwL_answer : List Cond := .code yL_answer cL_answer 15 none :: GT
def gwL_rest : List Cond := .code yL_rest cL_rest 4 (some .int) :: GT
def gwL_best : List Cond := .code yL_best cL_best 8 (some .int) :: GT
def gwL_route : List Cond := .code yL_route cL_route 18 none :: GT
def gwL_house : List Cond := .code yL_house cL_house 18 none :: GT
def gwL_price : List Cond := .code yL_price cL_price 3 (some .int) :: GT
def gwL_size : List Cond := .code yL_size cL_size 2 (some .int) :: GT
def gwL_trader : List Cond := .code yL_trader cL_trader 13 none :: GT
def gwL_take : List Cond := .code yL_take cL_take 24 none :: GT
def gwL_one : List Cond := .code yL_one cL_one 22 none :: GT
def gwL_lines : List Cond := .code yL_lines cL_lines 23 (some .boolean) :: GT
def gwL_trades : List Cond := .code yL_trades cL_trades 27 (some .boolean) :: GT
def gwL_isMessage : List Cond := .code yL_isMessage cL_isMessage 18 (some .boolean) :: GT
def gwL_isTold : List Cond := .code yL_isTold cL_isTold 22 (some .boolean) :: GT
theorem inGJ0 : ∀ w ∈ u_ws RJ0 TJ0 4, w ∈ GT := by decide +kernel
theorem inGJ4 : ∀ w ∈ u_ws RJ4 TJ4 4, w ∈ GT := by decide +kernel
theorem inGJx4a65c : ∀ w ∈ u_ws RJx4a65c TJx4a65c 3, w ∈ GT := by decide +kernel
theorem inGX0 : ∀ w ∈ u_ws RX0 TX0 2, w ∈ GT := by decide +kernel
theorem inGX1 : ∀ w ∈ u_ws RX1 TX1 4, w ∈ GT := by decide +kernel
theorem inGX2 : ∀ w ∈ u_ws RX2 TX2 9, w ∈ GT := by decide +kernel
theorem inGX3 : ∀ w ∈ u_ws RX3 TX3 4, w ∈ GT := by decide +kernel
theorem inGX4 : ∀ w ∈ u_ws RX4 TX4 8, w ∈ GT := by decide +kernel
theorem inGX5 : ∀ w ∈ u_ws RX5 TX5 9, w ∈ GT := by decide +kernel
theorem inGX6 : ∀ w ∈ u_ws RX6 TX6 3, w ∈ GT := by decide +kernel
theorem inGX7 : ∀ w ∈ u_ws RX7 TX7 5, w ∈ GT := by decide +kernel
theorem inGX8 : ∀ w ∈ u_ws RX8 TX8 11, w ∈ GT := by decide +kernel
