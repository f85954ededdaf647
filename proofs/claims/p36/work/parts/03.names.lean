def RX0 : String := "ClockLots$Assignment"
def TX0 : u_T := fun k => match k with
  | 0 => ("ClockLots$Assignment", "left", "[I", true)
  | 1 => ("ClockLots$Assignment", "taken", "[I", true)
  | 2 => ("ClockLots$Assignment", "bestTaken", "[I", true)
  | _ => ("ClockLots$Assignment", "bestWorth", "I", false)
def tyX0 : Nat → FieldType := fun k => match k with
  | 0 => .array .int
  | 1 => .array .int
  | 2 => .array .int
  | _ => .int
abbrev wsX00 : List Cond := u_ws RX0 TX0 4
theorem nmX0 : ∀ a, a < 4 → ∀ b, b < 4 → a ≠ b → (TX0 a).2.1 ≠ (TX0 b).2.1 := by decide +kernel
theorem tyX0_ok : ∀ k, k < 4 → parseFieldDescriptor (TX0 k).2.2.1 = some (tyX0 k) := by decide +kernel
abbrev cX0_init : ByteArray := prog_2_method_1_code
def yX0_init : MethodName := ⟨RX0, "<init>", "()V"⟩
abbrev cX0_find : ByteArray := prog_2_method_2_code
def yX0_find : MethodName := ⟨RX0, "find", "(LClockLots$Auction;II)I"⟩
abbrev cX0_packOf : ByteArray := prog_2_method_3_code
def yX0_packOf : MethodName := ⟨RX0, "packOf", "(I)I"⟩
abbrev cX0_tryFrom : ByteArray := prog_2_method_4_code
def yX0_tryFrom : MethodName := ⟨RX0, "tryFrom", "(LClockLots$Auction;III)V"⟩
abbrev cX0_tryWith : ByteArray := prog_2_method_5_code
def yX0_tryWith : MethodName := ⟨RX0, "tryWith", "(LClockLots$Auction;IIII)V"⟩
abbrev cX0_fits : ByteArray := prog_2_method_6_code
def yX0_fits : MethodName := ⟨RX0, "fits", "(LClockLots$Auction;II)Z"⟩
abbrev cX0_take : ByteArray := prog_2_method_7_code
def yX0_take : MethodName := ⟨RX0, "take", "(LClockLots$Auction;III)V"⟩
abbrev cX0_keepIfBetter : ByteArray := prog_2_method_8_code
def yX0_keepIfBetter : MethodName := ⟨RX0, "keepIfBetter", "(I)V"⟩
def RX1 : String := "ClockLots$Auction"
def TX1 : u_T := fun k => match k with
  | 0 => ("ClockLots$Auction", "supply", "[I", true)
  | 1 => ("ClockLots$Auction", "points", "[I", true)
  | 2 => ("ClockLots$Auction", "price", "[I", true)
  | 3 => ("ClockLots$Auction", "right", "[I", true)
  | 4 => ("ClockLots$Auction", "cap", "[I", true)
  | 5 => ("ClockLots$Auction", "packs", "[I", true)
  | 6 => ("ClockLots$Auction", "value", "[I", true)
  | 7 => ("ClockLots$Auction", "demand", "[I", true)
  | 8 => ("ClockLots$Auction", "lots", "[I", true)
  | 9 => ("ClockLots$Auction", "worth", "[I", true)
  | 10 => ("ClockLots$Auction", "bidders", "I", false)
  | 11 => ("ClockLots$Auction", "rounds", "I", false)
  | 12 => ("ClockLots$Auction", "over", "Z", false)
  | 13 => ("ClockLots$Auction", "keepPercent", "I", false)
  | _ => ("ClockLots$Auction", "stepPercent", "I", false)
def tyX1 : Nat → FieldType := fun k => match k with
  | 0 => .array .int
  | 1 => .array .int
  | 2 => .array .int
  | 3 => .array .int
  | 4 => .array .int
  | 5 => .array .int
  | 6 => .array .int
  | 7 => .array .int
  | 8 => .array .int
  | 9 => .array .int
  | 10 => .int
  | 11 => .int
  | 12 => .boolean
  | 13 => .int
  | _ => .int
abbrev wsX10 : List Cond := u_ws RX1 TX1 15
theorem nmX1 : ∀ a, a < 15 → ∀ b, b < 15 → a ≠ b → (TX1 a).2.1 ≠ (TX1 b).2.1 := by decide +kernel
theorem tyX1_ok : ∀ k, k < 15 → parseFieldDescriptor (TX1 k).2.2.1 = some (tyX1 k) := by decide +kernel
abbrev cX1_init : ByteArray := prog_3_method_1_code
def yX1_init : MethodName := ⟨RX1, "<init>", "()V"⟩
abbrev cX1_renew : ByteArray := prog_3_method_2_code
def yX1_renew : MethodName := ⟨RX1, "renew", "()V"⟩
abbrev cX1_become : ByteArray := prog_3_method_3_code
def yX1_become : MethodName := ⟨RX1, "become", "(LClockLots$Auction;)V"⟩
abbrev cX1_noBidder : ByteArray := prog_3_method_4_code
def yX1_noBidder : MethodName := ⟨RX1, "noBidder", "(I)Z"⟩
abbrev cX1_settingOf : ByteArray := prog_3_method_5_code
def yX1_settingOf : MethodName := ⟨RX1, "settingOf", "(I)I"⟩
abbrev cX1_askedOf : ByteArray := prog_3_method_6_code
def yX1_askedOf : MethodName := ⟨RX1, "askedOf", "(I)I"⟩
abbrev cX1_scarceKinds : ByteArray := prog_3_method_7_code
def yX1_scarceKinds : MethodName := ⟨RX1, "scarceKinds", "()I"⟩
abbrev cX1_allDemands : ByteArray := prog_3_method_8_code
def yX1_allDemands : MethodName := ⟨RX1, "allDemands", "()I"⟩
abbrev cX1_allCosts : ByteArray := prog_3_method_9_code
def yX1_allCosts : MethodName := ⟨RX1, "allCosts", "()I"⟩
abbrev cX1_allPacks : ByteArray := prog_3_method_10_code
def yX1_allPacks : MethodName := ⟨RX1, "allPacks", "()I"⟩
abbrev cX1_activity : ByteArray := prog_3_method_11_code
def yX1_activity : MethodName := ⟨RX1, "activity", "(I)I"⟩
abbrev cX1_profit : ByteArray := prog_3_method_12_code
def yX1_profit : MethodName := ⟨RX1, "profit", "(I)I"⟩
abbrev cX1_margin : ByteArray := prog_3_method_13_code
def yX1_margin : MethodName := ⟨RX1, "margin", "(II)I"⟩
abbrev cX1_mostLots : ByteArray := prog_3_method_14_code
def yX1_mostLots : MethodName := ⟨RX1, "mostLots", "(II)I"⟩
abbrev cX1_packLots : ByteArray := prog_3_method_15_code
def yX1_packLots : MethodName := ⟨RX1, "packLots", "(III)I"⟩
abbrev cX1_packValue : ByteArray := prog_3_method_16_code
def yX1_packValue : MethodName := ⟨RX1, "packValue", "(II)I"⟩
abbrev cX1_costOf : ByteArray := prog_3_method_17_code
def yX1_costOf : MethodName := ⟨RX1, "costOf", "(III)I"⟩
abbrev cX1_packCell : ByteArray := prog_3_method_18_code
def yX1_packCell : MethodName := ⟨RX1, "packCell", "(II)I"⟩
abbrev cX1_whyNotOffer : ByteArray := prog_3_method_19_code
def yX1_whyNotOffer : MethodName := ⟨RX1, "whyNotOffer", "(III)I"⟩
abbrev cX1_whyNotPrice : ByteArray := prog_3_method_20_code
def yX1_whyNotPrice : MethodName := ⟨RX1, "whyNotPrice", "(II)I"⟩
abbrev cX1_whyNotJoin : ByteArray := prog_3_method_21_code
def yX1_whyNotJoin : MethodName := ⟨RX1, "whyNotJoin", "(II)I"⟩
abbrev cX1_whyNotValue : ByteArray := prog_3_method_22_code
def yX1_whyNotValue : MethodName := ⟨RX1, "whyNotValue", "(III)I"⟩
abbrev cX1_whyNotAsk : ByteArray := prog_3_method_23_code
def yX1_whyNotAsk : MethodName := ⟨RX1, "whyNotAsk", "(III)I"⟩
abbrev cX1_whyNotBid : ByteArray := prog_3_method_24_code
def yX1_whyNotBid : MethodName := ⟨RX1, "whyNotBid", "(I)I"⟩
abbrev cX1_whyNotClose : ByteArray := prog_3_method_25_code
def yX1_whyNotClose : MethodName := ⟨RX1, "whyNotClose", "()I"⟩
abbrev cX1_whyNotAdd : ByteArray := prog_3_method_26_code
def yX1_whyNotAdd : MethodName := ⟨RX1, "whyNotAdd", "(IIIII)I"⟩
abbrev cX1_mayHave : ByteArray := prog_3_method_27_code
def yX1_mayHave : MethodName := ⟨RX1, "mayHave", "(IIII)Z"⟩
abbrev cX1_whyNotDrop : ByteArray := prog_3_method_28_code
def yX1_whyNotDrop : MethodName := ⟨RX1, "whyNotDrop", "(II)I"⟩
abbrev cX1_whyNotSet : ByteArray := prog_3_method_29_code
def yX1_whyNotSet : MethodName := ⟨RX1, "whyNotSet", "(II)I"⟩
abbrev cX1_changeOffer : ByteArray := prog_3_method_30_code
def yX1_changeOffer : MethodName := ⟨RX1, "changeOffer", "(III)V"⟩
abbrev cX1_addBidder : ByteArray := prog_3_method_31_code
def yX1_addBidder : MethodName := ⟨RX1, "addBidder", "(II)V"⟩
abbrev cX1_changeSetting : ByteArray := prog_3_method_32_code
def yX1_changeSetting : MethodName := ⟨RX1, "changeSetting", "(II)V"⟩
abbrev cX1_bidByValues : ByteArray := prog_3_method_33_code
def yX1_bidByValues : MethodName := ⟨RX1, "bidByValues", "(I)V"⟩
abbrev cX1_mostWanted : ByteArray := prog_3_method_34_code
def yX1_mostWanted : MethodName := ⟨RX1, "mostWanted", "(II)I"⟩
abbrev cX1_changeDemands : ByteArray := prog_3_method_35_code
def yX1_changeDemands : MethodName := ⟨RX1, "changeDemands", "(IIII)V"⟩
abbrev cX1_closeRound : ByteArray := prog_3_method_36_code
def yX1_closeRound : MethodName := ⟨RX1, "closeRound", "()I"⟩
abbrev cX1_raisePrice : ByteArray := prog_3_method_37_code
def yX1_raisePrice : MethodName := ⟨RX1, "raisePrice", "(I)V"⟩
abbrev cX1_addPack : ByteArray := prog_3_method_38_code
def yX1_addPack : MethodName := ⟨RX1, "addPack", "(IIIII)V"⟩
abbrev cX1_dropPack : ByteArray := prog_3_method_39_code
def yX1_dropPack : MethodName := ⟨RX1, "dropPack", "(II)V"⟩
abbrev cX1_tryOffer : ByteArray := prog_3_method_40_code
def yX1_tryOffer : MethodName := ⟨RX1, "tryOffer", "(III)Z"⟩
abbrev cX1_tryJoin : ByteArray := prog_3_method_41_code
def yX1_tryJoin : MethodName := ⟨RX1, "tryJoin", "(II)Z"⟩
abbrev cX1_tryValue : ByteArray := prog_3_method_42_code
def yX1_tryValue : MethodName := ⟨RX1, "tryValue", "(III)Z"⟩
abbrev cX1_tryAsk : ByteArray := prog_3_method_43_code
def yX1_tryAsk : MethodName := ⟨RX1, "tryAsk", "(III)Z"⟩
abbrev cX1_tryBid : ByteArray := prog_3_method_44_code
def yX1_tryBid : MethodName := ⟨RX1, "tryBid", "(I)Z"⟩
abbrev cX1_tryClose : ByteArray := prog_3_method_45_code
def yX1_tryClose : MethodName := ⟨RX1, "tryClose", "()Z"⟩
abbrev cX1_tryAdd : ByteArray := prog_3_method_46_code
def yX1_tryAdd : MethodName := ⟨RX1, "tryAdd", "(IIIII)Z"⟩
abbrev cX1_tryDrop : ByteArray := prog_3_method_47_code
def yX1_tryDrop : MethodName := ⟨RX1, "tryDrop", "(II)Z"⟩
abbrev cX1_trySet : ByteArray := prog_3_method_48_code
def yX1_trySet : MethodName := ⟨RX1, "trySet", "(II)Z"⟩
def RX2 : String := "ClockLots$History"
def TX2 : u_T := fun k => match k with
  | 0 => ("ClockLots$History", "states", "[LClockLots$Auction;", true)
  | 1 => ("ClockLots$History", "next", "I", false)
  | _ => ("ClockLots$History", "count", "I", false)
def tyX2 : Nat → FieldType := fun k => match k with
  | 0 => .array (.object "ClockLots$Auction")
  | 1 => .int
  | _ => .int
abbrev wsX20 : List Cond := u_ws RX2 TX2 3
theorem nmX2 : ∀ a, a < 3 → ∀ b, b < 3 → a ≠ b → (TX2 a).2.1 ≠ (TX2 b).2.1 := by decide +kernel
theorem tyX2_ok : ∀ k, k < 3 → parseFieldDescriptor (TX2 k).2.2.1 = some (tyX2 k) := by decide +kernel
abbrev cX2_init : ByteArray := prog_4_method_1_code
def yX2_init : MethodName := ⟨RX2, "<init>", "()V"⟩
abbrev cX2_isEmpty : ByteArray := prog_4_method_2_code
def yX2_isEmpty : MethodName := ⟨RX2, "isEmpty", "()Z"⟩
abbrev cX2_size : ByteArray := prog_4_method_3_code
def yX2_size : MethodName := ⟨RX2, "size", "()I"⟩
abbrev cX2_forgetAll : ByteArray := prog_4_method_4_code
def yX2_forgetAll : MethodName := ⟨RX2, "forgetAll", "()V"⟩
abbrev cX2_remember : ByteArray := prog_4_method_5_code
def yX2_remember : MethodName := ⟨RX2, "remember", "(LClockLots$Auction;)V"⟩
abbrev cX2_takeBack : ByteArray := prog_4_method_6_code
def yX2_takeBack : MethodName := ⟨RX2, "takeBack", "(LClockLots$Auction;)V"⟩
def RX3 : String := "ClockLots$Script"
def TX3 : u_T := fun k => match k with
  | _ => ("", "", "", false)
def tyX3 : Nat → FieldType := fun k => match k with
  | _ => .int
abbrev wsX30 : List Cond := u_ws RX3 TX3 0
theorem nmX3 : ∀ a, a < 0 → ∀ b, b < 0 → a ≠ b → (TX3 a).2.1 ≠ (TX3 b).2.1 := by decide +kernel
theorem tyX3_ok : ∀ k, k < 0 → parseFieldDescriptor (TX3 k).2.2.1 = some (tyX3 k) := by decide +kernel
abbrev cX3_succeeds : ByteArray := prog_5_method_2_code
def yX3_succeeds : MethodName := ⟨RX3, "succeeds", "(LClockLots$Auction;I)Z"⟩
abbrev cX3_takeTurn : ByteArray := prog_5_method_3_code
def yX3_takeTurn : MethodName := ⟨RX3, "takeTurn", "(LClockLots$Auction;I)V"⟩
def RX4 : String := "ClockLots$Text"
def TX4 : u_T := fun k => match k with
  | 0 => ("ClockLots$Text", "letters", "[C", true)
  | _ => ("ClockLots$Text", "length", "I", false)
def tyX4 : Nat → FieldType := fun k => match k with
  | 0 => .array .char
  | _ => .int
abbrev wsX40 : List Cond := u_ws RX4 TX4 2
theorem nmX4 : ∀ a, a < 2 → ∀ b, b < 2 → a ≠ b → (TX4 a).2.1 ≠ (TX4 b).2.1 := by decide +kernel
theorem tyX4_ok : ∀ k, k < 2 → parseFieldDescriptor (TX4 k).2.2.1 = some (tyX4 k) := by decide +kernel
abbrev cX4_init : ByteArray := prog_6_method_1_code
def yX4_init : MethodName := ⟨RX4, "<init>", "()V"⟩
abbrev cX4_isFull : ByteArray := prog_6_method_2_code
def yX4_isFull : MethodName := ⟨RX4, "isFull", "()Z"⟩
abbrev cX4_put : ByteArray := prog_6_method_3_code
def yX4_put : MethodName := ⟨RX4, "put", "(C)I"⟩
abbrev cX4_empty : ByteArray := prog_6_method_4_code
def yX4_empty : MethodName := ⟨RX4, "empty", "()I"⟩
abbrev cX4_firstError : ByteArray := prog_6_method_5_code
def yX4_firstError : MethodName := ⟨RX4, "firstError", "()I"⟩
abbrev cX4_doCommands : ByteArray := prog_6_method_6_code
def yX4_doCommands : MethodName := ⟨RX4, "doCommands", "(LClockLots$Auction;)I"⟩
abbrev cX4_doCommand : ByteArray := prog_6_method_7_code
def yX4_doCommand : MethodName := ⟨RX4, "doCommand", "(LClockLots$Auction;I)Z"⟩
abbrev cX4_number : ByteArray := prog_6_method_8_code
def yX4_number : MethodName := ⟨RX4, "number", "(II)I"⟩
abbrev cX4_isCommand : ByteArray := prog_6_method_9_code
def yX4_isCommand : MethodName := ⟨RX4, "isCommand", "(C)Z"⟩
abbrev cX4_digitsOf : ByteArray := prog_6_method_10_code
def yX4_digitsOf : MethodName := ⟨RX4, "digitsOf", "(C)I"⟩
abbrev cX4_allows : ByteArray := prog_6_method_11_code
def yX4_allows : MethodName := ⟨RX4, "allows", "(CIC)Z"⟩
abbrev cX4_leastDigits : ByteArray := prog_6_method_12_code
def yX4_leastDigits : MethodName := ⟨RX4, "leastDigits", "(C)Ljava/lang/String;"⟩
abbrev cX4_greatestDigits : ByteArray := prog_6_method_13_code
def yX4_greatestDigits : MethodName := ⟨RX4, "greatestDigits", "(C)Ljava/lang/String;"⟩
def RX5 : String := "ClockLots"
def TX5 : u_T := fun k => match k with
  | 0 => ("ClockLots", "now", "LClockLots$Auction;", true)
  | 1 => ("ClockLots", "copy", "LClockLots$Auction;", true)
  | 2 => ("ClockLots", "history", "LClockLots$History;", true)
  | 3 => ("ClockLots", "slots", "[LClockLots$Auction;", true)
  | 4 => ("ClockLots", "saved", "[Z", true)
  | 5 => ("ClockLots", "text", "LClockLots$Text;", true)
  | _ => ("ClockLots", "assignment", "LClockLots$Assignment;", true)
def tyX5 : Nat → FieldType := fun k => match k with
  | 0 => .object "ClockLots$Auction"
  | 1 => .object "ClockLots$Auction"
  | 2 => .object "ClockLots$History"
  | 3 => .array (.object "ClockLots$Auction")
  | 4 => .array .boolean
  | 5 => .object "ClockLots$Text"
  | _ => .object "ClockLots$Assignment"
abbrev wsX50 : List Cond := u_ws RX5 TX5 7
theorem nmX5 : ∀ a, a < 7 → ∀ b, b < 7 → a ≠ b → (TX5 a).2.1 ≠ (TX5 b).2.1 := by decide +kernel
theorem tyX5_ok : ∀ k, k < 7 → parseFieldDescriptor (TX5 k).2.2.1 = some (tyX5 k) := by decide +kernel
abbrev cX5_init : ByteArray := prog_1_method_1_code
def yX5_init : MethodName := ⟨RX5, "<init>", "()V"⟩
abbrev cX5_append : ByteArray := prog_1_method_2_code
def yX5_append : MethodName := ⟨RX5, "append", "(I)I"⟩
abbrev cX5_clearText : ByteArray := prog_1_method_3_code
def yX5_clearText : MethodName := ⟨RX5, "clearText", "()I"⟩
abbrev cX5_errorPosition : ByteArray := prog_1_method_4_code
def yX5_errorPosition : MethodName := ⟨RX5, "errorPosition", "()I"⟩
abbrev cX5_load : ByteArray := prog_1_method_5_code
def yX5_load : MethodName := ⟨RX5, "load", "()I"⟩
abbrev cX5_about : ByteArray := prog_1_method_6_code
def yX5_about : MethodName := ⟨RX5, "about", "(I)I"⟩
abbrev cX5_kind : ByteArray := prog_1_method_7_code
def yX5_kind : MethodName := ⟨RX5, "kind", "(II)I"⟩
abbrev cX5_bidder : ByteArray := prog_1_method_8_code
def yX5_bidder : MethodName := ⟨RX5, "bidder", "(II)I"⟩
abbrev cX5_demand : ByteArray := prog_1_method_9_code
def yX5_demand : MethodName := ⟨RX5, "demand", "(II)I"⟩
abbrev cX5_pack : ByteArray := prog_1_method_10_code
def yX5_pack : MethodName := ⟨RX5, "pack", "(III)I"⟩
abbrev cX5_setting : ByteArray := prog_1_method_11_code
def yX5_setting : MethodName := ⟨RX5, "setting", "(I)I"⟩
abbrev cX5_offer : ByteArray := prog_1_method_12_code
def yX5_offer : MethodName := ⟨RX5, "offer", "(III)I"⟩
abbrev cX5_price : ByteArray := prog_1_method_13_code
def yX5_price : MethodName := ⟨RX5, "price", "(II)I"⟩
abbrev cX5_join : ByteArray := prog_1_method_14_code
def yX5_join : MethodName := ⟨RX5, "join", "(II)I"⟩
abbrev cX5_value : ByteArray := prog_1_method_15_code
def yX5_value : MethodName := ⟨RX5, "value", "(III)I"⟩
abbrev cX5_ask : ByteArray := prog_1_method_16_code
def yX5_ask : MethodName := ⟨RX5, "ask", "(III)I"⟩
abbrev cX5_bid : ByteArray := prog_1_method_17_code
def yX5_bid : MethodName := ⟨RX5, "bid", "(I)I"⟩
abbrev cX5_close : ByteArray := prog_1_method_18_code
def yX5_close : MethodName := ⟨RX5, "close", "()I"⟩
abbrev cX5_add : ByteArray := prog_1_method_19_code
def yX5_add : MethodName := ⟨RX5, "add", "(IIIII)I"⟩
abbrev cX5_drop : ByteArray := prog_1_method_20_code
def yX5_drop : MethodName := ⟨RX5, "drop", "(II)I"⟩
abbrev cX5_set : ByteArray := prog_1_method_21_code
def yX5_set : MethodName := ⟨RX5, "set", "(II)I"⟩
abbrev cX5_undo : ByteArray := prog_1_method_22_code
def yX5_undo : MethodName := ⟨RX5, "undo", "()I"⟩
abbrev cX5_best : ByteArray := prog_1_method_23_code
def yX5_best : MethodName := ⟨RX5, "best", "()I"⟩
abbrev cX5_gets : ByteArray := prog_1_method_24_code
def yX5_gets : MethodName := ⟨RX5, "gets", "(I)I"⟩
abbrev cX5_pays : ByteArray := prog_1_method_25_code
def yX5_pays : MethodName := ⟨RX5, "pays", "(I)I"⟩
abbrev cX5_oneMore : ByteArray := prog_1_method_26_code
def yX5_oneMore : MethodName := ⟨RX5, "oneMore", "(I)I"⟩
abbrev cX5_leastMissed : ByteArray := prog_1_method_27_code
def yX5_leastMissed : MethodName := ⟨RX5, "leastMissed", "()I"⟩
abbrev cX5_wouldAsk : ByteArray := prog_1_method_28_code
def yX5_wouldAsk : MethodName := ⟨RX5, "wouldAsk", "(II)I"⟩
abbrev cX5_roundsLeft : ByteArray := prog_1_method_29_code
def yX5_roundsLeft : MethodName := ⟨RX5, "roundsLeft", "()I"⟩
abbrev cX5_endPrice : ByteArray := prog_1_method_30_code
def yX5_endPrice : MethodName := ⟨RX5, "endPrice", "(I)I"⟩
abbrev cX5_runScript : ByteArray := prog_1_method_31_code
def yX5_runScript : MethodName := ⟨RX5, "runScript", "(IJ)I"⟩
abbrev cX5_simulate : ByteArray := prog_1_method_32_code
def yX5_simulate : MethodName := ⟨RX5, "simulate", "(JI)I"⟩
abbrev cX5_save : ByteArray := prog_1_method_33_code
def yX5_save : MethodName := ⟨RX5, "save", "(I)I"⟩
abbrev cX5_restore : ByteArray := prog_1_method_34_code
def yX5_restore : MethodName := ⟨RX5, "restore", "(I)I"⟩
abbrev cX5_runToTheEnd : ByteArray := prog_1_method_35_code
def yX5_runToTheEnd : MethodName := ⟨RX5, "runToTheEnd", "()I"⟩
abbrev cX5_needKind : ByteArray := prog_1_method_36_code
def yX5_needKind : MethodName := ⟨RX5, "needKind", "(I)V"⟩
abbrev cX5_needBidder : ByteArray := prog_1_method_37_code
def yX5_needBidder : MethodName := ⟨RX5, "needBidder", "(I)V"⟩
abbrev cX5_needSlot : ByteArray := prog_1_method_38_code
def yX5_needSlot : MethodName := ⟨RX5, "needSlot", "(I)V"⟩
abbrev cX5_refuse : ByteArray := prog_1_method_39_code
def yX5_refuse : MethodName := ⟨RX5, "refuse", "(I)V"⟩
abbrev cX5_noKind : ByteArray := prog_1_method_40_code
def yX5_noKind : MethodName := ⟨RX5, "noKind", "(I)Z"⟩
abbrev cX5_outside : ByteArray := prog_1_method_41_code
def yX5_outside : MethodName := ⟨RX5, "outside", "(III)Z"⟩
abbrev cX5_quotient : ByteArray := prog_1_method_42_code
def yX5_quotient : MethodName := ⟨RX5, "quotient", "(II)I"⟩
abbrev cX5_cell : ByteArray := prog_1_method_43_code
def yX5_cell : MethodName := ⟨RX5, "cell", "(II)I"⟩
def RX6 : String := "ClockLotsModel"
def TX6 : u_T := fun k => match k with
  | _ => ("", "", "", false)
def tyX6 : Nat → FieldType := fun k => match k with
  | _ => .int
abbrev wsX60 : List Cond := u_ws RX6 TX6 0
theorem nmX6 : ∀ a, a < 0 → ∀ b, b < 0 → a ≠ b → (TX6 a).2.1 ≠ (TX6 b).2.1 := by decide +kernel
theorem tyX6_ok : ∀ k, k < 0 → parseFieldDescriptor (TX6 k).2.2.1 = some (tyX6 k) := by decide +kernel
def RJ11 : String := "java/lang/Character"
def TJ11 : u_T := fun k => match k with
  | _ => ("", "", "", false)
def tyJ11 : Nat → FieldType := fun k => match k with
  | _ => .int
abbrev wsJ110 : List Cond := u_ws RJ11 TJ11 0
theorem nmJ11 : ∀ a, a < 0 → ∀ b, b < 0 → a ≠ b → (TJ11 a).2.1 ≠ (TJ11 b).2.1 := by decide +kernel
theorem tyJ11_ok : ∀ k, k < 0 → parseFieldDescriptor (TJ11 k).2.2.1 = some (tyJ11 k) := by decide +kernel
abbrev cJ11_isValidCodePoint_9a6ad : ByteArray := prog_9_method_11_code
def yJ11_isValidCodePoint_9a6ad : MethodName := ⟨RJ11, "isValidCodePoint", "(I)Z"⟩
abbrev cJ11_highSurrogate_5068e : ByteArray := prog_9_method_28_code
def yJ11_highSurrogate_5068e : MethodName := ⟨RJ11, "highSurrogate", "(I)C"⟩
abbrev cJ11_lowSurrogate_5068e : ByteArray := prog_9_method_29_code
def yJ11_lowSurrogate_5068e : MethodName := ⟨RJ11, "lowSurrogate", "(I)C"⟩
def RJ9 : String := "java/lang/Math"
def TJ9 : u_T := fun k => match k with
  | _ => ("", "", "", false)
def tyJ9 : Nat → FieldType := fun k => match k with
  | _ => .int
abbrev wsJ90 : List Cond := u_ws RJ9 TJ9 0
theorem nmJ9 : ∀ a, a < 0 → ∀ b, b < 0 → a ≠ b → (TJ9 a).2.1 ≠ (TJ9 b).2.1 := by decide +kernel
theorem tyJ9_ok : ∀ k, k < 0 → parseFieldDescriptor (TJ9 k).2.2.1 = some (tyJ9 k) := by decide +kernel
abbrev cJ9_max_7cf53 : ByteArray := prog_14_method_65_code
def yJ9_max_7cf53 : MethodName := ⟨RJ9, "max", "(II)I"⟩
abbrev cJ9_min_7cf53 : ByteArray := prog_14_method_69_code
def yJ9_min_7cf53 : MethodName := ⟨RJ9, "min", "(II)I"⟩
def RJ0 : String := "java/lang/String"
def TJ0 : u_T := fun k => match k with
  | _ => ("", "", "", false)
def tyJ0 : Nat → FieldType := fun k => match k with
  | _ => .int
abbrev wsJ00 : List Cond := u_ws RJ0 TJ0 0
theorem nmJ0 : ∀ a, a < 0 → ∀ b, b < 0 → a ≠ b → (TJ0 a).2.1 ≠ (TJ0 b).2.1 := by decide +kernel
theorem tyJ0_ok : ∀ k, k < 0 → parseFieldDescriptor (TJ0 k).2.2.1 = some (tyJ0 k) := by decide +kernel
abbrev cJ0_length_8abf5 : ByteArray := prog_16_method_54_code
def yJ0_length_8abf5 : MethodName := ⟨RJ0, "length", "()I"⟩
abbrev cJ0_charAt_5068e : ByteArray := prog_16_method_56_code
def yJ0_charAt_5068e : MethodName := ⟨RJ0, "charAt", "(I)C"⟩
abbrev cJ0_indexOf_0f7a4 : ByteArray := prog_16_method_79_code
def yJ0_indexOf_0f7a4 : MethodName := ⟨RJ0, "indexOf", "(I)I"⟩
abbrev cJ0_indexOf_7cf53 : ByteArray := prog_16_method_80_code
def yJ0_indexOf_7cf53 : MethodName := ⟨RJ0, "indexOf", "(II)I"⟩
abbrev cJ0_coder_7d493 : ByteArray := prog_16_method_152_code
def yJ0_coder_7d493 : MethodName := ⟨RJ0, "coder", "()B"⟩
abbrev cJ0_isLatin1_aae02 : ByteArray := prog_16_method_154_code
def yJ0_isLatin1_aae02 : MethodName := ⟨RJ0, "isLatin1", "()Z"⟩
abbrev cJ0_checkIndex_df160 : ByteArray := prog_16_method_155_code
def yJ0_checkIndex_df160 : MethodName := ⟨RJ0, "checkIndex", "(II)V"⟩
abbrev cJ0_checkBoundsBeginEnd_23922 : ByteArray := prog_16_method_158_code
def yJ0_checkBoundsBeginEnd_23922 : MethodName := ⟨RJ0, "checkBoundsBeginEnd", "(III)V"⟩
def RJ1 : String := "java/lang/StringLatin1"
def TJ1 : u_T := fun k => match k with
  | _ => ("", "", "", false)
def tyJ1 : Nat → FieldType := fun k => match k with
  | _ => .int
abbrev wsJ10 : List Cond := u_ws RJ1 TJ1 0
theorem nmJ1 : ∀ a, a < 0 → ∀ b, b < 0 → a ≠ b → (TJ1 a).2.1 ≠ (TJ1 b).2.1 := by decide +kernel
theorem tyJ1_ok : ∀ k, k < 0 → parseFieldDescriptor (TJ1 k).2.2.1 = some (tyJ1 k) := by decide +kernel
abbrev cJ1_charAt_3b067 : ByteArray := prog_17_method_2_code
def yJ1_charAt_3b067 : MethodName := ⟨RJ1, "charAt", "([BI)C"⟩
abbrev cJ1_canEncode_9a6ad : ByteArray := prog_17_method_4_code
def yJ1_canEncode_9a6ad : MethodName := ⟨RJ1, "canEncode", "(I)Z"⟩
abbrev cJ1_indexOf_4cfef : ByteArray := prog_17_method_22_code
def yJ1_indexOf_4cfef : MethodName := ⟨RJ1, "indexOf", "([BIII)I"⟩
abbrev cJ1_indexOfChar_4cfef : ByteArray := prog_17_method_23_code
def yJ1_indexOfChar_4cfef : MethodName := ⟨RJ1, "indexOfChar", "([BIII)I"⟩
def RJ2 : String := "java/lang/StringUTF16"
def TJ2 : u_T := fun k => match k with
  | _ => ("", "", "", false)
def tyJ2 : Nat → FieldType := fun k => match k with
  | _ => .int
abbrev wsJ20 : List Cond := u_ws RJ2 TJ2 0
theorem nmJ2 : ∀ a, a < 0 → ∀ b, b < 0 → a ≠ b → (TJ2 a).2.1 ≠ (TJ2 b).2.1 := by decide +kernel
theorem tyJ2_ok : ∀ k, k < 0 → parseFieldDescriptor (TJ2 k).2.2.1 = some (tyJ2 k) := by decide +kernel
abbrev cJ2_getChar_3b067 : ByteArray := prog_18_method_5_code
def yJ2_getChar_3b067 : MethodName := ⟨RJ2, "getChar", "([BI)C"⟩
abbrev cJ2_length_9d52b : ByteArray := prog_18_method_6_code
def yJ2_length_9d52b : MethodName := ⟨RJ2, "length", "([B)I"⟩
abbrev cJ2_indexOf_4cfef : ByteArray := prog_18_method_40_code
def yJ2_indexOf_4cfef : MethodName := ⟨RJ2, "indexOf", "([BIII)I"⟩
abbrev cJ2_indexOfChar_4cfef : ByteArray := prog_18_method_47_code
def yJ2_indexOfChar_4cfef : MethodName := ⟨RJ2, "indexOfChar", "([BIII)I"⟩
abbrev cJ2_indexOfCharUnsafe_4cfef : ByteArray := prog_18_method_48_code
def yJ2_indexOfCharUnsafe_4cfef : MethodName := ⟨RJ2, "indexOfCharUnsafe", "([BIII)I"⟩
abbrev cJ2_indexOfSupplementary_4cfef : ByteArray := prog_18_method_49_code
def yJ2_indexOfSupplementary_4cfef : MethodName := ⟨RJ2, "indexOfSupplementary", "([BIII)I"⟩
abbrev cJ2_charAt_3b067 : ByteArray := prog_18_method_83_code
def yJ2_charAt_3b067 : MethodName := ⟨RJ2, "charAt", "([BI)C"⟩
abbrev cJ2_checkIndex_2214a : ByteArray := prog_18_method_91_code
def yJ2_checkIndex_2214a : MethodName := ⟨RJ2, "checkIndex", "(I[B)V"⟩
abbrev cJ2_checkBoundsBeginEnd_d044e : ByteArray := prog_18_method_93_code
def yJ2_checkBoundsBeginEnd_d044e : MethodName := ⟨RJ2, "checkBoundsBeginEnd", "(II[B)V"⟩
def RJ10 : String := "java/lang/System"
def TJ10 : u_T := fun k => match k with
  | _ => ("", "", "", false)
def tyJ10 : Nat → FieldType := fun k => match k with
  | _ => .int
abbrev wsJ100 : List Cond := u_ws RJ10 TJ10 0
theorem nmJ10 : ∀ a, a < 0 → ∀ b, b < 0 → a ≠ b → (TJ10 a).2.1 ≠ (TJ10 b).2.1 := by decide +kernel
theorem tyJ10_ok : ∀ k, k < 0 → parseFieldDescriptor (TJ10 k).2.2.1 = some (tyJ10 k) := by decide +kernel
def RJ3 : String := "jdk/internal/util/Preconditions"
def TJ3 : u_T := fun k => match k with
  | _ => ("", "", "", false)
def tyJ3 : Nat → FieldType := fun k => match k with
  | _ => .int
abbrev wsJ30 : List Cond := u_ws RJ3 TJ3 0
theorem nmJ3 : ∀ a, a < 0 → ∀ b, b < 0 → a ≠ b → (TJ3 a).2.1 ≠ (TJ3 b).2.1 := by decide +kernel
theorem tyJ3_ok : ∀ k, k < 0 → parseFieldDescriptor (TJ3 k).2.2.1 = some (tyJ3 k) := by decide +kernel
abbrev cJ3_checkIndex_8e157 : ByteArray := prog_21_method_11_code
def yJ3_checkIndex_8e157 : MethodName := ⟨RJ3, "checkIndex", "(IILjava/util/function/BiFunction;)I"⟩
abbrev cJ3_checkFromToIndex_8c36e : ByteArray := prog_21_method_12_code
def yJ3_checkFromToIndex_8c36e : MethodName := ⟨RJ3, "checkFromToIndex", "(IIILjava/util/function/BiFunction;)I"⟩
def RL : String := "ClockLotsLaw"
abbrev cL_tryAdd : ByteArray := method_2_code
def yL_tryAdd : MethodName := ⟨RL, "tryAdd", "(LClockLots;IIIII)I"⟩
abbrev cL_tryScript : ByteArray := method_3_code
def yL_tryScript : MethodName := ⟨RL, "tryScript", "(LClockLots;IJ)I"⟩
abbrev cL_trySimulate : ByteArray := method_4_code
def yL_trySimulate : MethodName := ⟨RL, "trySimulate", "(LClockLots;JI)I"⟩
abbrev cL_tryAppend : ByteArray := method_5_code
def yL_tryAppend : MethodName := ⟨RL, "tryAppend", "(LClockLots;I)I"⟩
abbrev cL_tryLoad : ByteArray := method_6_code
def yL_tryLoad : MethodName := ⟨RL, "tryLoad", "(LClockLots;)I"⟩
abbrev cL_tryAbout : ByteArray := method_7_code
def yL_tryAbout : MethodName := ⟨RL, "tryAbout", "(LClockLots;I)I"⟩
abbrev cL_tryKind : ByteArray := method_8_code
def yL_tryKind : MethodName := ⟨RL, "tryKind", "(LClockLots;II)I"⟩
abbrev cL_tryBidder : ByteArray := method_9_code
def yL_tryBidder : MethodName := ⟨RL, "tryBidder", "(LClockLots;II)I"⟩
abbrev cL_tryDemand : ByteArray := method_10_code
def yL_tryDemand : MethodName := ⟨RL, "tryDemand", "(LClockLots;II)I"⟩
abbrev cL_tryPack : ByteArray := method_11_code
def yL_tryPack : MethodName := ⟨RL, "tryPack", "(LClockLots;III)I"⟩
abbrev cL_trySetting : ByteArray := method_12_code
def yL_trySetting : MethodName := ⟨RL, "trySetting", "(LClockLots;I)I"⟩
abbrev cL_tryOffer : ByteArray := method_13_code
def yL_tryOffer : MethodName := ⟨RL, "tryOffer", "(LClockLots;III)I"⟩
abbrev cL_tryPrice : ByteArray := method_14_code
def yL_tryPrice : MethodName := ⟨RL, "tryPrice", "(LClockLots;II)I"⟩
abbrev cL_tryJoin : ByteArray := method_15_code
def yL_tryJoin : MethodName := ⟨RL, "tryJoin", "(LClockLots;II)I"⟩
abbrev cL_tryValue : ByteArray := method_16_code
def yL_tryValue : MethodName := ⟨RL, "tryValue", "(LClockLots;III)I"⟩
abbrev cL_tryAsk : ByteArray := method_17_code
def yL_tryAsk : MethodName := ⟨RL, "tryAsk", "(LClockLots;III)I"⟩
abbrev cL_tryBid : ByteArray := method_18_code
def yL_tryBid : MethodName := ⟨RL, "tryBid", "(LClockLots;I)I"⟩
abbrev cL_tryClose : ByteArray := method_19_code
def yL_tryClose : MethodName := ⟨RL, "tryClose", "(LClockLots;)I"⟩
abbrev cL_tryDrop : ByteArray := method_20_code
def yL_tryDrop : MethodName := ⟨RL, "tryDrop", "(LClockLots;II)I"⟩
abbrev cL_trySet : ByteArray := method_21_code
def yL_trySet : MethodName := ⟨RL, "trySet", "(LClockLots;II)I"⟩
abbrev cL_tryUndo : ByteArray := method_22_code
def yL_tryUndo : MethodName := ⟨RL, "tryUndo", "(LClockLots;)I"⟩
abbrev cL_tryGets : ByteArray := method_23_code
def yL_tryGets : MethodName := ⟨RL, "tryGets", "(LClockLots;I)I"⟩
abbrev cL_tryPays : ByteArray := method_24_code
def yL_tryPays : MethodName := ⟨RL, "tryPays", "(LClockLots;I)I"⟩
abbrev cL_tryOneMore : ByteArray := method_25_code
def yL_tryOneMore : MethodName := ⟨RL, "tryOneMore", "(LClockLots;I)I"⟩
abbrev cL_tryWouldAsk : ByteArray := method_26_code
def yL_tryWouldAsk : MethodName := ⟨RL, "tryWouldAsk", "(LClockLots;II)I"⟩
abbrev cL_tryEndPrice : ByteArray := method_27_code
def yL_tryEndPrice : MethodName := ⟨RL, "tryEndPrice", "(LClockLots;I)I"⟩
abbrev cL_tryKeep : ByteArray := method_28_code
def yL_tryKeep : MethodName := ⟨RL, "tryKeep", "(LClockLots;I)I"⟩
abbrev cL_tryBack : ByteArray := method_29_code
def yL_tryBack : MethodName := ⟨RL, "tryBack", "(LClockLots;I)I"⟩
abbrev cL_call : ByteArray := method_30_code
def yL_call : MethodName := ⟨RL, "call", "(LClockLots;IIII)I"⟩
abbrev cL_cell : ByteArray := method_31_code
def yL_cell : MethodName := ⟨RL, "cell", "([II)I"⟩
abbrev cL_refuses : ByteArray := method_32_code
def yL_refuses : MethodName := ⟨RL, "refuses", "(LClockLots;I)Z"⟩
abbrev cL_alike : ByteArray := method_33_code
def yL_alike : MethodName := ⟨RL, "alike", "(LClockLots;LClockLots;I)Z"⟩
abbrev cL_holds : ByteArray := method_34_code
def yL_holds : MethodName := ⟨RL, "holds", "(LClockLots;I)Z"⟩
abbrev cL_act : ByteArray := method_35_code
def yL_act : MethodName := ⟨RL, "act", "(LClockLots;II)I"⟩
abbrev cL_law : ByteArray := code
def yL_law : MethodName := ⟨RL, "law", "([I)Z"⟩
abbrev vwCl : List vw_C := [(RX0, TX0, 4), (RX1, TX1, 15), (RX2, TX2, 3), (RX4, TX4, 2), (RX5, TX5, 7)]
def wB : List Cond := lw_tbl.filter goodWord
theorem inB {w : Cond} (i : Nat) (h : lw_tbl[i]? = some w) (g : goodWord w = true) : w ∈ wB := List.mem_filter.mpr ⟨List.mem_of_getElem? h, g⟩
theorem inT {w : Cond} (i : Nat) (h : lw_tbl[i]? = some w) : w ∈ lw_tbl := List.mem_of_getElem? h
theorem mv_0 : Cond.selects "java/lang/Throwable" ⟨"java/lang/Throwable", "fillInStackTrace", "(I)Ljava/lang/Throwable;"⟩ ⟨"java/lang/Throwable", "fillInStackTrace", "(I)Ljava/lang/Throwable;"⟩ ∈ wB := inB 0 (by decide +kernel) (by decide +kernel)
theorem mv_1 : Cond.selects "ClockLots$Text" ⟨"ClockLots$Text", "doCommand", "(LClockLots$Auction;I)Z"⟩ ⟨"ClockLots$Text", "doCommand", "(LClockLots$Auction;I)Z"⟩ ∈ wB := inB 1 (by decide +kernel) (by decide +kernel)
theorem mv_2 : Cond.selects "ClockLots$Text" ⟨"ClockLots$Text", "number", "(II)I"⟩ ⟨"ClockLots$Text", "number", "(II)I"⟩ ∈ wB := inB 2 (by decide +kernel) (by decide +kernel)
theorem mv_3 : Cond.selects "ClockLots" ⟨"ClockLots", "needKind", "(I)V"⟩ ⟨"ClockLots", "needKind", "(I)V"⟩ ∈ wB := inB 3 (by decide +kernel) (by decide +kernel)
theorem mv_4 : Cond.selects "ClockLots" ⟨"ClockLots", "needBidder", "(I)V"⟩ ⟨"ClockLots", "needBidder", "(I)V"⟩ ∈ wB := inB 4 (by decide +kernel) (by decide +kernel)
theorem mv_5 : Cond.selects "ClockLots$Assignment" ⟨"ClockLots$Assignment", "tryFrom", "(LClockLots$Auction;III)V"⟩ ⟨"ClockLots$Assignment", "tryFrom", "(LClockLots$Auction;III)V"⟩ ∈ wB := inB 5 (by decide +kernel) (by decide +kernel)
theorem mv_6 : Cond.selects "ClockLots$Assignment" ⟨"ClockLots$Assignment", "keepIfBetter", "(I)V"⟩ ⟨"ClockLots$Assignment", "keepIfBetter", "(I)V"⟩ ∈ wB := inB 6 (by decide +kernel) (by decide +kernel)
theorem mv_7 : Cond.selects "ClockLots$Assignment" ⟨"ClockLots$Assignment", "tryWith", "(LClockLots$Auction;IIII)V"⟩ ⟨"ClockLots$Assignment", "tryWith", "(LClockLots$Auction;IIII)V"⟩ ∈ wB := inB 7 (by decide +kernel) (by decide +kernel)
theorem mv_8 : Cond.selects "ClockLots$Assignment" ⟨"ClockLots$Assignment", "fits", "(LClockLots$Auction;II)Z"⟩ ⟨"ClockLots$Assignment", "fits", "(LClockLots$Auction;II)Z"⟩ ∈ wB := inB 8 (by decide +kernel) (by decide +kernel)
theorem mv_9 : Cond.selects "ClockLots$Assignment" ⟨"ClockLots$Assignment", "take", "(LClockLots$Auction;III)V"⟩ ⟨"ClockLots$Assignment", "take", "(LClockLots$Auction;III)V"⟩ ∈ wB := inB 9 (by decide +kernel) (by decide +kernel)
theorem mv_10 : Cond.selects "ClockLots" ⟨"ClockLots", "runToTheEnd", "()I"⟩ ⟨"ClockLots", "runToTheEnd", "()I"⟩ ∈ wB := inB 10 (by decide +kernel) (by decide +kernel)
theorem mv_11 : Cond.selects "ClockLots" ⟨"ClockLots", "needSlot", "(I)V"⟩ ⟨"ClockLots", "needSlot", "(I)V"⟩ ∈ wB := inB 11 (by decide +kernel) (by decide +kernel)
theorem mw_0 : (Cond.initialized "ClockLotsLaw") ∈ wB := inB 12 (by decide +kernel) (by decide +kernel)
theorem mw_1 : (Cond.initialized "ClockLots") ∈ wB := inB 13 (by decide +kernel) (by decide +kernel)
theorem mw_2 : (Cond.initialized "ClockLots$Auction") ∈ wB := inB 14 (by decide +kernel) (by decide +kernel)
theorem mw_3 : (Cond.initialized "ClockLots$History") ∈ wB := inB 15 (by decide +kernel) (by decide +kernel)
theorem mw_4 : (Cond.initialized "ClockLots$Text") ∈ wB := inB 16 (by decide +kernel) (by decide +kernel)
theorem mw_5 : (Cond.initialized "ClockLots$Assignment") ∈ wB := inB 17 (by decide +kernel) (by decide +kernel)
theorem mw_6 : (Cond.initialized "java/lang/Throwable") ∈ wB := inB 18 (by decide +kernel) (by decide +kernel)
theorem mw_7 : (Cond.initialized "java/lang/Exception") ∈ wB := inB 19 (by decide +kernel) (by decide +kernel)
theorem mw_8 : (Cond.initialized "java/lang/RuntimeException") ∈ wB := inB 20 (by decide +kernel) (by decide +kernel)
theorem mw_9 : (Cond.initialized "java/lang/IllegalArgumentException") ∈ wB := inB 21 (by decide +kernel) (by decide +kernel)
theorem mw_10 : (Cond.initialized "java/lang/IllegalStateException") ∈ wB := inB 22 (by decide +kernel) (by decide +kernel)
theorem mw_11 : (Cond.initialized "java/lang/String") ∈ wB := inB 23 (by decide +kernel) (by decide +kernel)
theorem mw_12 : (Cond.initialized "java/lang/StringLatin1") ∈ wB := inB 24 (by decide +kernel) (by decide +kernel)
theorem mw_13 : (Cond.initialized "java/lang/Math") ∈ wB := inB 25 (by decide +kernel) (by decide +kernel)
theorem mw_14 : (Cond.initialized "java/lang/StringUTF16") ∈ wB := inB 26 (by decide +kernel) (by decide +kernel)
theorem mw_15 : (Cond.initialized "jdk/internal/util/Preconditions") ∈ wB := inB 27 (by decide +kernel) (by decide +kernel)
theorem mw_16 : (Cond.initialized "java/lang/Character") ∈ wB := inB 28 (by decide +kernel) (by decide +kernel)
theorem mw_17 : (Cond.initialized "java/lang/IndexOutOfBoundsException") ∈ wB := inB 29 (by decide +kernel) (by decide +kernel)
theorem mw_18 : (Cond.initialized "java/lang/System") ∈ wB := inB 30 (by decide +kernel) (by decide +kernel)
theorem mw_19 : (Cond.initialized "ClockLots$Script") ∈ wB := inB 31 (by decide +kernel) (by decide +kernel)
theorem mw_20 : (Cond.classLink "ClockLotsLaw" (8 : Nat) "ClockLots") ∈ wB := inB 32 (by decide +kernel) (by decide +kernel)
theorem mw_21 : (Cond.instantiable "ClockLots" (7 : Nat)) ∈ wB := inB 33 (by decide +kernel) (by decide +kernel)
theorem mw_22 : (Cond.methodLink "ClockLotsLaw" (229 : Nat) ({ cls := "ClockLots", name := "<init>", desc := "()V" } : MethodName)) ∈ wB := inB 34 (by decide +kernel) (by decide +kernel)
theorem mw_23 : (Cond.instanceMethod ({ cls := "ClockLots", name := "<init>", desc := "()V" } : MethodName)) ∈ wB := inB 35 (by decide +kernel) (by decide +kernel)
theorem mw_24 : (Cond.code ({ cls := "ClockLots", name := "<init>", desc := "()V" } : MethodName) prog_1_method_1_code (1 : Nat) (Option.none : Option FieldType)) ∈ wB := inB 36 (by decide +kernel) (by decide +kernel)
theorem mw_25 : (Cond.methodLink "ClockLots" (1 : Nat) ({ cls := "java/lang/Object", name := "<init>", desc := "()V" } : MethodName)) ∈ wB := inB 37 (by decide +kernel) (by decide +kernel)
theorem mw_26 : (Cond.instanceMethod ({ cls := "java/lang/Object", name := "<init>", desc := "()V" } : MethodName)) ∈ wB := inB 38 (by decide +kernel) (by decide +kernel)
theorem mw_27 : (Cond.code ({ cls := "java/lang/Object", name := "<init>", desc := "()V" } : MethodName) object_method_1_code (1 : Nat) (Option.none : Option FieldType)) ∈ wB := inB 39 (by decide +kernel) (by decide +kernel)
theorem mw_28 : (Cond.classLink "ClockLots" (7 : Nat) "ClockLots$Auction") ∈ wB := inB 40 (by decide +kernel) (by decide +kernel)
theorem mw_29 : (Cond.instantiable "ClockLots$Auction" (15 : Nat)) ∈ wB := inB 41 (by decide +kernel) (by decide +kernel)
theorem mw_30 : (Cond.methodLink "ClockLots" (9 : Nat) ({ cls := "ClockLots$Auction", name := "<init>", desc := "()V" } : MethodName)) ∈ wB := inB 42 (by decide +kernel) (by decide +kernel)
theorem mw_31 : (Cond.instanceMethod ({ cls := "ClockLots$Auction", name := "<init>", desc := "()V" } : MethodName)) ∈ wB := inB 43 (by decide +kernel) (by decide +kernel)
theorem mw_32 : (Cond.code ({ cls := "ClockLots$Auction", name := "<init>", desc := "()V" } : MethodName) prog_3_method_1_code (1 : Nat) (Option.none : Option FieldType)) ∈ wB := inB 44 (by decide +kernel) (by decide +kernel)
theorem mw_33 : (Cond.methodLink "ClockLots$Auction" (3 : Nat) ({ cls := "java/lang/Object", name := "<init>", desc := "()V" } : MethodName)) ∈ wB := inB 45 (by decide +kernel) (by decide +kernel)
theorem mw_34 : (Cond.methodLink "ClockLots$Auction" (42 : Nat) ({ cls := "ClockLots$Auction", name := "renew", desc := "()V" } : MethodName)) ∈ wB := inB 46 (by decide +kernel) (by decide +kernel)
theorem mw_35 : (Cond.instanceMethod ({ cls := "ClockLots$Auction", name := "renew", desc := "()V" } : MethodName)) ∈ wB := inB 47 (by decide +kernel) (by decide +kernel)
theorem mw_36 : (Cond.selects "ClockLots$Auction" ({ cls := "ClockLots$Auction", name := "renew", desc := "()V" } : MethodName) ({ cls := "ClockLots$Auction", name := "renew", desc := "()V" } : MethodName)) ∈ wB := inB 48 (by decide +kernel) (by decide +kernel)
theorem mw_37 : (Cond.code ({ cls := "ClockLots$Auction", name := "renew", desc := "()V" } : MethodName) prog_3_method_2_code (2 : Nat) (Option.none : Option FieldType)) ∈ wB := inB 49 (by decide +kernel) (by decide +kernel)
theorem mw_38 : (Cond.fieldLink "ClockLots$Auction" (9 : Nat) "ClockLots$Auction" "supply" "[I") ∈ wB := inB 50 (by decide +kernel) (by decide +kernel)
theorem mw_39 : (Cond.fieldLink "ClockLots$Assignment" (21 : Nat) "ClockLots$Auction" "supply" "[I") ∈ wB := inB 51 (by decide +kernel) (by decide +kernel)
theorem mw_40 : (Cond.fieldLink "ClockLots" (117 : Nat) "ClockLots$Auction" "supply" "[I") ∈ wB := inB 52 (by decide +kernel) (by decide +kernel)
theorem mw_41 : (Cond.fieldLink "ClockLots$Auction" (15 : Nat) "ClockLots$Auction" "points" "[I") ∈ wB := inB 53 (by decide +kernel) (by decide +kernel)
theorem mw_42 : (Cond.fieldLink "ClockLots" (121 : Nat) "ClockLots$Auction" "points" "[I") ∈ wB := inB 54 (by decide +kernel) (by decide +kernel)
theorem mw_43 : (Cond.fieldLink "ClockLots$Auction" (18 : Nat) "ClockLots$Auction" "price" "[I") ∈ wB := inB 55 (by decide +kernel) (by decide +kernel)
theorem mw_44 : (Cond.fieldLink "ClockLots$Script" (36 : Nat) "ClockLots$Auction" "price" "[I") ∈ wB := inB 56 (by decide +kernel) (by decide +kernel)
theorem mw_45 : (Cond.fieldLink "ClockLots" (124 : Nat) "ClockLots$Auction" "price" "[I") ∈ wB := inB 57 (by decide +kernel) (by decide +kernel)
theorem mw_46 : (Cond.fieldLink "ClockLots$Auction" (21 : Nat) "ClockLots$Auction" "right" "[I") ∈ wB := inB 58 (by decide +kernel) (by decide +kernel)
theorem mw_47 : (Cond.fieldLink "ClockLots$Script" (43 : Nat) "ClockLots$Auction" "right" "[I") ∈ wB := inB 59 (by decide +kernel) (by decide +kernel)
theorem mw_48 : (Cond.fieldLink "ClockLots" (136 : Nat) "ClockLots$Auction" "right" "[I") ∈ wB := inB 60 (by decide +kernel) (by decide +kernel)
theorem mw_49 : (Cond.fieldLink "ClockLots$Auction" (24 : Nat) "ClockLots$Auction" "cap" "[I") ∈ wB := inB 61 (by decide +kernel) (by decide +kernel)
theorem mw_50 : (Cond.fieldLink "ClockLots" (139 : Nat) "ClockLots$Auction" "cap" "[I") ∈ wB := inB 62 (by decide +kernel) (by decide +kernel)
theorem mw_51 : (Cond.fieldLink "ClockLots$Auction" (27 : Nat) "ClockLots$Auction" "packs" "[I") ∈ wB := inB 63 (by decide +kernel) (by decide +kernel)
theorem mw_52 : (Cond.fieldLink "ClockLots$Assignment" (41 : Nat) "ClockLots$Auction" "packs" "[I") ∈ wB := inB 64 (by decide +kernel) (by decide +kernel)
theorem mw_53 : (Cond.fieldLink "ClockLots" (145 : Nat) "ClockLots$Auction" "packs" "[I") ∈ wB := inB 65 (by decide +kernel) (by decide +kernel)
theorem mw_54 : (Cond.fieldLink "ClockLots$Auction" (30 : Nat) "ClockLots$Auction" "value" "[I") ∈ wB := inB 66 (by decide +kernel) (by decide +kernel)
theorem mw_55 : (Cond.fieldLink "ClockLots" (204 : Nat) "ClockLots$Auction" "value" "[I") ∈ wB := inB 67 (by decide +kernel) (by decide +kernel)
theorem mw_56 : (Cond.fieldLink "ClockLots$Auction" (33 : Nat) "ClockLots$Auction" "demand" "[I") ∈ wB := inB 68 (by decide +kernel) (by decide +kernel)
theorem mw_57 : (Cond.fieldLink "ClockLots" (153 : Nat) "ClockLots$Auction" "demand" "[I") ∈ wB := inB 69 (by decide +kernel) (by decide +kernel)
theorem mw_58 : (Cond.fieldLink "ClockLots$Auction" (36 : Nat) "ClockLots$Auction" "lots" "[I") ∈ wB := inB 70 (by decide +kernel) (by decide +kernel)
theorem mw_59 : (Cond.fieldLink "ClockLots$Auction" (39 : Nat) "ClockLots$Auction" "worth" "[I") ∈ wB := inB 71 (by decide +kernel) (by decide +kernel)
theorem mw_60 : (Cond.fieldLink "ClockLots$Auction" (45 : Nat) "ClockLots$Auction" "bidders" "I") ∈ wB := inB 72 (by decide +kernel) (by decide +kernel)
theorem mw_61 : (Cond.fieldLink "ClockLots$Script" (50 : Nat) "ClockLots$Auction" "bidders" "I") ∈ wB := inB 73 (by decide +kernel) (by decide +kernel)
theorem mw_62 : (Cond.fieldLink "ClockLots$Assignment" (34 : Nat) "ClockLots$Auction" "bidders" "I") ∈ wB := inB 74 (by decide +kernel) (by decide +kernel)
theorem mw_63 : (Cond.fieldLink "ClockLots" (91 : Nat) "ClockLots$Auction" "bidders" "I") ∈ wB := inB 75 (by decide +kernel) (by decide +kernel)
theorem mw_64 : (Cond.fieldLink "ClockLots$Auction" (49 : Nat) "ClockLots$Auction" "rounds" "I") ∈ wB := inB 76 (by decide +kernel) (by decide +kernel)
theorem mw_65 : (Cond.fieldLink "ClockLots" (95 : Nat) "ClockLots$Auction" "rounds" "I") ∈ wB := inB 77 (by decide +kernel) (by decide +kernel)
theorem mw_66 : (Cond.fieldLink "ClockLots$Auction" (52 : Nat) "ClockLots$Auction" "over" "Z") ∈ wB := inB 78 (by decide +kernel) (by decide +kernel)
theorem mw_67 : (Cond.fieldLink "ClockLots$Script" (46 : Nat) "ClockLots$Auction" "over" "Z") ∈ wB := inB 79 (by decide +kernel) (by decide +kernel)
theorem mw_68 : (Cond.fieldLink "ClockLots" (98 : Nat) "ClockLots$Auction" "over" "Z") ∈ wB := inB 80 (by decide +kernel) (by decide +kernel)
theorem mw_69 : (Cond.fieldLink "ClockLots$Auction" (56 : Nat) "ClockLots$Auction" "keepPercent" "I") ∈ wB := inB 81 (by decide +kernel) (by decide +kernel)
theorem mw_70 : (Cond.fieldLink "ClockLots$Auction" (59 : Nat) "ClockLots$Auction" "stepPercent" "I") ∈ wB := inB 82 (by decide +kernel) (by decide +kernel)
theorem mw_71 : (Cond.laysFinal "ClockLots$Auction" "ClockLots$Auction" "supply" "[I") ∈ wB := inB 83 (by decide +kernel) (by decide +kernel)
theorem mt_72 : (Cond.soleField "ClockLots$Auction" "supply") ∈ lw_tbl := inT 84 (by decide +kernel)
theorem mw_73 : (Cond.laysFinal "ClockLots$Auction" "ClockLots$Auction" "points" "[I") ∈ wB := inB 85 (by decide +kernel) (by decide +kernel)
theorem mt_74 : (Cond.soleField "ClockLots$Auction" "points") ∈ lw_tbl := inT 86 (by decide +kernel)
theorem mw_75 : (Cond.laysFinal "ClockLots$Auction" "ClockLots$Auction" "price" "[I") ∈ wB := inB 87 (by decide +kernel) (by decide +kernel)
theorem mt_76 : (Cond.soleField "ClockLots$Auction" "price") ∈ lw_tbl := inT 88 (by decide +kernel)
theorem mw_77 : (Cond.laysFinal "ClockLots$Auction" "ClockLots$Auction" "right" "[I") ∈ wB := inB 89 (by decide +kernel) (by decide +kernel)
theorem mt_78 : (Cond.soleField "ClockLots$Auction" "right") ∈ lw_tbl := inT 90 (by decide +kernel)
theorem mw_79 : (Cond.laysFinal "ClockLots$Auction" "ClockLots$Auction" "cap" "[I") ∈ wB := inB 91 (by decide +kernel) (by decide +kernel)
theorem mt_80 : (Cond.soleField "ClockLots$Auction" "cap") ∈ lw_tbl := inT 92 (by decide +kernel)
theorem mw_81 : (Cond.laysFinal "ClockLots$Auction" "ClockLots$Auction" "packs" "[I") ∈ wB := inB 93 (by decide +kernel) (by decide +kernel)
theorem mt_82 : (Cond.soleField "ClockLots$Auction" "packs") ∈ lw_tbl := inT 94 (by decide +kernel)
theorem mw_83 : (Cond.laysFinal "ClockLots$Auction" "ClockLots$Auction" "value" "[I") ∈ wB := inB 95 (by decide +kernel) (by decide +kernel)
theorem mt_84 : (Cond.soleField "ClockLots$Auction" "value") ∈ lw_tbl := inT 96 (by decide +kernel)
theorem mw_85 : (Cond.laysFinal "ClockLots$Auction" "ClockLots$Auction" "demand" "[I") ∈ wB := inB 97 (by decide +kernel) (by decide +kernel)
theorem mt_86 : (Cond.soleField "ClockLots$Auction" "demand") ∈ lw_tbl := inT 98 (by decide +kernel)
theorem mw_87 : (Cond.laysFinal "ClockLots$Auction" "ClockLots$Auction" "lots" "[I") ∈ wB := inB 99 (by decide +kernel) (by decide +kernel)
theorem mt_88 : (Cond.soleField "ClockLots$Auction" "lots") ∈ lw_tbl := inT 100 (by decide +kernel)
theorem mw_89 : (Cond.laysFinal "ClockLots$Auction" "ClockLots$Auction" "worth" "[I") ∈ wB := inB 101 (by decide +kernel) (by decide +kernel)
theorem mt_90 : (Cond.soleField "ClockLots$Auction" "worth") ∈ lw_tbl := inT 102 (by decide +kernel)
theorem mw_91 : (Cond.lays "ClockLots$Auction" "ClockLots$Auction" "bidders" "I") ∈ wB := inB 103 (by decide +kernel) (by decide +kernel)
theorem mt_92 : (Cond.soleField "ClockLots$Auction" "bidders") ∈ lw_tbl := inT 104 (by decide +kernel)
theorem mw_93 : (Cond.lays "ClockLots$Auction" "ClockLots$Auction" "rounds" "I") ∈ wB := inB 105 (by decide +kernel) (by decide +kernel)
theorem mt_94 : (Cond.soleField "ClockLots$Auction" "rounds") ∈ lw_tbl := inT 106 (by decide +kernel)
theorem mw_95 : (Cond.lays "ClockLots$Auction" "ClockLots$Auction" "over" "Z") ∈ wB := inB 107 (by decide +kernel) (by decide +kernel)
theorem mt_96 : (Cond.soleField "ClockLots$Auction" "over") ∈ lw_tbl := inT 108 (by decide +kernel)
theorem mw_97 : (Cond.lays "ClockLots$Auction" "ClockLots$Auction" "keepPercent" "I") ∈ wB := inB 109 (by decide +kernel) (by decide +kernel)
theorem mt_98 : (Cond.soleField "ClockLots$Auction" "keepPercent") ∈ lw_tbl := inT 110 (by decide +kernel)
theorem mw_99 : (Cond.lays "ClockLots$Auction" "ClockLots$Auction" "stepPercent" "I") ∈ wB := inB 111 (by decide +kernel) (by decide +kernel)
theorem mt_100 : (Cond.soleField "ClockLots$Auction" "stepPercent") ∈ lw_tbl := inT 112 (by decide +kernel)
theorem mt_101 : (Cond.superclass "ClockLots$Auction" "java/lang/Object") ∈ lw_tbl := inT 113 (by decide +kernel)
theorem mw_102 : (Cond.arrayClass FieldType.int) ∈ wB := inB 114 (by decide +kernel) (by decide +kernel)
theorem mw_103 : (Cond.classLink "ClockLots" (19 : Nat) "ClockLots$History") ∈ wB := inB 115 (by decide +kernel) (by decide +kernel)
theorem mw_104 : (Cond.instantiable "ClockLots$History" (3 : Nat)) ∈ wB := inB 116 (by decide +kernel) (by decide +kernel)
theorem mw_105 : (Cond.methodLink "ClockLots" (21 : Nat) ({ cls := "ClockLots$History", name := "<init>", desc := "()V" } : MethodName)) ∈ wB := inB 117 (by decide +kernel) (by decide +kernel)
theorem mw_106 : (Cond.instanceMethod ({ cls := "ClockLots$History", name := "<init>", desc := "()V" } : MethodName)) ∈ wB := inB 118 (by decide +kernel) (by decide +kernel)
theorem mw_107 : (Cond.code ({ cls := "ClockLots$History", name := "<init>", desc := "()V" } : MethodName) prog_4_method_1_code (2 : Nat) (Option.none : Option FieldType)) ∈ wB := inB 119 (by decide +kernel) (by decide +kernel)
theorem mw_108 : (Cond.methodLink "ClockLots$History" (3 : Nat) ({ cls := "java/lang/Object", name := "<init>", desc := "()V" } : MethodName)) ∈ wB := inB 120 (by decide +kernel) (by decide +kernel)
theorem mw_109 : (Cond.classLink "ClockLots$History" (9 : Nat) "ClockLots$Auction") ∈ wB := inB 121 (by decide +kernel) (by decide +kernel)
theorem mt_110 : (Cond.arrayOver (FieldType.object "ClockLots$Auction")) ∈ lw_tbl := inT 122 (by decide +kernel)
theorem mw_111 : (Cond.methodLink "ClockLots$History" (17 : Nat) ({ cls := "ClockLots$Auction", name := "<init>", desc := "()V" } : MethodName)) ∈ wB := inB 123 (by decide +kernel) (by decide +kernel)
theorem mw_112 : (Cond.fieldLink "ClockLots$History" (11 : Nat) "ClockLots$History" "states" "[LClockLots$Auction;") ∈ wB := inB 124 (by decide +kernel) (by decide +kernel)
theorem mw_113 : (Cond.fieldLink "ClockLots$History" (22 : Nat) "ClockLots$History" "next" "I") ∈ wB := inB 125 (by decide +kernel) (by decide +kernel)
theorem mw_114 : (Cond.fieldLink "ClockLots$History" (18 : Nat) "ClockLots$History" "count" "I") ∈ wB := inB 126 (by decide +kernel) (by decide +kernel)
theorem mw_115 : (Cond.laysFinal "ClockLots$History" "ClockLots$History" "states" "[LClockLots$Auction;") ∈ wB := inB 127 (by decide +kernel) (by decide +kernel)
theorem mt_116 : (Cond.soleField "ClockLots$History" "states") ∈ lw_tbl := inT 128 (by decide +kernel)
theorem mw_117 : (Cond.lays "ClockLots$History" "ClockLots$History" "next" "I") ∈ wB := inB 129 (by decide +kernel) (by decide +kernel)
theorem mt_118 : (Cond.soleField "ClockLots$History" "next") ∈ lw_tbl := inT 130 (by decide +kernel)
theorem mw_119 : (Cond.lays "ClockLots$History" "ClockLots$History" "count" "I") ∈ wB := inB 131 (by decide +kernel) (by decide +kernel)
theorem mt_120 : (Cond.soleField "ClockLots$History" "count") ∈ lw_tbl := inT 132 (by decide +kernel)
theorem mt_121 : (Cond.superclass "ClockLots$History" "java/lang/Object") ∈ lw_tbl := inT 133 (by decide +kernel)
theorem mw_122 : (Cond.classLink "ClockLots" (34 : Nat) "ClockLots$Text") ∈ wB := inB 134 (by decide +kernel) (by decide +kernel)
theorem mw_123 : (Cond.instantiable "ClockLots$Text" (2 : Nat)) ∈ wB := inB 135 (by decide +kernel) (by decide +kernel)
theorem mt_124 : (Cond.methodLinkNest "ClockLots" (36 : Nat) ({ cls := "ClockLots$Text", name := "<init>", desc := "()V" } : MethodName) "ClockLots") ∈ lw_tbl := inT 136 (by decide +kernel)
theorem mw_125 : (Cond.instanceMethod ({ cls := "ClockLots$Text", name := "<init>", desc := "()V" } : MethodName)) ∈ wB := inB 137 (by decide +kernel) (by decide +kernel)
theorem mw_126 : (Cond.code ({ cls := "ClockLots$Text", name := "<init>", desc := "()V" } : MethodName) prog_6_method_1_code (1 : Nat) (Option.none : Option FieldType)) ∈ wB := inB 138 (by decide +kernel) (by decide +kernel)
theorem mw_127 : (Cond.methodLink "ClockLots$Text" (3 : Nat) ({ cls := "java/lang/Object", name := "<init>", desc := "()V" } : MethodName)) ∈ wB := inB 139 (by decide +kernel) (by decide +kernel)
theorem mw_128 : (Cond.fieldLink "ClockLots$Text" (9 : Nat) "ClockLots$Text" "letters" "[C") ∈ wB := inB 140 (by decide +kernel) (by decide +kernel)
theorem mw_129 : (Cond.fieldLink "ClockLots$Text" (15 : Nat) "ClockLots$Text" "length" "I") ∈ wB := inB 141 (by decide +kernel) (by decide +kernel)
theorem mw_130 : (Cond.laysFinal "ClockLots$Text" "ClockLots$Text" "letters" "[C") ∈ wB := inB 142 (by decide +kernel) (by decide +kernel)
theorem mt_131 : (Cond.soleField "ClockLots$Text" "letters") ∈ lw_tbl := inT 143 (by decide +kernel)
theorem mw_132 : (Cond.lays "ClockLots$Text" "ClockLots$Text" "length" "I") ∈ wB := inB 144 (by decide +kernel) (by decide +kernel)
theorem mt_133 : (Cond.soleField "ClockLots$Text" "length") ∈ lw_tbl := inT 145 (by decide +kernel)
theorem mt_134 : (Cond.superclass "ClockLots$Text" "java/lang/Object") ∈ lw_tbl := inT 146 (by decide +kernel)
theorem mw_135 : (Cond.arrayClass FieldType.boolean) ∈ wB := inB 147 (by decide +kernel) (by decide +kernel)
theorem mw_136 : (Cond.arrayClass FieldType.char) ∈ wB := inB 148 (by decide +kernel) (by decide +kernel)
theorem mw_137 : (Cond.classLink "ClockLots" (41 : Nat) "ClockLots$Assignment") ∈ wB := inB 149 (by decide +kernel) (by decide +kernel)
theorem mw_138 : (Cond.instantiable "ClockLots$Assignment" (4 : Nat)) ∈ wB := inB 150 (by decide +kernel) (by decide +kernel)
theorem mt_139 : (Cond.methodLinkNest "ClockLots" (43 : Nat) ({ cls := "ClockLots$Assignment", name := "<init>", desc := "()V" } : MethodName) "ClockLots") ∈ lw_tbl := inT 151 (by decide +kernel)
theorem mw_140 : (Cond.instanceMethod ({ cls := "ClockLots$Assignment", name := "<init>", desc := "()V" } : MethodName)) ∈ wB := inB 152 (by decide +kernel) (by decide +kernel)
theorem mw_141 : (Cond.code ({ cls := "ClockLots$Assignment", name := "<init>", desc := "()V" } : MethodName) prog_2_method_1_code (1 : Nat) (Option.none : Option FieldType)) ∈ wB := inB 153 (by decide +kernel) (by decide +kernel)
theorem mw_142 : (Cond.methodLink "ClockLots$Assignment" (3 : Nat) ({ cls := "java/lang/Object", name := "<init>", desc := "()V" } : MethodName)) ∈ wB := inB 154 (by decide +kernel) (by decide +kernel)
theorem mw_143 : (Cond.fieldLink "ClockLots$Assignment" (9 : Nat) "ClockLots$Assignment" "left" "[I") ∈ wB := inB 155 (by decide +kernel) (by decide +kernel)
theorem mw_144 : (Cond.fieldLink "ClockLots$Assignment" (15 : Nat) "ClockLots$Assignment" "taken" "[I") ∈ wB := inB 156 (by decide +kernel) (by decide +kernel)
theorem mw_145 : (Cond.fieldLink "ClockLots$Assignment" (18 : Nat) "ClockLots$Assignment" "bestTaken" "[I") ∈ wB := inB 157 (by decide +kernel) (by decide +kernel)
theorem mw_146 : (Cond.fieldLink "ClockLots$Assignment" (26 : Nat) "ClockLots$Assignment" "bestWorth" "I") ∈ wB := inB 158 (by decide +kernel) (by decide +kernel)
theorem mw_147 : (Cond.laysFinal "ClockLots$Assignment" "ClockLots$Assignment" "left" "[I") ∈ wB := inB 159 (by decide +kernel) (by decide +kernel)
theorem mt_148 : (Cond.soleField "ClockLots$Assignment" "left") ∈ lw_tbl := inT 160 (by decide +kernel)
theorem mw_149 : (Cond.laysFinal "ClockLots$Assignment" "ClockLots$Assignment" "taken" "[I") ∈ wB := inB 161 (by decide +kernel) (by decide +kernel)
theorem mt_150 : (Cond.soleField "ClockLots$Assignment" "taken") ∈ lw_tbl := inT 162 (by decide +kernel)
theorem mw_151 : (Cond.laysFinal "ClockLots$Assignment" "ClockLots$Assignment" "bestTaken" "[I") ∈ wB := inB 163 (by decide +kernel) (by decide +kernel)
theorem mt_152 : (Cond.soleField "ClockLots$Assignment" "bestTaken") ∈ lw_tbl := inT 164 (by decide +kernel)
theorem mw_153 : (Cond.lays "ClockLots$Assignment" "ClockLots$Assignment" "bestWorth" "I") ∈ wB := inB 165 (by decide +kernel) (by decide +kernel)
theorem mt_154 : (Cond.soleField "ClockLots$Assignment" "bestWorth") ∈ lw_tbl := inT 166 (by decide +kernel)
theorem mt_155 : (Cond.superclass "ClockLots$Assignment" "java/lang/Object") ∈ lw_tbl := inT 167 (by decide +kernel)
theorem mw_156 : (Cond.fieldLink "ClockLots" (10 : Nat) "ClockLots" "now" "LClockLots$Auction;") ∈ wB := inB 168 (by decide +kernel) (by decide +kernel)
theorem mw_157 : (Cond.fieldLink "ClockLots" (16 : Nat) "ClockLots" "copy" "LClockLots$Auction;") ∈ wB := inB 169 (by decide +kernel) (by decide +kernel)
theorem mw_158 : (Cond.fieldLink "ClockLots" (22 : Nat) "ClockLots" "history" "LClockLots$History;") ∈ wB := inB 170 (by decide +kernel) (by decide +kernel)
theorem mw_159 : (Cond.fieldLink "ClockLots" (26 : Nat) "ClockLots" "slots" "[LClockLots$Auction;") ∈ wB := inB 171 (by decide +kernel) (by decide +kernel)
theorem mw_160 : (Cond.fieldLink "ClockLots" (30 : Nat) "ClockLots" "saved" "[Z") ∈ wB := inB 172 (by decide +kernel) (by decide +kernel)
theorem mw_161 : (Cond.fieldLink "ClockLots" (37 : Nat) "ClockLots" "text" "LClockLots$Text;") ∈ wB := inB 173 (by decide +kernel) (by decide +kernel)
theorem mw_162 : (Cond.fieldLink "ClockLots" (44 : Nat) "ClockLots" "assignment" "LClockLots$Assignment;") ∈ wB := inB 174 (by decide +kernel) (by decide +kernel)
theorem mw_163 : (Cond.laysFinal "ClockLots" "ClockLots" "now" "LClockLots$Auction;") ∈ wB := inB 175 (by decide +kernel) (by decide +kernel)
theorem mt_164 : (Cond.soleField "ClockLots" "now") ∈ lw_tbl := inT 176 (by decide +kernel)
theorem mw_165 : (Cond.laysFinal "ClockLots" "ClockLots" "copy" "LClockLots$Auction;") ∈ wB := inB 177 (by decide +kernel) (by decide +kernel)
theorem mt_166 : (Cond.soleField "ClockLots" "copy") ∈ lw_tbl := inT 178 (by decide +kernel)
theorem mw_167 : (Cond.laysFinal "ClockLots" "ClockLots" "history" "LClockLots$History;") ∈ wB := inB 179 (by decide +kernel) (by decide +kernel)
theorem mt_168 : (Cond.soleField "ClockLots" "history") ∈ lw_tbl := inT 180 (by decide +kernel)
theorem mw_169 : (Cond.laysFinal "ClockLots" "ClockLots" "slots" "[LClockLots$Auction;") ∈ wB := inB 181 (by decide +kernel) (by decide +kernel)
theorem mt_170 : (Cond.soleField "ClockLots" "slots") ∈ lw_tbl := inT 182 (by decide +kernel)
theorem mw_171 : (Cond.laysFinal "ClockLots" "ClockLots" "saved" "[Z") ∈ wB := inB 183 (by decide +kernel) (by decide +kernel)
theorem mt_172 : (Cond.soleField "ClockLots" "saved") ∈ lw_tbl := inT 184 (by decide +kernel)
theorem mw_173 : (Cond.laysFinal "ClockLots" "ClockLots" "text" "LClockLots$Text;") ∈ wB := inB 185 (by decide +kernel) (by decide +kernel)
theorem mt_174 : (Cond.soleField "ClockLots" "text") ∈ lw_tbl := inT 186 (by decide +kernel)
theorem mw_175 : (Cond.laysFinal "ClockLots" "ClockLots" "assignment" "LClockLots$Assignment;") ∈ wB := inB 187 (by decide +kernel) (by decide +kernel)
theorem mt_176 : (Cond.soleField "ClockLots" "assignment") ∈ lw_tbl := inT 188 (by decide +kernel)
theorem mt_177 : (Cond.superclass "ClockLots" "java/lang/Object") ∈ lw_tbl := inT 189 (by decide +kernel)
theorem mw_178 : (Cond.methodLink "ClockLotsLaw" (202 : Nat) ({ cls := "ClockLotsLaw", name := "tryScript", desc := "(LClockLots;IJ)I" } : MethodName)) ∈ wB := inB 190 (by decide +kernel) (by decide +kernel)
theorem mw_179 : (Cond.static ({ cls := "ClockLotsLaw", name := "tryScript", desc := "(LClockLots;IJ)I" } : MethodName)) ∈ wB := inB 191 (by decide +kernel) (by decide +kernel)
theorem mw_180 : (Cond.codeWith ({ cls := "ClockLotsLaw", name := "tryScript", desc := "(LClockLots;IJ)I" } : MethodName) method_3_code (5 : Nat) (Option.some FieldType.int) [((0 : Nat), (6 : Nat), (7 : Nat), (16 : Nat))]) ∈ wB := inB 192 (by decide +kernel) (by decide +kernel)
theorem mw_181 : (Cond.classLink "ClockLotsLaw" (16 : Nat) "java/lang/IllegalArgumentException") ∈ wB := inB 193 (by decide +kernel) (by decide +kernel)
theorem mw_182 : (Cond.methodLink "ClockLotsLaw" (22 : Nat) ({ cls := "ClockLots", name := "runScript", desc := "(IJ)I" } : MethodName)) ∈ wB := inB 194 (by decide +kernel) (by decide +kernel)
theorem mw_183 : (Cond.instanceMethod ({ cls := "ClockLots", name := "runScript", desc := "(IJ)I" } : MethodName)) ∈ wB := inB 195 (by decide +kernel) (by decide +kernel)
theorem mw_184 : (Cond.selects "ClockLots" ({ cls := "ClockLots", name := "runScript", desc := "(IJ)I" } : MethodName) ({ cls := "ClockLots", name := "runScript", desc := "(IJ)I" } : MethodName)) ∈ wB := inB 196 (by decide +kernel) (by decide +kernel)
theorem mw_185 : (Cond.code ({ cls := "ClockLots", name := "runScript", desc := "(IJ)I" } : MethodName) prog_1_method_31_code (7 : Nat) (Option.some FieldType.int)) ∈ wB := inB 197 (by decide +kernel) (by decide +kernel)
theorem mw_186 : (Cond.methodLink "ClockLots" (48 : Nat) ({ cls := "ClockLots", name := "outside", desc := "(III)Z" } : MethodName)) ∈ wB := inB 198 (by decide +kernel) (by decide +kernel)
theorem mw_187 : (Cond.static ({ cls := "ClockLots", name := "outside", desc := "(III)Z" } : MethodName)) ∈ wB := inB 199 (by decide +kernel) (by decide +kernel)
theorem mw_188 : (Cond.code ({ cls := "ClockLots", name := "outside", desc := "(III)Z" } : MethodName) prog_1_method_41_code (3 : Nat) (Option.some FieldType.boolean)) ∈ wB := inB 200 (by decide +kernel) (by decide +kernel)
theorem mw_189 : (Cond.classLink "ClockLots" (52 : Nat) "java/lang/IllegalArgumentException") ∈ wB := inB 201 (by decide +kernel) (by decide +kernel)
theorem mw_190 : (Cond.instantiable "java/lang/IllegalArgumentException" (6 : Nat)) ∈ wB := inB 202 (by decide +kernel) (by decide +kernel)
theorem mt_191 : (Cond.castable "java/lang/IllegalArgumentException" "java/lang/IllegalArgumentException") ∈ lw_tbl := inT 203 (by decide +kernel)
theorem mt_192 : (Cond.declares ({ cls := "java/lang/RuntimeException", name := "<init>", desc := "()V" } : MethodName)) ∈ lw_tbl := inT 204 (by decide +kernel)
theorem mt_193 : (Cond.declares ({ cls := "java/lang/RuntimeException", name := "<init>", desc := "(Ljava/lang/String;)V" } : MethodName)) ∈ lw_tbl := inT 205 (by decide +kernel)
theorem mt_194 : (Cond.declares ({ cls := "java/lang/Exception", name := "<init>", desc := "()V" } : MethodName)) ∈ lw_tbl := inT 206 (by decide +kernel)
theorem mt_195 : (Cond.declares ({ cls := "java/lang/Exception", name := "<init>", desc := "(Ljava/lang/String;)V" } : MethodName)) ∈ lw_tbl := inT 207 (by decide +kernel)
theorem mt_196 : (Cond.declares ({ cls := "java/lang/Throwable", name := "<init>", desc := "()V" } : MethodName)) ∈ lw_tbl := inT 208 (by decide +kernel)
theorem mt_197 : (Cond.declares ({ cls := "java/lang/Throwable", name := "<init>", desc := "(Ljava/lang/String;)V" } : MethodName)) ∈ lw_tbl := inT 209 (by decide +kernel)
theorem mw_198 : (Cond.selects "java/lang/IllegalArgumentException" ({ cls := "java/lang/Throwable", name := "fillInStackTrace", desc := "(I)Ljava/lang/Throwable;" } : MethodName) ({ cls := "java/lang/Throwable", name := "fillInStackTrace", desc := "(I)Ljava/lang/Throwable;" } : MethodName)) ∈ wB := inB 210 (by decide +kernel) (by decide +kernel)
theorem mw_199 : (Cond.selects "java/lang/IllegalArgumentException" ({ cls := "java/lang/Throwable", name := "fillInStackTrace", desc := "()Ljava/lang/Throwable;" } : MethodName) ({ cls := "java/lang/Throwable", name := "fillInStackTrace", desc := "()Ljava/lang/Throwable;" } : MethodName)) ∈ wB := inB 211 (by decide +kernel) (by decide +kernel)
theorem mw_200 : (Cond.lays "java/lang/IllegalArgumentException" "java/lang/Throwable" "cause" "Ljava/lang/Throwable;") ∈ wB := inB 212 (by decide +kernel) (by decide +kernel)
theorem mw_201 : (Cond.lays "java/lang/Throwable" "java/lang/Throwable" "cause" "Ljava/lang/Throwable;") ∈ wB := inB 213 (by decide +kernel) (by decide +kernel)
theorem mw_202 : (Cond.lays "java/lang/IllegalArgumentException" "java/lang/Throwable" "stackTrace" "[Ljava/lang/StackTraceElement;") ∈ wB := inB 214 (by decide +kernel) (by decide +kernel)
theorem mw_203 : (Cond.lays "java/lang/Throwable" "java/lang/Throwable" "stackTrace" "[Ljava/lang/StackTraceElement;") ∈ wB := inB 215 (by decide +kernel) (by decide +kernel)
theorem mw_204 : (Cond.lays "java/lang/IllegalArgumentException" "java/lang/Throwable" "suppressedExceptions" "Ljava/util/List;") ∈ wB := inB 216 (by decide +kernel) (by decide +kernel)
theorem mw_205 : (Cond.lays "java/lang/Throwable" "java/lang/Throwable" "suppressedExceptions" "Ljava/util/List;") ∈ wB := inB 217 (by decide +kernel) (by decide +kernel)
theorem mw_206 : (Cond.lays "java/lang/IllegalArgumentException" "java/lang/Throwable" "detailMessage" "Ljava/lang/String;") ∈ wB := inB 218 (by decide +kernel) (by decide +kernel)
theorem mw_207 : (Cond.lays "java/lang/Throwable" "java/lang/Throwable" "detailMessage" "Ljava/lang/String;") ∈ wB := inB 219 (by decide +kernel) (by decide +kernel)
theorem mw_208 : (Cond.lays "java/lang/IllegalArgumentException" "java/lang/Throwable" "backtrace" "Ljava/lang/Object;") ∈ wB := inB 220 (by decide +kernel) (by decide +kernel)
theorem mw_209 : (Cond.lays "java/lang/Throwable" "java/lang/Throwable" "backtrace" "Ljava/lang/Object;") ∈ wB := inB 221 (by decide +kernel) (by decide +kernel)
theorem mw_210 : (Cond.fieldLink "java/lang/Throwable" (198 : Nat) "java/lang/Throwable" "backtrace" "Ljava/lang/Object;") ∈ wB := inB 222 (by decide +kernel) (by decide +kernel)
theorem mt_211 : (Cond.superclass "java/lang/Throwable" "java/lang/Object") ∈ lw_tbl := inT 223 (by decide +kernel)
theorem mw_212 : (Cond.instanceMethod ({ cls := "java/lang/Throwable", name := "<init>", desc := "()V" } : MethodName)) ∈ wB := inB 224 (by decide +kernel) (by decide +kernel)
theorem mw_213 : (Cond.code ({ cls := "java/lang/Throwable", name := "<init>", desc := "()V" } : MethodName) prog_20_method_1_code (1 : Nat) (Option.none : Option FieldType)) ∈ wB := inB 225 (by decide +kernel) (by decide +kernel)
theorem mw_214 : (Cond.methodLink "java/lang/Throwable" (1 : Nat) ({ cls := "java/lang/Object", name := "<init>", desc := "()V" } : MethodName)) ∈ wB := inB 226 (by decide +kernel) (by decide +kernel)
theorem mw_215 : (Cond.fieldLink "java/lang/Throwable" (13 : Nat) "java/lang/Throwable" "UNASSIGNED_STACK" "[Ljava/lang/StackTraceElement;") ∈ wB := inB 227 (by decide +kernel) (by decide +kernel)
theorem mt_216 : (Cond.laysStatic "java/lang/Throwable" "UNASSIGNED_STACK" "[Ljava/lang/StackTraceElement;") ∈ lw_tbl := inT 228 (by decide +kernel)
theorem mw_217 : (Cond.fieldLink "java/lang/Throwable" (20 : Nat) "java/lang/Throwable" "SUPPRESSED_SENTINEL" "Ljava/util/List;") ∈ wB := inB 229 (by decide +kernel) (by decide +kernel)
theorem mt_218 : (Cond.laysStatic "java/lang/Throwable" "SUPPRESSED_SENTINEL" "Ljava/util/List;") ∈ lw_tbl := inT 230 (by decide +kernel)
theorem mw_219 : (Cond.methodLink "java/lang/Throwable" (27 : Nat) ({ cls := "java/lang/Throwable", name := "fillInStackTrace", desc := "()Ljava/lang/Throwable;" } : MethodName)) ∈ wB := inB 231 (by decide +kernel) (by decide +kernel)
theorem mw_220 : (Cond.instanceMethod ({ cls := "java/lang/Throwable", name := "fillInStackTrace", desc := "()Ljava/lang/Throwable;" } : MethodName)) ∈ wB := inB 232 (by decide +kernel) (by decide +kernel)
theorem mt_221 : (Cond.sameMethod "java/lang/Throwable" "java/lang/Throwable" "fillInStackTrace" "()Ljava/lang/Throwable;") ∈ lw_tbl := inT 233 (by decide +kernel)
theorem mw_222 : (Cond.selects "java/lang/IllegalStateException" ({ cls := "java/lang/Throwable", name := "fillInStackTrace", desc := "()Ljava/lang/Throwable;" } : MethodName) ({ cls := "java/lang/Throwable", name := "fillInStackTrace", desc := "()Ljava/lang/Throwable;" } : MethodName)) ∈ wB := inB 234 (by decide +kernel) (by decide +kernel)
theorem mw_223 : (Cond.selects "java/lang/IndexOutOfBoundsException" ({ cls := "java/lang/Throwable", name := "fillInStackTrace", desc := "()Ljava/lang/Throwable;" } : MethodName) ({ cls := "java/lang/Throwable", name := "fillInStackTrace", desc := "()Ljava/lang/Throwable;" } : MethodName)) ∈ wB := inB 235 (by decide +kernel) (by decide +kernel)
theorem mt_224 : (Cond.codeSync ({ cls := "java/lang/Throwable", name := "fillInStackTrace", desc := "()Ljava/lang/Throwable;" } : MethodName) prog_20_method_18_code (1 : Nat) (Option.some (FieldType.object "java/lang/Throwable"))) ∈ lw_tbl := inT 236 (by decide +kernel)
theorem mw_225 : (Cond.methodLink "java/lang/Throwable" (202 : Nat) ({ cls := "java/lang/Throwable", name := "fillInStackTrace", desc := "(I)Ljava/lang/Throwable;" } : MethodName)) ∈ wB := inB 237 (by decide +kernel) (by decide +kernel)
theorem mt_226 : (Cond.privateMethod ({ cls := "java/lang/Throwable", name := "fillInStackTrace", desc := "(I)Ljava/lang/Throwable;" } : MethodName)) ∈ lw_tbl := inT 238 (by decide +kernel)
theorem mw_227 : (Cond.instanceMethod ({ cls := "java/lang/Throwable", name := "fillInStackTrace", desc := "(I)Ljava/lang/Throwable;" } : MethodName)) ∈ wB := inB 239 (by decide +kernel) (by decide +kernel)
theorem mw_228 : (Cond.instantiable "java/lang/Throwable" (6 : Nat)) ∈ wB := inB 240 (by decide +kernel) (by decide +kernel)
theorem mw_229 : (Cond.native ({ cls := "java/lang/Throwable", name := "fillInStackTrace", desc := "(I)Ljava/lang/Throwable;" } : MethodName)) ∈ wB := inB 241 (by decide +kernel) (by decide +kernel)
theorem mt_230 : (Cond.stringRef "ClockLots" (266 : Nat) "n is not 1 to 3") ∈ lw_tbl := inT 242 (by decide +kernel)
theorem mw_231 : (Cond.methodLink "ClockLots" (56 : Nat) ({ cls := "java/lang/IllegalArgumentException", name := "<init>", desc := "(Ljava/lang/String;)V" } : MethodName)) ∈ wB := inB 243 (by decide +kernel) (by decide +kernel)
theorem mw_232 : (Cond.instanceMethod ({ cls := "java/lang/IllegalArgumentException", name := "<init>", desc := "(Ljava/lang/String;)V" } : MethodName)) ∈ wB := inB 244 (by decide +kernel) (by decide +kernel)
theorem mw_233 : (Cond.code ({ cls := "java/lang/IllegalArgumentException", name := "<init>", desc := "(Ljava/lang/String;)V" } : MethodName) prog_11_method_2_code (2 : Nat) (Option.none : Option FieldType)) ∈ wB := inB 245 (by decide +kernel) (by decide +kernel)
theorem mw_234 : (Cond.methodLink "java/lang/IllegalArgumentException" (7 : Nat) ({ cls := "java/lang/RuntimeException", name := "<init>", desc := "(Ljava/lang/String;)V" } : MethodName)) ∈ wB := inB 246 (by decide +kernel) (by decide +kernel)
theorem mw_235 : (Cond.instanceMethod ({ cls := "java/lang/RuntimeException", name := "<init>", desc := "(Ljava/lang/String;)V" } : MethodName)) ∈ wB := inB 247 (by decide +kernel) (by decide +kernel)
theorem mw_236 : (Cond.code ({ cls := "java/lang/RuntimeException", name := "<init>", desc := "(Ljava/lang/String;)V" } : MethodName) prog_15_method_2_code (2 : Nat) (Option.none : Option FieldType)) ∈ wB := inB 248 (by decide +kernel) (by decide +kernel)
theorem mw_237 : (Cond.methodLink "java/lang/RuntimeException" (7 : Nat) ({ cls := "java/lang/Exception", name := "<init>", desc := "(Ljava/lang/String;)V" } : MethodName)) ∈ wB := inB 249 (by decide +kernel) (by decide +kernel)
theorem mw_238 : (Cond.instanceMethod ({ cls := "java/lang/Exception", name := "<init>", desc := "(Ljava/lang/String;)V" } : MethodName)) ∈ wB := inB 250 (by decide +kernel) (by decide +kernel)
theorem mw_239 : (Cond.code ({ cls := "java/lang/Exception", name := "<init>", desc := "(Ljava/lang/String;)V" } : MethodName) prog_10_method_2_code (2 : Nat) (Option.none : Option FieldType)) ∈ wB := inB 251 (by decide +kernel) (by decide +kernel)
theorem mw_240 : (Cond.methodLink "java/lang/Exception" (7 : Nat) ({ cls := "java/lang/Throwable", name := "<init>", desc := "(Ljava/lang/String;)V" } : MethodName)) ∈ wB := inB 252 (by decide +kernel) (by decide +kernel)
theorem mw_241 : (Cond.instanceMethod ({ cls := "java/lang/Throwable", name := "<init>", desc := "(Ljava/lang/String;)V" } : MethodName)) ∈ wB := inB 253 (by decide +kernel) (by decide +kernel)
theorem mw_242 : (Cond.code ({ cls := "java/lang/Throwable", name := "<init>", desc := "(Ljava/lang/String;)V" } : MethodName) prog_20_method_2_code (2 : Nat) (Option.none : Option FieldType)) ∈ wB := inB 254 (by decide +kernel) (by decide +kernel)
theorem mw_243 : (Cond.fieldLink "java/lang/Throwable" (198 : Nat) "java/lang/Throwable" "backtrace" "Ljava/lang/Object;") ∈ wB := inB 255 (by decide +kernel) (by decide +kernel)
theorem mw_244 : (Cond.fieldLink "java/lang/Throwable" (31 : Nat) "java/lang/Throwable" "detailMessage" "Ljava/lang/String;") ∈ wB := inB 256 (by decide +kernel) (by decide +kernel)
theorem mw_245 : (Cond.fieldLink "java/lang/Throwable" (7 : Nat) "java/lang/Throwable" "cause" "Ljava/lang/Throwable;") ∈ wB := inB 257 (by decide +kernel) (by decide +kernel)
theorem mw_246 : (Cond.fieldLink "java/lang/Throwable" (17 : Nat) "java/lang/Throwable" "stackTrace" "[Ljava/lang/StackTraceElement;") ∈ wB := inB 258 (by decide +kernel) (by decide +kernel)
theorem mw_247 : (Cond.fieldLink "java/lang/Throwable" (24 : Nat) "java/lang/Throwable" "suppressedExceptions" "Ljava/util/List;") ∈ wB := inB 259 (by decide +kernel) (by decide +kernel)
theorem mt_248 : (Cond.soleField "java/lang/Throwable" "backtrace") ∈ lw_tbl := inT 260 (by decide +kernel)
theorem mt_249 : (Cond.soleField "java/lang/Throwable" "detailMessage") ∈ lw_tbl := inT 261 (by decide +kernel)
theorem mt_250 : (Cond.soleField "java/lang/Throwable" "cause") ∈ lw_tbl := inT 262 (by decide +kernel)
theorem mt_251 : (Cond.soleField "java/lang/Throwable" "stackTrace") ∈ lw_tbl := inT 263 (by decide +kernel)
theorem mw_252 : (Cond.lays "java/lang/IllegalArgumentException" "java/lang/Throwable" "depth" "I") ∈ wB := inB 264 (by decide +kernel) (by decide +kernel)
theorem mt_253 : (Cond.soleField "java/lang/Throwable" "depth") ∈ lw_tbl := inT 265 (by decide +kernel)
theorem mt_254 : (Cond.soleField "java/lang/Throwable" "suppressedExceptions") ∈ lw_tbl := inT 266 (by decide +kernel)
theorem mt_255 : (Cond.superclass "java/lang/IllegalArgumentException" "java/lang/RuntimeException") ∈ lw_tbl := inT 267 (by decide +kernel)
theorem mw_256 : (Cond.arrayClass FieldType.byte) ∈ wB := inB 268 (by decide +kernel) (by decide +kernel)
theorem mw_257 : (Cond.constantLong "ClockLots" (268 : Nat) (100000 : Int64)) ∈ wB := inB 269 (by decide +kernel) (by decide +kernel)
theorem mt_258 : (Cond.stringRef "ClockLots" (270 : Nat) "the script does not have 0 to 5 * n digits") ∈ lw_tbl := inT 270 (by decide +kernel)
theorem mw_259 : (Cond.methodLink "ClockLots" (260 : Nat) ({ cls := "ClockLots$Auction", name := "become", desc := "(LClockLots$Auction;)V" } : MethodName)) ∈ wB := inB 271 (by decide +kernel) (by decide +kernel)
theorem mw_260 : (Cond.instanceMethod ({ cls := "ClockLots$Auction", name := "become", desc := "(LClockLots$Auction;)V" } : MethodName)) ∈ wB := inB 272 (by decide +kernel) (by decide +kernel)
theorem mw_261 : (Cond.selects "ClockLots$Auction" ({ cls := "ClockLots$Auction", name := "become", desc := "(LClockLots$Auction;)V" } : MethodName) ({ cls := "ClockLots$Auction", name := "become", desc := "(LClockLots$Auction;)V" } : MethodName)) ∈ wB := inB 273 (by decide +kernel) (by decide +kernel)
theorem mw_262 : (Cond.code ({ cls := "ClockLots$Auction", name := "become", desc := "(LClockLots$Auction;)V" } : MethodName) prog_3_method_3_code (2 : Nat) (Option.none : Option FieldType)) ∈ wB := inB 274 (by decide +kernel) (by decide +kernel)
theorem mw_263 : (Cond.methodLink "ClockLots$Auction" (62 : Nat) ({ cls := "java/lang/System", name := "arraycopy", desc := "(Ljava/lang/Object;ILjava/lang/Object;II)V" } : MethodName)) ∈ wB := inB 275 (by decide +kernel) (by decide +kernel)
theorem mw_264 : (Cond.static ({ cls := "java/lang/System", name := "arraycopy", desc := "(Ljava/lang/Object;ILjava/lang/Object;II)V" } : MethodName)) ∈ wB := inB 276 (by decide +kernel) (by decide +kernel)
theorem mw_265 : (Cond.native ({ cls := "java/lang/System", name := "arraycopy", desc := "(Ljava/lang/Object;ILjava/lang/Object;II)V" } : MethodName)) ∈ wB := inB 277 (by decide +kernel) (by decide +kernel)
theorem mw_266 : (Cond.methodLink "ClockLots" (272 : Nat) ({ cls := "ClockLots$Script", name := "succeeds", desc := "(LClockLots$Auction;I)Z" } : MethodName)) ∈ wB := inB 278 (by decide +kernel) (by decide +kernel)
theorem mw_267 : (Cond.static ({ cls := "ClockLots$Script", name := "succeeds", desc := "(LClockLots$Auction;I)Z" } : MethodName)) ∈ wB := inB 279 (by decide +kernel) (by decide +kernel)
theorem mw_268 : (Cond.code ({ cls := "ClockLots$Script", name := "succeeds", desc := "(LClockLots$Auction;I)Z" } : MethodName) prog_5_method_2_code (5 : Nat) (Option.some FieldType.boolean)) ∈ wB := inB 280 (by decide +kernel) (by decide +kernel)
theorem mw_269 : (Cond.methodLink "ClockLots$Script" (9 : Nat) ({ cls := "ClockLots$Auction", name := "tryAsk", desc := "(III)Z" } : MethodName)) ∈ wB := inB 281 (by decide +kernel) (by decide +kernel)
theorem mw_270 : (Cond.instanceMethod ({ cls := "ClockLots$Auction", name := "tryAsk", desc := "(III)Z" } : MethodName)) ∈ wB := inB 282 (by decide +kernel) (by decide +kernel)
theorem mw_271 : (Cond.selects "ClockLots$Auction" ({ cls := "ClockLots$Auction", name := "tryAsk", desc := "(III)Z" } : MethodName) ({ cls := "ClockLots$Auction", name := "tryAsk", desc := "(III)Z" } : MethodName)) ∈ wB := inB 283 (by decide +kernel) (by decide +kernel)
theorem mw_272 : (Cond.code ({ cls := "ClockLots$Auction", name := "tryAsk", desc := "(III)Z" } : MethodName) prog_3_method_43_code (4 : Nat) (Option.some FieldType.boolean)) ∈ wB := inB 284 (by decide +kernel) (by decide +kernel)
theorem mw_273 : (Cond.methodLink "ClockLots$Auction" (148 : Nat) ({ cls := "ClockLots$Auction", name := "whyNotAsk", desc := "(III)I" } : MethodName)) ∈ wB := inB 285 (by decide +kernel) (by decide +kernel)
theorem mw_274 : (Cond.instanceMethod ({ cls := "ClockLots$Auction", name := "whyNotAsk", desc := "(III)I" } : MethodName)) ∈ wB := inB 286 (by decide +kernel) (by decide +kernel)
theorem mw_275 : (Cond.selects "ClockLots$Auction" ({ cls := "ClockLots$Auction", name := "whyNotAsk", desc := "(III)I" } : MethodName) ({ cls := "ClockLots$Auction", name := "whyNotAsk", desc := "(III)I" } : MethodName)) ∈ wB := inB 287 (by decide +kernel) (by decide +kernel)
theorem mw_276 : (Cond.code ({ cls := "ClockLots$Auction", name := "whyNotAsk", desc := "(III)I" } : MethodName) prog_3_method_23_code (5 : Nat) (Option.some FieldType.int)) ∈ wB := inB 288 (by decide +kernel) (by decide +kernel)
theorem mw_277 : (Cond.methodLink "ClockLots$Auction" (100 : Nat) ({ cls := "ClockLots$Auction", name := "noBidder", desc := "(I)Z" } : MethodName)) ∈ wB := inB 289 (by decide +kernel) (by decide +kernel)
theorem mw_278 : (Cond.instanceMethod ({ cls := "ClockLots$Auction", name := "noBidder", desc := "(I)Z" } : MethodName)) ∈ wB := inB 290 (by decide +kernel) (by decide +kernel)
theorem mw_279 : (Cond.selects "ClockLots$Auction" ({ cls := "ClockLots$Auction", name := "noBidder", desc := "(I)Z" } : MethodName) ({ cls := "ClockLots$Auction", name := "noBidder", desc := "(I)Z" } : MethodName)) ∈ wB := inB 291 (by decide +kernel) (by decide +kernel)
theorem mw_280 : (Cond.code ({ cls := "ClockLots$Auction", name := "noBidder", desc := "(I)Z" } : MethodName) prog_3_method_4_code (2 : Nat) (Option.some FieldType.boolean)) ∈ wB := inB 292 (by decide +kernel) (by decide +kernel)
theorem mt_281 : (Cond.methodLinkNest "ClockLots$Auction" (68 : Nat) ({ cls := "ClockLots", name := "outside", desc := "(III)Z" } : MethodName) "ClockLots") ∈ lw_tbl := inT 293 (by decide +kernel)
theorem mt_282 : (Cond.methodLinkNest "ClockLots$Auction" (95 : Nat) ({ cls := "ClockLots", name := "noKind", desc := "(I)Z" } : MethodName) "ClockLots") ∈ lw_tbl := inT 294 (by decide +kernel)
theorem mw_283 : (Cond.static ({ cls := "ClockLots", name := "noKind", desc := "(I)Z" } : MethodName)) ∈ wB := inB 295 (by decide +kernel) (by decide +kernel)
theorem mw_284 : (Cond.code ({ cls := "ClockLots", name := "noKind", desc := "(I)Z" } : MethodName) prog_1_method_40_code (1 : Nat) (Option.some FieldType.boolean)) ∈ wB := inB 296 (by decide +kernel) (by decide +kernel)
theorem mw_285 : (Cond.methodLink "ClockLots$Auction" (103 : Nat) ({ cls := "ClockLots$Auction", name := "mostLots", desc := "(II)I" } : MethodName)) ∈ wB := inB 297 (by decide +kernel) (by decide +kernel)
theorem mw_286 : (Cond.instanceMethod ({ cls := "ClockLots$Auction", name := "mostLots", desc := "(II)I" } : MethodName)) ∈ wB := inB 298 (by decide +kernel) (by decide +kernel)
theorem mw_287 : (Cond.selects "ClockLots$Auction" ({ cls := "ClockLots$Auction", name := "mostLots", desc := "(II)I" } : MethodName) ({ cls := "ClockLots$Auction", name := "mostLots", desc := "(II)I" } : MethodName)) ∈ wB := inB 299 (by decide +kernel) (by decide +kernel)
theorem mw_288 : (Cond.code ({ cls := "ClockLots$Auction", name := "mostLots", desc := "(II)I" } : MethodName) prog_3_method_14_code (3 : Nat) (Option.some FieldType.int)) ∈ wB := inB 300 (by decide +kernel) (by decide +kernel)
theorem mw_289 : (Cond.methodLink "ClockLots$Auction" (83 : Nat) ({ cls := "java/lang/Math", name := "min", desc := "(II)I" } : MethodName)) ∈ wB := inB 301 (by decide +kernel) (by decide +kernel)
theorem mw_290 : (Cond.static ({ cls := "java/lang/Math", name := "min", desc := "(II)I" } : MethodName)) ∈ wB := inB 302 (by decide +kernel) (by decide +kernel)
theorem mw_291 : (Cond.code ({ cls := "java/lang/Math", name := "min", desc := "(II)I" } : MethodName) prog_14_method_69_code (2 : Nat) (Option.some FieldType.int)) ∈ wB := inB 303 (by decide +kernel) (by decide +kernel)
theorem mt_292 : (Cond.methodLinkNest "ClockLots$Auction" (72 : Nat) ({ cls := "ClockLots", name := "cell", desc := "(II)I" } : MethodName) "ClockLots") ∈ lw_tbl := inT 304 (by decide +kernel)
theorem mw_293 : (Cond.static ({ cls := "ClockLots", name := "cell", desc := "(II)I" } : MethodName)) ∈ wB := inB 305 (by decide +kernel) (by decide +kernel)
theorem mw_294 : (Cond.code ({ cls := "ClockLots", name := "cell", desc := "(II)I" } : MethodName) prog_1_method_43_code (2 : Nat) (Option.some FieldType.int)) ∈ wB := inB 306 (by decide +kernel) (by decide +kernel)
theorem mw_295 : (Cond.methodLink "ClockLots$Auction" (106 : Nat) ({ cls := "ClockLots$Auction", name := "activity", desc := "(I)I" } : MethodName)) ∈ wB := inB 307 (by decide +kernel) (by decide +kernel)
theorem mw_296 : (Cond.instanceMethod ({ cls := "ClockLots$Auction", name := "activity", desc := "(I)I" } : MethodName)) ∈ wB := inB 308 (by decide +kernel) (by decide +kernel)
theorem mw_297 : (Cond.selects "ClockLots$Auction" ({ cls := "ClockLots$Auction", name := "activity", desc := "(I)I" } : MethodName) ({ cls := "ClockLots$Auction", name := "activity", desc := "(I)I" } : MethodName)) ∈ wB := inB 309 (by decide +kernel) (by decide +kernel)
theorem mw_298 : (Cond.code ({ cls := "ClockLots$Auction", name := "activity", desc := "(I)I" } : MethodName) prog_3_method_11_code (4 : Nat) (Option.some FieldType.int)) ∈ wB := inB 310 (by decide +kernel) (by decide +kernel)
theorem mw_299 : (Cond.methodLink "ClockLots$Script" (15 : Nat) ({ cls := "ClockLots$Auction", name := "tryBid", desc := "(I)Z" } : MethodName)) ∈ wB := inB 311 (by decide +kernel) (by decide +kernel)
theorem mw_300 : (Cond.instanceMethod ({ cls := "ClockLots$Auction", name := "tryBid", desc := "(I)Z" } : MethodName)) ∈ wB := inB 312 (by decide +kernel) (by decide +kernel)
theorem mw_301 : (Cond.selects "ClockLots$Auction" ({ cls := "ClockLots$Auction", name := "tryBid", desc := "(I)Z" } : MethodName) ({ cls := "ClockLots$Auction", name := "tryBid", desc := "(I)Z" } : MethodName)) ∈ wB := inB 313 (by decide +kernel) (by decide +kernel)
theorem mw_302 : (Cond.code ({ cls := "ClockLots$Auction", name := "tryBid", desc := "(I)Z" } : MethodName) prog_3_method_44_code (2 : Nat) (Option.some FieldType.boolean)) ∈ wB := inB 314 (by decide +kernel) (by decide +kernel)
theorem mw_303 : (Cond.methodLink "ClockLots$Auction" (151 : Nat) ({ cls := "ClockLots$Auction", name := "whyNotBid", desc := "(I)I" } : MethodName)) ∈ wB := inB 315 (by decide +kernel) (by decide +kernel)
theorem mw_304 : (Cond.instanceMethod ({ cls := "ClockLots$Auction", name := "whyNotBid", desc := "(I)I" } : MethodName)) ∈ wB := inB 316 (by decide +kernel) (by decide +kernel)
theorem mw_305 : (Cond.selects "ClockLots$Auction" ({ cls := "ClockLots$Auction", name := "whyNotBid", desc := "(I)I" } : MethodName) ({ cls := "ClockLots$Auction", name := "whyNotBid", desc := "(I)I" } : MethodName)) ∈ wB := inB 317 (by decide +kernel) (by decide +kernel)
theorem mw_306 : (Cond.code ({ cls := "ClockLots$Auction", name := "whyNotBid", desc := "(I)I" } : MethodName) prog_3_method_24_code (2 : Nat) (Option.some FieldType.int)) ∈ wB := inB 318 (by decide +kernel) (by decide +kernel)
theorem mw_307 : (Cond.methodLink "ClockLots$Auction" (154 : Nat) ({ cls := "ClockLots$Auction", name := "bidByValues", desc := "(I)V" } : MethodName)) ∈ wB := inB 319 (by decide +kernel) (by decide +kernel)
theorem mw_308 : (Cond.instanceMethod ({ cls := "ClockLots$Auction", name := "bidByValues", desc := "(I)V" } : MethodName)) ∈ wB := inB 320 (by decide +kernel) (by decide +kernel)
theorem mw_309 : (Cond.selects "ClockLots$Auction" ({ cls := "ClockLots$Auction", name := "bidByValues", desc := "(I)V" } : MethodName) ({ cls := "ClockLots$Auction", name := "bidByValues", desc := "(I)V" } : MethodName)) ∈ wB := inB 321 (by decide +kernel) (by decide +kernel)
theorem mw_310 : (Cond.code ({ cls := "ClockLots$Auction", name := "bidByValues", desc := "(I)V" } : MethodName) prog_3_method_33_code (11 : Nat) (Option.none : Option FieldType)) ∈ wB := inB 322 (by decide +kernel) (by decide +kernel)
theorem mw_311 : (Cond.methodLink "ClockLots$Auction" (118 : Nat) ({ cls := "ClockLots$Auction", name := "mostWanted", desc := "(II)I" } : MethodName)) ∈ wB := inB 323 (by decide +kernel) (by decide +kernel)
theorem mw_312 : (Cond.instanceMethod ({ cls := "ClockLots$Auction", name := "mostWanted", desc := "(II)I" } : MethodName)) ∈ wB := inB 324 (by decide +kernel) (by decide +kernel)
theorem mw_313 : (Cond.selects "ClockLots$Auction" ({ cls := "ClockLots$Auction", name := "mostWanted", desc := "(II)I" } : MethodName) ({ cls := "ClockLots$Auction", name := "mostWanted", desc := "(II)I" } : MethodName)) ∈ wB := inB 325 (by decide +kernel) (by decide +kernel)
theorem mw_314 : (Cond.code ({ cls := "ClockLots$Auction", name := "mostWanted", desc := "(II)I" } : MethodName) prog_3_method_34_code (3 : Nat) (Option.some FieldType.int)) ∈ wB := inB 326 (by decide +kernel) (by decide +kernel)
theorem mt_315 : (Cond.methodLinkNest "ClockLots$Auction" (121 : Nat) ({ cls := "ClockLots", name := "quotient", desc := "(II)I" } : MethodName) "ClockLots") ∈ lw_tbl := inT 327 (by decide +kernel)
theorem mw_316 : (Cond.static ({ cls := "ClockLots", name := "quotient", desc := "(II)I" } : MethodName)) ∈ wB := inB 328 (by decide +kernel) (by decide +kernel)
theorem mw_317 : (Cond.code ({ cls := "ClockLots", name := "quotient", desc := "(II)I" } : MethodName) prog_1_method_42_code (2 : Nat) (Option.some FieldType.int)) ∈ wB := inB 329 (by decide +kernel) (by decide +kernel)
theorem mw_318 : (Cond.methodLink "ClockLots$Auction" (80 : Nat) ({ cls := "ClockLots$Auction", name := "margin", desc := "(II)I" } : MethodName)) ∈ wB := inB 330 (by decide +kernel) (by decide +kernel)
theorem mw_319 : (Cond.instanceMethod ({ cls := "ClockLots$Auction", name := "margin", desc := "(II)I" } : MethodName)) ∈ wB := inB 331 (by decide +kernel) (by decide +kernel)
theorem mw_320 : (Cond.selects "ClockLots$Auction" ({ cls := "ClockLots$Auction", name := "margin", desc := "(II)I" } : MethodName) ({ cls := "ClockLots$Auction", name := "margin", desc := "(II)I" } : MethodName)) ∈ wB := inB 332 (by decide +kernel) (by decide +kernel)
theorem mw_321 : (Cond.code ({ cls := "ClockLots$Auction", name := "margin", desc := "(II)I" } : MethodName) prog_3_method_13_code (3 : Nat) (Option.some FieldType.int)) ∈ wB := inB 333 (by decide +kernel) (by decide +kernel)
theorem mw_322 : (Cond.methodLink "ClockLots$Auction" (114 : Nat) ({ cls := "ClockLots$Auction", name := "changeDemands", desc := "(IIII)V" } : MethodName)) ∈ wB := inB 334 (by decide +kernel) (by decide +kernel)
theorem mw_323 : (Cond.instanceMethod ({ cls := "ClockLots$Auction", name := "changeDemands", desc := "(IIII)V" } : MethodName)) ∈ wB := inB 335 (by decide +kernel) (by decide +kernel)
theorem mw_324 : (Cond.selects "ClockLots$Auction" ({ cls := "ClockLots$Auction", name := "changeDemands", desc := "(IIII)V" } : MethodName) ({ cls := "ClockLots$Auction", name := "changeDemands", desc := "(IIII)V" } : MethodName)) ∈ wB := inB 336 (by decide +kernel) (by decide +kernel)
theorem mw_325 : (Cond.code ({ cls := "ClockLots$Auction", name := "changeDemands", desc := "(IIII)V" } : MethodName) prog_3_method_35_code (5 : Nat) (Option.none : Option FieldType)) ∈ wB := inB 337 (by decide +kernel) (by decide +kernel)
theorem mw_326 : (Cond.methodLink "ClockLots$Script" (19 : Nat) ({ cls := "ClockLots$Auction", name := "tryClose", desc := "()Z" } : MethodName)) ∈ wB := inB 338 (by decide +kernel) (by decide +kernel)
theorem mw_327 : (Cond.instanceMethod ({ cls := "ClockLots$Auction", name := "tryClose", desc := "()Z" } : MethodName)) ∈ wB := inB 339 (by decide +kernel) (by decide +kernel)
theorem mw_328 : (Cond.selects "ClockLots$Auction" ({ cls := "ClockLots$Auction", name := "tryClose", desc := "()Z" } : MethodName) ({ cls := "ClockLots$Auction", name := "tryClose", desc := "()Z" } : MethodName)) ∈ wB := inB 340 (by decide +kernel) (by decide +kernel)
theorem mw_329 : (Cond.code ({ cls := "ClockLots$Auction", name := "tryClose", desc := "()Z" } : MethodName) prog_3_method_45_code (1 : Nat) (Option.some FieldType.boolean)) ∈ wB := inB 341 (by decide +kernel) (by decide +kernel)
theorem mw_330 : (Cond.methodLink "ClockLots$Auction" (157 : Nat) ({ cls := "ClockLots$Auction", name := "whyNotClose", desc := "()I" } : MethodName)) ∈ wB := inB 342 (by decide +kernel) (by decide +kernel)
theorem mw_331 : (Cond.instanceMethod ({ cls := "ClockLots$Auction", name := "whyNotClose", desc := "()I" } : MethodName)) ∈ wB := inB 343 (by decide +kernel) (by decide +kernel)
theorem mw_332 : (Cond.selects "ClockLots$Auction" ({ cls := "ClockLots$Auction", name := "whyNotClose", desc := "()I" } : MethodName) ({ cls := "ClockLots$Auction", name := "whyNotClose", desc := "()I" } : MethodName)) ∈ wB := inB 344 (by decide +kernel) (by decide +kernel)
theorem mw_333 : (Cond.code ({ cls := "ClockLots$Auction", name := "whyNotClose", desc := "()I" } : MethodName) prog_3_method_25_code (1 : Nat) (Option.some FieldType.int)) ∈ wB := inB 345 (by decide +kernel) (by decide +kernel)
theorem mw_334 : (Cond.methodLink "ClockLots$Auction" (161 : Nat) ({ cls := "ClockLots$Auction", name := "closeRound", desc := "()I" } : MethodName)) ∈ wB := inB 346 (by decide +kernel) (by decide +kernel)
theorem mw_335 : (Cond.instanceMethod ({ cls := "ClockLots$Auction", name := "closeRound", desc := "()I" } : MethodName)) ∈ wB := inB 347 (by decide +kernel) (by decide +kernel)
theorem mw_336 : (Cond.selects "ClockLots$Auction" ({ cls := "ClockLots$Auction", name := "closeRound", desc := "()I" } : MethodName) ({ cls := "ClockLots$Auction", name := "closeRound", desc := "()I" } : MethodName)) ∈ wB := inB 348 (by decide +kernel) (by decide +kernel)
theorem mw_337 : (Cond.code ({ cls := "ClockLots$Auction", name := "closeRound", desc := "()I" } : MethodName) prog_3_method_36_code (3 : Nat) (Option.some FieldType.int)) ∈ wB := inB 349 (by decide +kernel) (by decide +kernel)
theorem mw_338 : (Cond.methodLink "ClockLots$Auction" (76 : Nat) ({ cls := "ClockLots$Auction", name := "askedOf", desc := "(I)I" } : MethodName)) ∈ wB := inB 350 (by decide +kernel) (by decide +kernel)
theorem mw_339 : (Cond.instanceMethod ({ cls := "ClockLots$Auction", name := "askedOf", desc := "(I)I" } : MethodName)) ∈ wB := inB 351 (by decide +kernel) (by decide +kernel)
theorem mw_340 : (Cond.selects "ClockLots$Auction" ({ cls := "ClockLots$Auction", name := "askedOf", desc := "(I)I" } : MethodName) ({ cls := "ClockLots$Auction", name := "askedOf", desc := "(I)I" } : MethodName)) ∈ wB := inB 352 (by decide +kernel) (by decide +kernel)
theorem mw_341 : (Cond.code ({ cls := "ClockLots$Auction", name := "askedOf", desc := "(I)I" } : MethodName) prog_3_method_6_code (4 : Nat) (Option.some FieldType.int)) ∈ wB := inB 353 (by decide +kernel) (by decide +kernel)
theorem mw_342 : (Cond.methodLink "ClockLots$Auction" (124 : Nat) ({ cls := "ClockLots$Auction", name := "raisePrice", desc := "(I)V" } : MethodName)) ∈ wB := inB 354 (by decide +kernel) (by decide +kernel)
theorem mw_343 : (Cond.instanceMethod ({ cls := "ClockLots$Auction", name := "raisePrice", desc := "(I)V" } : MethodName)) ∈ wB := inB 355 (by decide +kernel) (by decide +kernel)
theorem mw_344 : (Cond.selects "ClockLots$Auction" ({ cls := "ClockLots$Auction", name := "raisePrice", desc := "(I)V" } : MethodName) ({ cls := "ClockLots$Auction", name := "raisePrice", desc := "(I)V" } : MethodName)) ∈ wB := inB 356 (by decide +kernel) (by decide +kernel)
theorem mw_345 : (Cond.code ({ cls := "ClockLots$Auction", name := "raisePrice", desc := "(I)V" } : MethodName) prog_3_method_37_code (3 : Nat) (Option.none : Option FieldType)) ∈ wB := inB 357 (by decide +kernel) (by decide +kernel)
theorem mw_346 : (Cond.methodLink "ClockLots$Auction" (128 : Nat) ({ cls := "java/lang/Math", name := "max", desc := "(II)I" } : MethodName)) ∈ wB := inB 358 (by decide +kernel) (by decide +kernel)
theorem mw_347 : (Cond.static ({ cls := "java/lang/Math", name := "max", desc := "(II)I" } : MethodName)) ∈ wB := inB 359 (by decide +kernel) (by decide +kernel)
theorem mw_348 : (Cond.code ({ cls := "java/lang/Math", name := "max", desc := "(II)I" } : MethodName) prog_14_method_65_code (2 : Nat) (Option.some FieldType.int)) ∈ wB := inB 360 (by decide +kernel) (by decide +kernel)
theorem mw_349 : (Cond.constant "ClockLots$Auction" (99 : Nat) (99999 : Int32)) ∈ wB := inB 361 (by decide +kernel) (by decide +kernel)
theorem mw_350 : (Cond.methodLink "ClockLots$Script" (23 : Nat) ({ cls := "ClockLots$Auction", name := "tryValue", desc := "(III)Z" } : MethodName)) ∈ wB := inB 362 (by decide +kernel) (by decide +kernel)
theorem mw_351 : (Cond.instanceMethod ({ cls := "ClockLots$Auction", name := "tryValue", desc := "(III)Z" } : MethodName)) ∈ wB := inB 363 (by decide +kernel) (by decide +kernel)
theorem mw_352 : (Cond.selects "ClockLots$Auction" ({ cls := "ClockLots$Auction", name := "tryValue", desc := "(III)Z" } : MethodName) ({ cls := "ClockLots$Auction", name := "tryValue", desc := "(III)Z" } : MethodName)) ∈ wB := inB 364 (by decide +kernel) (by decide +kernel)
theorem mw_353 : (Cond.code ({ cls := "ClockLots$Auction", name := "tryValue", desc := "(III)Z" } : MethodName) prog_3_method_42_code (4 : Nat) (Option.some FieldType.boolean)) ∈ wB := inB 365 (by decide +kernel) (by decide +kernel)
theorem mw_354 : (Cond.methodLink "ClockLots$Auction" (145 : Nat) ({ cls := "ClockLots$Auction", name := "whyNotValue", desc := "(III)I" } : MethodName)) ∈ wB := inB 366 (by decide +kernel) (by decide +kernel)
theorem mw_355 : (Cond.instanceMethod ({ cls := "ClockLots$Auction", name := "whyNotValue", desc := "(III)I" } : MethodName)) ∈ wB := inB 367 (by decide +kernel) (by decide +kernel)
theorem mw_356 : (Cond.selects "ClockLots$Auction" ({ cls := "ClockLots$Auction", name := "whyNotValue", desc := "(III)I" } : MethodName) ({ cls := "ClockLots$Auction", name := "whyNotValue", desc := "(III)I" } : MethodName)) ∈ wB := inB 368 (by decide +kernel) (by decide +kernel)
theorem mw_357 : (Cond.code ({ cls := "ClockLots$Auction", name := "whyNotValue", desc := "(III)I" } : MethodName) prog_3_method_22_code (4 : Nat) (Option.some FieldType.int)) ∈ wB := inB 369 (by decide +kernel) (by decide +kernel)
theorem mw_358 : (Cond.methodLink "ClockLots$Script" (26 : Nat) ({ cls := "ClockLots$Auction", name := "trySet", desc := "(II)Z" } : MethodName)) ∈ wB := inB 370 (by decide +kernel) (by decide +kernel)
theorem mw_359 : (Cond.instanceMethod ({ cls := "ClockLots$Auction", name := "trySet", desc := "(II)Z" } : MethodName)) ∈ wB := inB 371 (by decide +kernel) (by decide +kernel)
theorem mw_360 : (Cond.selects "ClockLots$Auction" ({ cls := "ClockLots$Auction", name := "trySet", desc := "(II)Z" } : MethodName) ({ cls := "ClockLots$Auction", name := "trySet", desc := "(II)Z" } : MethodName)) ∈ wB := inB 372 (by decide +kernel) (by decide +kernel)
theorem mw_361 : (Cond.code ({ cls := "ClockLots$Auction", name := "trySet", desc := "(II)Z" } : MethodName) prog_3_method_48_code (3 : Nat) (Option.some FieldType.boolean)) ∈ wB := inB 373 (by decide +kernel) (by decide +kernel)
theorem mw_362 : (Cond.methodLink "ClockLots$Auction" (178 : Nat) ({ cls := "ClockLots$Auction", name := "whyNotSet", desc := "(II)I" } : MethodName)) ∈ wB := inB 374 (by decide +kernel) (by decide +kernel)
theorem mw_363 : (Cond.instanceMethod ({ cls := "ClockLots$Auction", name := "whyNotSet", desc := "(II)I" } : MethodName)) ∈ wB := inB 375 (by decide +kernel) (by decide +kernel)
theorem mw_364 : (Cond.selects "ClockLots$Auction" ({ cls := "ClockLots$Auction", name := "whyNotSet", desc := "(II)I" } : MethodName) ({ cls := "ClockLots$Auction", name := "whyNotSet", desc := "(II)I" } : MethodName)) ∈ wB := inB 376 (by decide +kernel) (by decide +kernel)
theorem mw_365 : (Cond.code ({ cls := "ClockLots$Auction", name := "whyNotSet", desc := "(II)I" } : MethodName) prog_3_method_29_code (3 : Nat) (Option.some FieldType.int)) ∈ wB := inB 377 (by decide +kernel) (by decide +kernel)
theorem mw_366 : (Cond.methodLink "ClockLots$Auction" (181 : Nat) ({ cls := "ClockLots$Auction", name := "changeSetting", desc := "(II)V" } : MethodName)) ∈ wB := inB 378 (by decide +kernel) (by decide +kernel)
theorem mw_367 : (Cond.instanceMethod ({ cls := "ClockLots$Auction", name := "changeSetting", desc := "(II)V" } : MethodName)) ∈ wB := inB 379 (by decide +kernel) (by decide +kernel)
theorem mw_368 : (Cond.selects "ClockLots$Auction" ({ cls := "ClockLots$Auction", name := "changeSetting", desc := "(II)V" } : MethodName) ({ cls := "ClockLots$Auction", name := "changeSetting", desc := "(II)V" } : MethodName)) ∈ wB := inB 380 (by decide +kernel) (by decide +kernel)
theorem mw_369 : (Cond.code ({ cls := "ClockLots$Auction", name := "changeSetting", desc := "(II)V" } : MethodName) prog_3_method_32_code (3 : Nat) (Option.none : Option FieldType)) ∈ wB := inB 381 (by decide +kernel) (by decide +kernel)
theorem mw_370 : (Cond.methodLink "ClockLots$Script" (30 : Nat) ({ cls := "ClockLots$Auction", name := "tryDrop", desc := "(II)Z" } : MethodName)) ∈ wB := inB 382 (by decide +kernel) (by decide +kernel)
theorem mw_371 : (Cond.instanceMethod ({ cls := "ClockLots$Auction", name := "tryDrop", desc := "(II)Z" } : MethodName)) ∈ wB := inB 383 (by decide +kernel) (by decide +kernel)
theorem mw_372 : (Cond.selects "ClockLots$Auction" ({ cls := "ClockLots$Auction", name := "tryDrop", desc := "(II)Z" } : MethodName) ({ cls := "ClockLots$Auction", name := "tryDrop", desc := "(II)Z" } : MethodName)) ∈ wB := inB 384 (by decide +kernel) (by decide +kernel)
theorem mw_373 : (Cond.code ({ cls := "ClockLots$Auction", name := "tryDrop", desc := "(II)Z" } : MethodName) prog_3_method_47_code (3 : Nat) (Option.some FieldType.boolean)) ∈ wB := inB 385 (by decide +kernel) (by decide +kernel)
theorem mw_374 : (Cond.methodLink "ClockLots$Auction" (172 : Nat) ({ cls := "ClockLots$Auction", name := "whyNotDrop", desc := "(II)I" } : MethodName)) ∈ wB := inB 386 (by decide +kernel) (by decide +kernel)
theorem mw_375 : (Cond.instanceMethod ({ cls := "ClockLots$Auction", name := "whyNotDrop", desc := "(II)I" } : MethodName)) ∈ wB := inB 387 (by decide +kernel) (by decide +kernel)
theorem mw_376 : (Cond.selects "ClockLots$Auction" ({ cls := "ClockLots$Auction", name := "whyNotDrop", desc := "(II)I" } : MethodName) ({ cls := "ClockLots$Auction", name := "whyNotDrop", desc := "(II)I" } : MethodName)) ∈ wB := inB 388 (by decide +kernel) (by decide +kernel)
theorem mw_377 : (Cond.code ({ cls := "ClockLots$Auction", name := "whyNotDrop", desc := "(II)I" } : MethodName) prog_3_method_28_code (3 : Nat) (Option.some FieldType.int)) ∈ wB := inB 389 (by decide +kernel) (by decide +kernel)
theorem mw_378 : (Cond.methodLink "ClockLots$Auction" (175 : Nat) ({ cls := "ClockLots$Auction", name := "dropPack", desc := "(II)V" } : MethodName)) ∈ wB := inB 390 (by decide +kernel) (by decide +kernel)
theorem mw_379 : (Cond.instanceMethod ({ cls := "ClockLots$Auction", name := "dropPack", desc := "(II)V" } : MethodName)) ∈ wB := inB 391 (by decide +kernel) (by decide +kernel)
theorem mw_380 : (Cond.selects "ClockLots$Auction" ({ cls := "ClockLots$Auction", name := "dropPack", desc := "(II)V" } : MethodName) ({ cls := "ClockLots$Auction", name := "dropPack", desc := "(II)V" } : MethodName)) ∈ wB := inB 392 (by decide +kernel) (by decide +kernel)
theorem mw_381 : (Cond.code ({ cls := "ClockLots$Auction", name := "dropPack", desc := "(II)V" } : MethodName) prog_3_method_39_code (6 : Nat) (Option.none : Option FieldType)) ∈ wB := inB 393 (by decide +kernel) (by decide +kernel)
theorem mw_382 : (Cond.methodLink "ClockLots$Auction" (88 : Nat) ({ cls := "ClockLots$Auction", name := "packCell", desc := "(II)I" } : MethodName)) ∈ wB := inB 394 (by decide +kernel) (by decide +kernel)
theorem mw_383 : (Cond.static ({ cls := "ClockLots$Auction", name := "packCell", desc := "(II)I" } : MethodName)) ∈ wB := inB 395 (by decide +kernel) (by decide +kernel)
theorem mw_384 : (Cond.code ({ cls := "ClockLots$Auction", name := "packCell", desc := "(II)I" } : MethodName) prog_3_method_18_code (2 : Nat) (Option.some FieldType.int)) ∈ wB := inB 396 (by decide +kernel) (by decide +kernel)
theorem mt_385 : (Cond.methodLinkNest "ClockLots$Script" (33 : Nat) ({ cls := "ClockLots", name := "noKind", desc := "(I)Z" } : MethodName) "ClockLots") ∈ lw_tbl := inT 397 (by decide +kernel)
theorem mw_386 : (Cond.methodLink "ClockLots$Script" (40 : Nat) ({ cls := "ClockLots$Auction", name := "noBidder", desc := "(I)Z" } : MethodName)) ∈ wB := inB 398 (by decide +kernel) (by decide +kernel)
theorem mw_387 : (Cond.constant "ClockLotsLaw" (18 : Nat) (-9999002 : Int32)) ∈ wB := inB 399 (by decide +kernel) (by decide +kernel)
theorem mw_388 : (Cond.methodLink "ClockLotsLaw" (210 : Nat) ({ cls := "ClockLotsLaw", name := "trySimulate", desc := "(LClockLots;JI)I" } : MethodName)) ∈ wB := inB 400 (by decide +kernel) (by decide +kernel)
theorem mw_389 : (Cond.static ({ cls := "ClockLotsLaw", name := "trySimulate", desc := "(LClockLots;JI)I" } : MethodName)) ∈ wB := inB 401 (by decide +kernel) (by decide +kernel)
theorem mw_390 : (Cond.codeWith ({ cls := "ClockLotsLaw", name := "trySimulate", desc := "(LClockLots;JI)I" } : MethodName) method_4_code (5 : Nat) (Option.some FieldType.int) [((0 : Nat), (6 : Nat), (7 : Nat), (16 : Nat))]) ∈ wB := inB 402 (by decide +kernel) (by decide +kernel)
theorem mw_391 : (Cond.methodLink "ClockLotsLaw" (26 : Nat) ({ cls := "ClockLots", name := "simulate", desc := "(JI)I" } : MethodName)) ∈ wB := inB 403 (by decide +kernel) (by decide +kernel)
theorem mw_392 : (Cond.instanceMethod ({ cls := "ClockLots", name := "simulate", desc := "(JI)I" } : MethodName)) ∈ wB := inB 404 (by decide +kernel) (by decide +kernel)
theorem mw_393 : (Cond.selects "ClockLots" ({ cls := "ClockLots", name := "simulate", desc := "(JI)I" } : MethodName) ({ cls := "ClockLots", name := "simulate", desc := "(JI)I" } : MethodName)) ∈ wB := inB 405 (by decide +kernel) (by decide +kernel)
theorem mw_394 : (Cond.code ({ cls := "ClockLots", name := "simulate", desc := "(JI)I" } : MethodName) prog_1_method_32_code (7 : Nat) (Option.some FieldType.int)) ∈ wB := inB 406 (by decide +kernel) (by decide +kernel)
theorem mt_395 : (Cond.stringRef "ClockLots" (278 : Nat) "m is not 1 to 99") ∈ lw_tbl := inT 407 (by decide +kernel)
theorem mw_396 : (Cond.constantLong "ClockLots" (280 : Nat) (6364136223846793005 : Int64)) ∈ wB := inB 408 (by decide +kernel) (by decide +kernel)
theorem mw_397 : (Cond.constantLong "ClockLots" (282 : Nat) (1442695040888963407 : Int64)) ∈ wB := inB 409 (by decide +kernel) (by decide +kernel)
theorem mw_398 : (Cond.methodLink "ClockLots" (284 : Nat) ({ cls := "ClockLots$Script", name := "takeTurn", desc := "(LClockLots$Auction;I)V" } : MethodName)) ∈ wB := inB 410 (by decide +kernel) (by decide +kernel)
theorem mw_399 : (Cond.static ({ cls := "ClockLots$Script", name := "takeTurn", desc := "(LClockLots$Auction;I)V" } : MethodName)) ∈ wB := inB 411 (by decide +kernel) (by decide +kernel)
theorem mw_400 : (Cond.code ({ cls := "ClockLots$Script", name := "takeTurn", desc := "(LClockLots$Auction;I)V" } : MethodName) prog_5_method_3_code (6 : Nat) (Option.none : Option FieldType)) ∈ wB := inB 412 (by decide +kernel) (by decide +kernel)
theorem mw_401 : (Cond.methodLink "ClockLots$Script" (54 : Nat) ({ cls := "ClockLots$Auction", name := "tryJoin", desc := "(II)Z" } : MethodName)) ∈ wB := inB 413 (by decide +kernel) (by decide +kernel)
theorem mw_402 : (Cond.instanceMethod ({ cls := "ClockLots$Auction", name := "tryJoin", desc := "(II)Z" } : MethodName)) ∈ wB := inB 414 (by decide +kernel) (by decide +kernel)
theorem mw_403 : (Cond.selects "ClockLots$Auction" ({ cls := "ClockLots$Auction", name := "tryJoin", desc := "(II)Z" } : MethodName) ({ cls := "ClockLots$Auction", name := "tryJoin", desc := "(II)Z" } : MethodName)) ∈ wB := inB 415 (by decide +kernel) (by decide +kernel)
theorem mw_404 : (Cond.code ({ cls := "ClockLots$Auction", name := "tryJoin", desc := "(II)Z" } : MethodName) prog_3_method_41_code (3 : Nat) (Option.some FieldType.boolean)) ∈ wB := inB 416 (by decide +kernel) (by decide +kernel)
theorem mw_405 : (Cond.methodLink "ClockLots$Auction" (138 : Nat) ({ cls := "ClockLots$Auction", name := "whyNotJoin", desc := "(II)I" } : MethodName)) ∈ wB := inB 417 (by decide +kernel) (by decide +kernel)
theorem mw_406 : (Cond.instanceMethod ({ cls := "ClockLots$Auction", name := "whyNotJoin", desc := "(II)I" } : MethodName)) ∈ wB := inB 418 (by decide +kernel) (by decide +kernel)
theorem mw_407 : (Cond.selects "ClockLots$Auction" ({ cls := "ClockLots$Auction", name := "whyNotJoin", desc := "(II)I" } : MethodName) ({ cls := "ClockLots$Auction", name := "whyNotJoin", desc := "(II)I" } : MethodName)) ∈ wB := inB 419 (by decide +kernel) (by decide +kernel)
theorem mw_408 : (Cond.code ({ cls := "ClockLots$Auction", name := "whyNotJoin", desc := "(II)I" } : MethodName) prog_3_method_21_code (3 : Nat) (Option.some FieldType.int)) ∈ wB := inB 420 (by decide +kernel) (by decide +kernel)
theorem mw_409 : (Cond.methodLink "ClockLots$Auction" (141 : Nat) ({ cls := "ClockLots$Auction", name := "addBidder", desc := "(II)V" } : MethodName)) ∈ wB := inB 421 (by decide +kernel) (by decide +kernel)
theorem mw_410 : (Cond.instanceMethod ({ cls := "ClockLots$Auction", name := "addBidder", desc := "(II)V" } : MethodName)) ∈ wB := inB 422 (by decide +kernel) (by decide +kernel)
theorem mw_411 : (Cond.selects "ClockLots$Auction" ({ cls := "ClockLots$Auction", name := "addBidder", desc := "(II)V" } : MethodName) ({ cls := "ClockLots$Auction", name := "addBidder", desc := "(II)V" } : MethodName)) ∈ wB := inB 423 (by decide +kernel) (by decide +kernel)
theorem mw_412 : (Cond.code ({ cls := "ClockLots$Auction", name := "addBidder", desc := "(II)V" } : MethodName) prog_3_method_31_code (5 : Nat) (Option.none : Option FieldType)) ∈ wB := inB 424 (by decide +kernel) (by decide +kernel)
theorem mw_413 : (Cond.constant "ClockLots$Script" (57 : Nat) (32768 : Int32)) ∈ wB := inB 425 (by decide +kernel) (by decide +kernel)
theorem mw_414 : (Cond.methodLink "ClockLots$Script" (58 : Nat) ({ cls := "ClockLots$Auction", name := "tryAdd", desc := "(IIIII)Z" } : MethodName)) ∈ wB := inB 426 (by decide +kernel) (by decide +kernel)
theorem mw_415 : (Cond.instanceMethod ({ cls := "ClockLots$Auction", name := "tryAdd", desc := "(IIIII)Z" } : MethodName)) ∈ wB := inB 427 (by decide +kernel) (by decide +kernel)
theorem mw_416 : (Cond.selects "ClockLots$Auction" ({ cls := "ClockLots$Auction", name := "tryAdd", desc := "(IIIII)Z" } : MethodName) ({ cls := "ClockLots$Auction", name := "tryAdd", desc := "(IIIII)Z" } : MethodName)) ∈ wB := inB 428 (by decide +kernel) (by decide +kernel)
theorem mw_417 : (Cond.code ({ cls := "ClockLots$Auction", name := "tryAdd", desc := "(IIIII)Z" } : MethodName) prog_3_method_46_code (6 : Nat) (Option.some FieldType.boolean)) ∈ wB := inB 429 (by decide +kernel) (by decide +kernel)
theorem mw_418 : (Cond.methodLink "ClockLots$Auction" (164 : Nat) ({ cls := "ClockLots$Auction", name := "whyNotAdd", desc := "(IIIII)I" } : MethodName)) ∈ wB := inB 430 (by decide +kernel) (by decide +kernel)
theorem mw_419 : (Cond.instanceMethod ({ cls := "ClockLots$Auction", name := "whyNotAdd", desc := "(IIIII)I" } : MethodName)) ∈ wB := inB 431 (by decide +kernel) (by decide +kernel)
theorem mw_420 : (Cond.selects "ClockLots$Auction" ({ cls := "ClockLots$Auction", name := "whyNotAdd", desc := "(IIIII)I" } : MethodName) ({ cls := "ClockLots$Auction", name := "whyNotAdd", desc := "(IIIII)I" } : MethodName)) ∈ wB := inB 432 (by decide +kernel) (by decide +kernel)
theorem mw_421 : (Cond.code ({ cls := "ClockLots$Auction", name := "whyNotAdd", desc := "(IIIII)I" } : MethodName) prog_3_method_26_code (6 : Nat) (Option.some FieldType.int)) ∈ wB := inB 433 (by decide +kernel) (by decide +kernel)
theorem mw_422 : (Cond.constant "ClockLots$Auction" (109 : Nat) (999999 : Int32)) ∈ wB := inB 434 (by decide +kernel) (by decide +kernel)
theorem mw_423 : (Cond.methodLink "ClockLots$Auction" (91 : Nat) ({ cls := "ClockLots$Auction", name := "costOf", desc := "(III)I" } : MethodName)) ∈ wB := inB 435 (by decide +kernel) (by decide +kernel)
theorem mw_424 : (Cond.instanceMethod ({ cls := "ClockLots$Auction", name := "costOf", desc := "(III)I" } : MethodName)) ∈ wB := inB 436 (by decide +kernel) (by decide +kernel)
theorem mw_425 : (Cond.selects "ClockLots$Auction" ({ cls := "ClockLots$Auction", name := "costOf", desc := "(III)I" } : MethodName) ({ cls := "ClockLots$Auction", name := "costOf", desc := "(III)I" } : MethodName)) ∈ wB := inB 437 (by decide +kernel) (by decide +kernel)
theorem mw_426 : (Cond.code ({ cls := "ClockLots$Auction", name := "costOf", desc := "(III)I" } : MethodName) prog_3_method_17_code (4 : Nat) (Option.some FieldType.int)) ∈ wB := inB 438 (by decide +kernel) (by decide +kernel)
theorem mw_427 : (Cond.methodLink "ClockLots$Auction" (110 : Nat) ({ cls := "ClockLots$Auction", name := "mayHave", desc := "(IIII)Z" } : MethodName)) ∈ wB := inB 439 (by decide +kernel) (by decide +kernel)
theorem mw_428 : (Cond.instanceMethod ({ cls := "ClockLots$Auction", name := "mayHave", desc := "(IIII)Z" } : MethodName)) ∈ wB := inB 440 (by decide +kernel) (by decide +kernel)
theorem mw_429 : (Cond.selects "ClockLots$Auction" ({ cls := "ClockLots$Auction", name := "mayHave", desc := "(IIII)Z" } : MethodName) ({ cls := "ClockLots$Auction", name := "mayHave", desc := "(IIII)Z" } : MethodName)) ∈ wB := inB 441 (by decide +kernel) (by decide +kernel)
theorem mw_430 : (Cond.code ({ cls := "ClockLots$Auction", name := "mayHave", desc := "(IIII)Z" } : MethodName) prog_3_method_27_code (5 : Nat) (Option.some FieldType.boolean)) ∈ wB := inB 442 (by decide +kernel) (by decide +kernel)
theorem mw_431 : (Cond.methodLink "ClockLots$Auction" (168 : Nat) ({ cls := "ClockLots$Auction", name := "addPack", desc := "(IIIII)V" } : MethodName)) ∈ wB := inB 443 (by decide +kernel) (by decide +kernel)
theorem mw_432 : (Cond.instanceMethod ({ cls := "ClockLots$Auction", name := "addPack", desc := "(IIIII)V" } : MethodName)) ∈ wB := inB 444 (by decide +kernel) (by decide +kernel)
theorem mw_433 : (Cond.selects "ClockLots$Auction" ({ cls := "ClockLots$Auction", name := "addPack", desc := "(IIIII)V" } : MethodName) ({ cls := "ClockLots$Auction", name := "addPack", desc := "(IIIII)V" } : MethodName)) ∈ wB := inB 445 (by decide +kernel) (by decide +kernel)
theorem mw_434 : (Cond.code ({ cls := "ClockLots$Auction", name := "addPack", desc := "(IIIII)V" } : MethodName) prog_3_method_38_code (7 : Nat) (Option.none : Option FieldType)) ∈ wB := inB 446 (by decide +kernel) (by decide +kernel)
theorem mw_435 : (Cond.methodLink "ClockLots" (288 : Nat) ({ cls := "ClockLots$Auction", name := "allDemands", desc := "()I" } : MethodName)) ∈ wB := inB 447 (by decide +kernel) (by decide +kernel)
theorem mw_436 : (Cond.instanceMethod ({ cls := "ClockLots$Auction", name := "allDemands", desc := "()I" } : MethodName)) ∈ wB := inB 448 (by decide +kernel) (by decide +kernel)
theorem mw_437 : (Cond.selects "ClockLots$Auction" ({ cls := "ClockLots$Auction", name := "allDemands", desc := "()I" } : MethodName) ({ cls := "ClockLots$Auction", name := "allDemands", desc := "()I" } : MethodName)) ∈ wB := inB 449 (by decide +kernel) (by decide +kernel)
theorem mw_438 : (Cond.code ({ cls := "ClockLots$Auction", name := "allDemands", desc := "()I" } : MethodName) prog_3_method_8_code (3 : Nat) (Option.some FieldType.int)) ∈ wB := inB 450 (by decide +kernel) (by decide +kernel)
theorem mw_439 : (Cond.methodLink "ClockLotsLaw" (230 : Nat) ({ cls := "ClockLotsLaw", name := "cell", desc := "([II)I" } : MethodName)) ∈ wB := inB 451 (by decide +kernel) (by decide +kernel)
theorem mw_440 : (Cond.static ({ cls := "ClockLotsLaw", name := "cell", desc := "([II)I" } : MethodName)) ∈ wB := inB 452 (by decide +kernel) (by decide +kernel)
theorem mw_441 : (Cond.code ({ cls := "ClockLotsLaw", name := "cell", desc := "([II)I" } : MethodName) method_31_code (2 : Nat) (Option.some FieldType.int)) ∈ wB := inB 453 (by decide +kernel) (by decide +kernel)
theorem mw_442 : (Cond.constant "ClockLotsLaw" (190 : Nat) (15518537 : Int32)) ∈ wB := inB 454 (by decide +kernel) (by decide +kernel)
theorem mw_443 : (Cond.constant "ClockLotsLaw" (191 : Nat) (2147483647 : Int32)) ∈ wB := inB 455 (by decide +kernel) (by decide +kernel)
theorem mw_444 : (Cond.methodLink "ClockLotsLaw" (234 : Nat) ({ cls := "ClockLotsLaw", name := "refuses", desc := "(LClockLots;I)Z" } : MethodName)) ∈ wB := inB 456 (by decide +kernel) (by decide +kernel)
theorem mw_445 : (Cond.static ({ cls := "ClockLotsLaw", name := "refuses", desc := "(LClockLots;I)Z" } : MethodName)) ∈ wB := inB 457 (by decide +kernel) (by decide +kernel)
set_option maxRecDepth 100000 in
set_option maxHeartbeats 4000000 in
theorem mw_446 : (Cond.code ({ cls := "ClockLotsLaw", name := "refuses", desc := "(LClockLots;I)Z" } : MethodName) method_32_code (8 : Nat) (Option.some FieldType.boolean)) ∈ wB := inB 458 rfl (by decide +kernel)
theorem mw_447 : (Cond.methodLink "ClockLotsLaw" (192 : Nat) ({ cls := "ClockLotsLaw", name := "call", desc := "(LClockLots;IIII)I" } : MethodName)) ∈ wB := inB 459 (by decide +kernel) (by decide +kernel)
theorem mw_448 : (Cond.static ({ cls := "ClockLotsLaw", name := "call", desc := "(LClockLots;IIII)I" } : MethodName)) ∈ wB := inB 460 (by decide +kernel) (by decide +kernel)
theorem mw_449 : (Cond.code ({ cls := "ClockLotsLaw", name := "call", desc := "(LClockLots;IIII)I" } : MethodName) method_30_code (5 : Nat) (Option.some FieldType.int)) ∈ wB := inB 461 (by decide +kernel) (by decide +kernel)
theorem mw_450 : (Cond.methodLink "ClockLotsLaw" (109 : Nat) ({ cls := "ClockLotsLaw", name := "tryAppend", desc := "(LClockLots;I)I" } : MethodName)) ∈ wB := inB 462 (by decide +kernel) (by decide +kernel)
theorem mw_451 : (Cond.static ({ cls := "ClockLotsLaw", name := "tryAppend", desc := "(LClockLots;I)I" } : MethodName)) ∈ wB := inB 463 (by decide +kernel) (by decide +kernel)
theorem mw_452 : (Cond.codeWith ({ cls := "ClockLotsLaw", name := "tryAppend", desc := "(LClockLots;I)I" } : MethodName) method_5_code (3 : Nat) (Option.some FieldType.int) [((0 : Nat), (5 : Nat), (6 : Nat), (16 : Nat)), ((0 : Nat), (5 : Nat), (10 : Nat), (19 : Nat))]) ∈ wB := inB 464 (by decide +kernel) (by decide +kernel)
theorem mw_453 : (Cond.classLink "ClockLotsLaw" (19 : Nat) "java/lang/IllegalStateException") ∈ wB := inB 465 (by decide +kernel) (by decide +kernel)
theorem mw_454 : (Cond.methodLink "ClockLotsLaw" (30 : Nat) ({ cls := "ClockLots", name := "append", desc := "(I)I" } : MethodName)) ∈ wB := inB 466 (by decide +kernel) (by decide +kernel)
theorem mw_455 : (Cond.instanceMethod ({ cls := "ClockLots", name := "append", desc := "(I)I" } : MethodName)) ∈ wB := inB 467 (by decide +kernel) (by decide +kernel)
theorem mw_456 : (Cond.selects "ClockLots" ({ cls := "ClockLots", name := "append", desc := "(I)I" } : MethodName) ({ cls := "ClockLots", name := "append", desc := "(I)I" } : MethodName)) ∈ wB := inB 468 (by decide +kernel) (by decide +kernel)
theorem mw_457 : (Cond.code ({ cls := "ClockLots", name := "append", desc := "(I)I" } : MethodName) prog_1_method_2_code (2 : Nat) (Option.some FieldType.int)) ∈ wB := inB 469 (by decide +kernel) (by decide +kernel)
theorem mt_458 : (Cond.stringRef "ClockLots" (54 : Nat) "no character code") ∈ lw_tbl := inT 470 (by decide +kernel)
theorem mw_459 : (Cond.methodLink "ClockLots" (59 : Nat) ({ cls := "ClockLots$Text", name := "isFull", desc := "()Z" } : MethodName)) ∈ wB := inB 471 (by decide +kernel) (by decide +kernel)
theorem mw_460 : (Cond.instanceMethod ({ cls := "ClockLots$Text", name := "isFull", desc := "()Z" } : MethodName)) ∈ wB := inB 472 (by decide +kernel) (by decide +kernel)
theorem mw_461 : (Cond.selects "ClockLots$Text" ({ cls := "ClockLots$Text", name := "isFull", desc := "()Z" } : MethodName) ({ cls := "ClockLots$Text", name := "isFull", desc := "()Z" } : MethodName)) ∈ wB := inB 473 (by decide +kernel) (by decide +kernel)
theorem mw_462 : (Cond.code ({ cls := "ClockLots$Text", name := "isFull", desc := "()Z" } : MethodName) prog_6_method_2_code (1 : Nat) (Option.some FieldType.boolean)) ∈ wB := inB 474 (by decide +kernel) (by decide +kernel)
theorem mw_463 : (Cond.classLink "ClockLots" (63 : Nat) "java/lang/IllegalStateException") ∈ wB := inB 475 (by decide +kernel) (by decide +kernel)
theorem mw_464 : (Cond.instantiable "java/lang/IllegalStateException" (6 : Nat)) ∈ wB := inB 476 (by decide +kernel) (by decide +kernel)
theorem mt_465 : (Cond.castable "java/lang/IllegalStateException" "java/lang/IllegalStateException") ∈ lw_tbl := inT 477 (by decide +kernel)
theorem mw_466 : (Cond.selects "java/lang/IllegalStateException" ({ cls := "java/lang/Throwable", name := "fillInStackTrace", desc := "(I)Ljava/lang/Throwable;" } : MethodName) ({ cls := "java/lang/Throwable", name := "fillInStackTrace", desc := "(I)Ljava/lang/Throwable;" } : MethodName)) ∈ wB := inB 478 (by decide +kernel) (by decide +kernel)
theorem mw_467 : (Cond.lays "java/lang/IllegalStateException" "java/lang/Throwable" "cause" "Ljava/lang/Throwable;") ∈ wB := inB 479 (by decide +kernel) (by decide +kernel)
theorem mw_468 : (Cond.lays "java/lang/IllegalStateException" "java/lang/Throwable" "stackTrace" "[Ljava/lang/StackTraceElement;") ∈ wB := inB 480 (by decide +kernel) (by decide +kernel)
theorem mw_469 : (Cond.lays "java/lang/IllegalStateException" "java/lang/Throwable" "suppressedExceptions" "Ljava/util/List;") ∈ wB := inB 481 (by decide +kernel) (by decide +kernel)
theorem mw_470 : (Cond.lays "java/lang/IllegalStateException" "java/lang/Throwable" "detailMessage" "Ljava/lang/String;") ∈ wB := inB 482 (by decide +kernel) (by decide +kernel)
theorem mw_471 : (Cond.lays "java/lang/IllegalStateException" "java/lang/Throwable" "backtrace" "Ljava/lang/Object;") ∈ wB := inB 483 (by decide +kernel) (by decide +kernel)
theorem mt_472 : (Cond.stringRef "ClockLots" (65 : Nat) "the text is full") ∈ lw_tbl := inT 484 (by decide +kernel)
theorem mw_473 : (Cond.methodLink "ClockLots" (67 : Nat) ({ cls := "java/lang/IllegalStateException", name := "<init>", desc := "(Ljava/lang/String;)V" } : MethodName)) ∈ wB := inB 485 (by decide +kernel) (by decide +kernel)
theorem mw_474 : (Cond.instanceMethod ({ cls := "java/lang/IllegalStateException", name := "<init>", desc := "(Ljava/lang/String;)V" } : MethodName)) ∈ wB := inB 486 (by decide +kernel) (by decide +kernel)
theorem mw_475 : (Cond.code ({ cls := "java/lang/IllegalStateException", name := "<init>", desc := "(Ljava/lang/String;)V" } : MethodName) prog_12_method_2_code (2 : Nat) (Option.none : Option FieldType)) ∈ wB := inB 487 (by decide +kernel) (by decide +kernel)
theorem mw_476 : (Cond.methodLink "java/lang/IllegalStateException" (7 : Nat) ({ cls := "java/lang/RuntimeException", name := "<init>", desc := "(Ljava/lang/String;)V" } : MethodName)) ∈ wB := inB 488 (by decide +kernel) (by decide +kernel)
theorem mw_477 : (Cond.lays "java/lang/IllegalStateException" "java/lang/Throwable" "depth" "I") ∈ wB := inB 489 (by decide +kernel) (by decide +kernel)
theorem mt_478 : (Cond.superclass "java/lang/IllegalStateException" "java/lang/RuntimeException") ∈ lw_tbl := inT 490 (by decide +kernel)
theorem mw_479 : (Cond.methodLink "ClockLots" (68 : Nat) ({ cls := "ClockLots$Text", name := "put", desc := "(C)I" } : MethodName)) ∈ wB := inB 491 (by decide +kernel) (by decide +kernel)
theorem mw_480 : (Cond.instanceMethod ({ cls := "ClockLots$Text", name := "put", desc := "(C)I" } : MethodName)) ∈ wB := inB 492 (by decide +kernel) (by decide +kernel)
theorem mw_481 : (Cond.selects "ClockLots$Text" ({ cls := "ClockLots$Text", name := "put", desc := "(C)I" } : MethodName) ({ cls := "ClockLots$Text", name := "put", desc := "(C)I" } : MethodName)) ∈ wB := inB 493 (by decide +kernel) (by decide +kernel)
theorem mw_482 : (Cond.code ({ cls := "ClockLots$Text", name := "put", desc := "(C)I" } : MethodName) prog_6_method_3_code (2 : Nat) (Option.some FieldType.int)) ∈ wB := inB 494 (by decide +kernel) (by decide +kernel)
theorem mw_483 : (Cond.constant "ClockLotsLaw" (21 : Nat) (-9999003 : Int32)) ∈ wB := inB 495 (by decide +kernel) (by decide +kernel)
theorem mw_484 : (Cond.methodLink "ClockLotsLaw" (115 : Nat) ({ cls := "ClockLotsLaw", name := "tryLoad", desc := "(LClockLots;)I" } : MethodName)) ∈ wB := inB 496 (by decide +kernel) (by decide +kernel)
theorem mw_485 : (Cond.static ({ cls := "ClockLotsLaw", name := "tryLoad", desc := "(LClockLots;)I" } : MethodName)) ∈ wB := inB 497 (by decide +kernel) (by decide +kernel)
theorem mw_486 : (Cond.codeWith ({ cls := "ClockLotsLaw", name := "tryLoad", desc := "(LClockLots;)I" } : MethodName) method_6_code (2 : Nat) (Option.some FieldType.int) [((0 : Nat), (4 : Nat), (5 : Nat), (19 : Nat))]) ∈ wB := inB 498 (by decide +kernel) (by decide +kernel)
theorem mw_487 : (Cond.methodLink "ClockLotsLaw" (34 : Nat) ({ cls := "ClockLots", name := "load", desc := "()I" } : MethodName)) ∈ wB := inB 499 (by decide +kernel) (by decide +kernel)
theorem mw_488 : (Cond.instanceMethod ({ cls := "ClockLots", name := "load", desc := "()I" } : MethodName)) ∈ wB := inB 500 (by decide +kernel) (by decide +kernel)
theorem mw_489 : (Cond.selects "ClockLots" ({ cls := "ClockLots", name := "load", desc := "()I" } : MethodName) ({ cls := "ClockLots", name := "load", desc := "()I" } : MethodName)) ∈ wB := inB 501 (by decide +kernel) (by decide +kernel)
theorem mw_490 : (Cond.code ({ cls := "ClockLots", name := "load", desc := "()I" } : MethodName) prog_1_method_5_code (2 : Nat) (Option.some FieldType.int)) ∈ wB := inB 502 (by decide +kernel) (by decide +kernel)
theorem mw_491 : (Cond.methodLink "ClockLots" (76 : Nat) ({ cls := "ClockLots$Text", name := "firstError", desc := "()I" } : MethodName)) ∈ wB := inB 503 (by decide +kernel) (by decide +kernel)
theorem mw_492 : (Cond.instanceMethod ({ cls := "ClockLots$Text", name := "firstError", desc := "()I" } : MethodName)) ∈ wB := inB 504 (by decide +kernel) (by decide +kernel)
theorem mw_493 : (Cond.selects "ClockLots$Text" ({ cls := "ClockLots$Text", name := "firstError", desc := "()I" } : MethodName) ({ cls := "ClockLots$Text", name := "firstError", desc := "()I" } : MethodName)) ∈ wB := inB 505 (by decide +kernel) (by decide +kernel)
theorem mw_494 : (Cond.code ({ cls := "ClockLots$Text", name := "firstError", desc := "()I" } : MethodName) prog_6_method_5_code (5 : Nat) (Option.some FieldType.int)) ∈ wB := inB 506 (by decide +kernel) (by decide +kernel)
theorem mw_495 : (Cond.methodLink "ClockLots$Text" (19 : Nat) ({ cls := "ClockLots$Text", name := "isCommand", desc := "(C)Z" } : MethodName)) ∈ wB := inB 507 (by decide +kernel) (by decide +kernel)
theorem mw_496 : (Cond.static ({ cls := "ClockLots$Text", name := "isCommand", desc := "(C)Z" } : MethodName)) ∈ wB := inB 508 (by decide +kernel) (by decide +kernel)
theorem mw_497 : (Cond.code ({ cls := "ClockLots$Text", name := "isCommand", desc := "(C)Z" } : MethodName) prog_6_method_9_code (1 : Nat) (Option.some FieldType.boolean)) ∈ wB := inB 509 (by decide +kernel) (by decide +kernel)
theorem mt_498 : (Cond.stringRef "ClockLots$Text" (63 : Nat) "sbvqwc") ∈ lw_tbl := inT 510 (by decide +kernel)
theorem mw_499 : (Cond.methodLink "ClockLots$Text" (65 : Nat) ({ cls := "java/lang/String", name := "indexOf", desc := "(I)I" } : MethodName)) ∈ wB := inB 511 (by decide +kernel) (by decide +kernel)
theorem mw_500 : (Cond.instanceMethod ({ cls := "java/lang/String", name := "indexOf", desc := "(I)I" } : MethodName)) ∈ wB := inB 512 (by decide +kernel) (by decide +kernel)
theorem mw_501 : (Cond.selects "java/lang/String" ({ cls := "java/lang/String", name := "indexOf", desc := "(I)I" } : MethodName) ({ cls := "java/lang/String", name := "indexOf", desc := "(I)I" } : MethodName)) ∈ wB := inB 513 (by decide +kernel) (by decide +kernel)
theorem mw_502 : (Cond.code ({ cls := "java/lang/String", name := "indexOf", desc := "(I)I" } : MethodName) prog_16_method_79_code (2 : Nat) (Option.some FieldType.int)) ∈ wB := inB 514 (by decide +kernel) (by decide +kernel)
theorem mw_503 : (Cond.methodLink "java/lang/String" (633 : Nat) ({ cls := "java/lang/String", name := "indexOf", desc := "(II)I" } : MethodName)) ∈ wB := inB 515 (by decide +kernel) (by decide +kernel)
theorem mw_504 : (Cond.instanceMethod ({ cls := "java/lang/String", name := "indexOf", desc := "(II)I" } : MethodName)) ∈ wB := inB 516 (by decide +kernel) (by decide +kernel)
theorem mw_505 : (Cond.selects "java/lang/String" ({ cls := "java/lang/String", name := "indexOf", desc := "(II)I" } : MethodName) ({ cls := "java/lang/String", name := "indexOf", desc := "(II)I" } : MethodName)) ∈ wB := inB 517 (by decide +kernel) (by decide +kernel)
theorem mw_506 : (Cond.code ({ cls := "java/lang/String", name := "indexOf", desc := "(II)I" } : MethodName) prog_16_method_80_code (3 : Nat) (Option.some FieldType.int)) ∈ wB := inB 518 (by decide +kernel) (by decide +kernel)
theorem mw_507 : (Cond.methodLink "java/lang/String" (492 : Nat) ({ cls := "java/lang/String", name := "isLatin1", desc := "()Z" } : MethodName)) ∈ wB := inB 519 (by decide +kernel) (by decide +kernel)
theorem mw_508 : (Cond.instanceMethod ({ cls := "java/lang/String", name := "isLatin1", desc := "()Z" } : MethodName)) ∈ wB := inB 520 (by decide +kernel) (by decide +kernel)
theorem mw_509 : (Cond.selects "java/lang/String" ({ cls := "java/lang/String", name := "isLatin1", desc := "()Z" } : MethodName) ({ cls := "java/lang/String", name := "isLatin1", desc := "()Z" } : MethodName)) ∈ wB := inB 521 (by decide +kernel) (by decide +kernel)
theorem mw_510 : (Cond.code ({ cls := "java/lang/String", name := "isLatin1", desc := "()Z" } : MethodName) prog_16_method_154_code (1 : Nat) (Option.some FieldType.boolean)) ∈ wB := inB 522 (by decide +kernel) (by decide +kernel)
theorem mw_511 : (Cond.fieldLink "java/lang/String" (38 : Nat) "java/lang/String" "COMPACT_STRINGS" "Z") ∈ wB := inB 523 (by decide +kernel) (by decide +kernel)
theorem mt_512 : (Cond.laysStatic "java/lang/String" "COMPACT_STRINGS" "Z") ∈ lw_tbl := inT 524 (by decide +kernel)
theorem mw_513 : (Cond.methodLink "java/lang/String" (505 : Nat) ({ cls := "java/lang/String", name := "length", desc := "()I" } : MethodName)) ∈ wB := inB 525 (by decide +kernel) (by decide +kernel)
theorem mw_514 : (Cond.instanceMethod ({ cls := "java/lang/String", name := "length", desc := "()I" } : MethodName)) ∈ wB := inB 526 (by decide +kernel) (by decide +kernel)
theorem mw_515 : (Cond.selects "java/lang/String" ({ cls := "java/lang/String", name := "length", desc := "()I" } : MethodName) ({ cls := "java/lang/String", name := "length", desc := "()I" } : MethodName)) ∈ wB := inB 527 (by decide +kernel) (by decide +kernel)
theorem mw_516 : (Cond.code ({ cls := "java/lang/String", name := "length", desc := "()I" } : MethodName) prog_16_method_54_code (1 : Nat) (Option.some FieldType.int)) ∈ wB := inB 528 (by decide +kernel) (by decide +kernel)
theorem mw_517 : (Cond.methodLink "java/lang/String" (335 : Nat) ({ cls := "java/lang/String", name := "coder", desc := "()B" } : MethodName)) ∈ wB := inB 529 (by decide +kernel) (by decide +kernel)
theorem mw_518 : (Cond.instanceMethod ({ cls := "java/lang/String", name := "coder", desc := "()B" } : MethodName)) ∈ wB := inB 530 (by decide +kernel) (by decide +kernel)
theorem mw_519 : (Cond.selects "java/lang/String" ({ cls := "java/lang/String", name := "coder", desc := "()B" } : MethodName) ({ cls := "java/lang/String", name := "coder", desc := "()B" } : MethodName)) ∈ wB := inB 531 (by decide +kernel) (by decide +kernel)
theorem mw_520 : (Cond.code ({ cls := "java/lang/String", name := "coder", desc := "()B" } : MethodName) prog_16_method_152_code (1 : Nat) (Option.some FieldType.byte)) ∈ wB := inB 532 (by decide +kernel) (by decide +kernel)
theorem mw_521 : (Cond.methodLink "java/lang/String" (637 : Nat) ({ cls := "java/lang/StringLatin1", name := "indexOf", desc := "([BIII)I" } : MethodName)) ∈ wB := inB 533 (by decide +kernel) (by decide +kernel)
theorem mw_522 : (Cond.static ({ cls := "java/lang/StringLatin1", name := "indexOf", desc := "([BIII)I" } : MethodName)) ∈ wB := inB 534 (by decide +kernel) (by decide +kernel)
theorem mw_523 : (Cond.code ({ cls := "java/lang/StringLatin1", name := "indexOf", desc := "([BIII)I" } : MethodName) prog_17_method_22_code (4 : Nat) (Option.some FieldType.int)) ∈ wB := inB 535 (by decide +kernel) (by decide +kernel)
theorem mw_524 : (Cond.methodLink "java/lang/StringLatin1" (88 : Nat) ({ cls := "java/lang/StringLatin1", name := "canEncode", desc := "(I)Z" } : MethodName)) ∈ wB := inB 536 (by decide +kernel) (by decide +kernel)
theorem mw_525 : (Cond.static ({ cls := "java/lang/StringLatin1", name := "canEncode", desc := "(I)Z" } : MethodName)) ∈ wB := inB 537 (by decide +kernel) (by decide +kernel)
theorem mw_526 : (Cond.code ({ cls := "java/lang/StringLatin1", name := "canEncode", desc := "(I)Z" } : MethodName) prog_17_method_4_code (1 : Nat) (Option.some FieldType.boolean)) ∈ wB := inB 538 (by decide +kernel) (by decide +kernel)
theorem mw_527 : (Cond.methodLink "java/lang/StringLatin1" (92 : Nat) ({ cls := "java/lang/Math", name := "max", desc := "(II)I" } : MethodName)) ∈ wB := inB 539 (by decide +kernel) (by decide +kernel)
theorem mw_528 : (Cond.methodLink "java/lang/StringLatin1" (38 : Nat) ({ cls := "java/lang/Math", name := "min", desc := "(II)I" } : MethodName)) ∈ wB := inB 540 (by decide +kernel) (by decide +kernel)
theorem mw_529 : (Cond.methodLink "java/lang/StringLatin1" (95 : Nat) ({ cls := "java/lang/StringLatin1", name := "indexOfChar", desc := "([BIII)I" } : MethodName)) ∈ wB := inB 541 (by decide +kernel) (by decide +kernel)
theorem mw_530 : (Cond.static ({ cls := "java/lang/StringLatin1", name := "indexOfChar", desc := "([BIII)I" } : MethodName)) ∈ wB := inB 542 (by decide +kernel) (by decide +kernel)
theorem mw_531 : (Cond.code ({ cls := "java/lang/StringLatin1", name := "indexOfChar", desc := "([BIII)I" } : MethodName) prog_17_method_23_code (6 : Nat) (Option.some FieldType.int)) ∈ wB := inB 543 (by decide +kernel) (by decide +kernel)
theorem mw_532 : (Cond.methodLink "java/lang/String" (640 : Nat) ({ cls := "java/lang/StringUTF16", name := "indexOf", desc := "([BIII)I" } : MethodName)) ∈ wB := inB 544 (by decide +kernel) (by decide +kernel)
theorem mw_533 : (Cond.static ({ cls := "java/lang/StringUTF16", name := "indexOf", desc := "([BIII)I" } : MethodName)) ∈ wB := inB 545 (by decide +kernel) (by decide +kernel)
theorem mw_534 : (Cond.code ({ cls := "java/lang/StringUTF16", name := "indexOf", desc := "([BIII)I" } : MethodName) prog_18_method_40_code (4 : Nat) (Option.some FieldType.int)) ∈ wB := inB 546 (by decide +kernel) (by decide +kernel)
theorem mw_535 : (Cond.methodLink "java/lang/StringUTF16" (224 : Nat) ({ cls := "java/lang/Math", name := "max", desc := "(II)I" } : MethodName)) ∈ wB := inB 547 (by decide +kernel) (by decide +kernel)
theorem mw_536 : (Cond.methodLink "java/lang/StringUTF16" (183 : Nat) ({ cls := "java/lang/Math", name := "min", desc := "(II)I" } : MethodName)) ∈ wB := inB 548 (by decide +kernel) (by decide +kernel)
theorem mw_537 : (Cond.constant "java/lang/StringUTF16" (227 : Nat) (65536 : Int32)) ∈ wB := inB 549 (by decide +kernel) (by decide +kernel)
theorem mw_538 : (Cond.methodLink "java/lang/StringUTF16" (228 : Nat) ({ cls := "java/lang/StringUTF16", name := "indexOfChar", desc := "([BIII)I" } : MethodName)) ∈ wB := inB 550 (by decide +kernel) (by decide +kernel)
theorem mw_539 : (Cond.static ({ cls := "java/lang/StringUTF16", name := "indexOfChar", desc := "([BIII)I" } : MethodName)) ∈ wB := inB 551 (by decide +kernel) (by decide +kernel)
theorem mw_540 : (Cond.code ({ cls := "java/lang/StringUTF16", name := "indexOfChar", desc := "([BIII)I" } : MethodName) prog_18_method_47_code (4 : Nat) (Option.some FieldType.int)) ∈ wB := inB 552 (by decide +kernel) (by decide +kernel)
theorem mw_541 : (Cond.methodLink "java/lang/StringUTF16" (96 : Nat) ({ cls := "java/lang/StringUTF16", name := "checkBoundsBeginEnd", desc := "(II[B)V" } : MethodName)) ∈ wB := inB 553 (by decide +kernel) (by decide +kernel)
theorem mw_542 : (Cond.static ({ cls := "java/lang/StringUTF16", name := "checkBoundsBeginEnd", desc := "(II[B)V" } : MethodName)) ∈ wB := inB 554 (by decide +kernel) (by decide +kernel)
theorem mw_543 : (Cond.code ({ cls := "java/lang/StringUTF16", name := "checkBoundsBeginEnd", desc := "(II[B)V" } : MethodName) prog_18_method_93_code (3 : Nat) (Option.none : Option FieldType)) ∈ wB := inB 555 (by decide +kernel) (by decide +kernel)
theorem mw_544 : (Cond.methodLink "java/lang/StringUTF16" (48 : Nat) ({ cls := "java/lang/StringUTF16", name := "length", desc := "([B)I" } : MethodName)) ∈ wB := inB 556 (by decide +kernel) (by decide +kernel)
theorem mw_545 : (Cond.static ({ cls := "java/lang/StringUTF16", name := "length", desc := "([B)I" } : MethodName)) ∈ wB := inB 557 (by decide +kernel) (by decide +kernel)
theorem mw_546 : (Cond.code ({ cls := "java/lang/StringUTF16", name := "length", desc := "([B)I" } : MethodName) prog_18_method_6_code (1 : Nat) (Option.some FieldType.int)) ∈ wB := inB 558 (by decide +kernel) (by decide +kernel)
theorem mw_547 : (Cond.methodLink "java/lang/StringUTF16" (241 : Nat) ({ cls := "java/lang/String", name := "checkBoundsBeginEnd", desc := "(III)V" } : MethodName)) ∈ wB := inB 559 (by decide +kernel) (by decide +kernel)
theorem mw_548 : (Cond.static ({ cls := "java/lang/String", name := "checkBoundsBeginEnd", desc := "(III)V" } : MethodName)) ∈ wB := inB 560 (by decide +kernel) (by decide +kernel)
theorem mw_549 : (Cond.code ({ cls := "java/lang/String", name := "checkBoundsBeginEnd", desc := "(III)V" } : MethodName) prog_16_method_158_code (3 : Nat) (Option.none : Option FieldType)) ∈ wB := inB 561 (by decide +kernel) (by decide +kernel)
theorem mw_550 : (Cond.fieldLink "java/lang/String" (1053 : Nat) "jdk/internal/util/Preconditions" "SIOOBE_FORMATTER" "Ljava/util/function/BiFunction;") ∈ wB := inB 562 (by decide +kernel) (by decide +kernel)
theorem mt_551 : (Cond.laysStatic "jdk/internal/util/Preconditions" "SIOOBE_FORMATTER" "Ljava/util/function/BiFunction;") ∈ lw_tbl := inT 563 (by decide +kernel)
theorem mw_552 : (Cond.methodLink "java/lang/String" (1062 : Nat) ({ cls := "jdk/internal/util/Preconditions", name := "checkFromToIndex", desc := "(IIILjava/util/function/BiFunction;)I" } : MethodName)) ∈ wB := inB 564 (by decide +kernel) (by decide +kernel)
theorem mw_553 : (Cond.static ({ cls := "jdk/internal/util/Preconditions", name := "checkFromToIndex", desc := "(IIILjava/util/function/BiFunction;)I" } : MethodName)) ∈ wB := inB 565 (by decide +kernel) (by decide +kernel)
theorem mw_554 : (Cond.code ({ cls := "jdk/internal/util/Preconditions", name := "checkFromToIndex", desc := "(IIILjava/util/function/BiFunction;)I" } : MethodName) prog_21_method_12_code (4 : Nat) (Option.some FieldType.int)) ∈ wB := inB 566 (by decide +kernel) (by decide +kernel)
theorem mw_555 : (Cond.methodLink "java/lang/StringUTF16" (244 : Nat) ({ cls := "java/lang/StringUTF16", name := "indexOfCharUnsafe", desc := "([BIII)I" } : MethodName)) ∈ wB := inB 567 (by decide +kernel) (by decide +kernel)
theorem mw_556 : (Cond.static ({ cls := "java/lang/StringUTF16", name := "indexOfCharUnsafe", desc := "([BIII)I" } : MethodName)) ∈ wB := inB 568 (by decide +kernel) (by decide +kernel)
theorem mw_557 : (Cond.code ({ cls := "java/lang/StringUTF16", name := "indexOfCharUnsafe", desc := "([BIII)I" } : MethodName) prog_18_method_48_code (5 : Nat) (Option.some FieldType.int)) ∈ wB := inB 569 (by decide +kernel) (by decide +kernel)
theorem mw_558 : (Cond.methodLink "java/lang/StringUTF16" (71 : Nat) ({ cls := "java/lang/StringUTF16", name := "getChar", desc := "([BI)C" } : MethodName)) ∈ wB := inB 570 (by decide +kernel) (by decide +kernel)
theorem mw_559 : (Cond.static ({ cls := "java/lang/StringUTF16", name := "getChar", desc := "([BI)C" } : MethodName)) ∈ wB := inB 571 (by decide +kernel) (by decide +kernel)
theorem mw_560 : (Cond.code ({ cls := "java/lang/StringUTF16", name := "getChar", desc := "([BI)C" } : MethodName) prog_18_method_5_code (2 : Nat) (Option.some FieldType.char)) ∈ wB := inB 572 (by decide +kernel) (by decide +kernel)
theorem mw_561 : (Cond.fieldLink "java/lang/StringUTF16" (44 : Nat) "java/lang/StringUTF16" "$assertionsDisabled" "Z") ∈ wB := inB 573 (by decide +kernel) (by decide +kernel)
theorem mt_562 : (Cond.laysStatic "java/lang/StringUTF16" "$assertionsDisabled" "Z") ∈ lw_tbl := inT 574 (by decide +kernel)
theorem mw_563 : (Cond.fieldLink "java/lang/StringUTF16" (59 : Nat) "java/lang/StringUTF16" "HI_BYTE_SHIFT" "I") ∈ wB := inB 575 (by decide +kernel) (by decide +kernel)
theorem mt_564 : (Cond.laysStatic "java/lang/StringUTF16" "HI_BYTE_SHIFT" "I") ∈ lw_tbl := inT 576 (by decide +kernel)
theorem mw_565 : (Cond.fieldLink "java/lang/StringUTF16" (63 : Nat) "java/lang/StringUTF16" "LO_BYTE_SHIFT" "I") ∈ wB := inB 577 (by decide +kernel) (by decide +kernel)
theorem mt_566 : (Cond.laysStatic "java/lang/StringUTF16" "LO_BYTE_SHIFT" "I") ∈ lw_tbl := inT 578 (by decide +kernel)
theorem mw_567 : (Cond.methodLink "java/lang/StringUTF16" (232 : Nat) ({ cls := "java/lang/StringUTF16", name := "indexOfSupplementary", desc := "([BIII)I" } : MethodName)) ∈ wB := inB 579 (by decide +kernel) (by decide +kernel)
theorem mw_568 : (Cond.static ({ cls := "java/lang/StringUTF16", name := "indexOfSupplementary", desc := "([BIII)I" } : MethodName)) ∈ wB := inB 580 (by decide +kernel) (by decide +kernel)
theorem mw_569 : (Cond.code ({ cls := "java/lang/StringUTF16", name := "indexOfSupplementary", desc := "([BIII)I" } : MethodName) prog_18_method_49_code (7 : Nat) (Option.some FieldType.int)) ∈ wB := inB 581 (by decide +kernel) (by decide +kernel)
theorem mw_570 : (Cond.methodLink "java/lang/StringUTF16" (164 : Nat) ({ cls := "java/lang/Character", name := "isValidCodePoint", desc := "(I)Z" } : MethodName)) ∈ wB := inB 582 (by decide +kernel) (by decide +kernel)
theorem mw_571 : (Cond.static ({ cls := "java/lang/Character", name := "isValidCodePoint", desc := "(I)Z" } : MethodName)) ∈ wB := inB 583 (by decide +kernel) (by decide +kernel)
theorem mw_572 : (Cond.code ({ cls := "java/lang/Character", name := "isValidCodePoint", desc := "(I)Z" } : MethodName) prog_9_method_11_code (2 : Nat) (Option.some FieldType.boolean)) ∈ wB := inB 584 (by decide +kernel) (by decide +kernel)
theorem mw_573 : (Cond.methodLink "java/lang/StringUTF16" (157 : Nat) ({ cls := "java/lang/Character", name := "highSurrogate", desc := "(I)C" } : MethodName)) ∈ wB := inB 585 (by decide +kernel) (by decide +kernel)
theorem mw_574 : (Cond.static ({ cls := "java/lang/Character", name := "highSurrogate", desc := "(I)C" } : MethodName)) ∈ wB := inB 586 (by decide +kernel) (by decide +kernel)
theorem mw_575 : (Cond.code ({ cls := "java/lang/Character", name := "highSurrogate", desc := "(I)C" } : MethodName) prog_9_method_28_code (1 : Nat) (Option.some FieldType.char)) ∈ wB := inB 587 (by decide +kernel) (by decide +kernel)
theorem mw_576 : (Cond.constant "java/lang/Character" (110 : Nat) (55232 : Int32)) ∈ wB := inB 588 (by decide +kernel) (by decide +kernel)
theorem mw_577 : (Cond.methodLink "java/lang/StringUTF16" (161 : Nat) ({ cls := "java/lang/Character", name := "lowSurrogate", desc := "(I)C" } : MethodName)) ∈ wB := inB 589 (by decide +kernel) (by decide +kernel)
theorem mw_578 : (Cond.static ({ cls := "java/lang/Character", name := "lowSurrogate", desc := "(I)C" } : MethodName)) ∈ wB := inB 590 (by decide +kernel) (by decide +kernel)
theorem mw_579 : (Cond.code ({ cls := "java/lang/Character", name := "lowSurrogate", desc := "(I)C" } : MethodName) prog_9_method_29_code (1 : Nat) (Option.some FieldType.char)) ∈ wB := inB 591 (by decide +kernel) (by decide +kernel)
theorem mw_580 : (Cond.constant "java/lang/Character" (76 : Nat) (56320 : Int32)) ∈ wB := inB 592 (by decide +kernel) (by decide +kernel)
theorem mw_581 : (Cond.methodLink "ClockLots$Text" (23 : Nat) ({ cls := "ClockLots$Text", name := "digitsOf", desc := "(C)I" } : MethodName)) ∈ wB := inB 593 (by decide +kernel) (by decide +kernel)
theorem mw_582 : (Cond.static ({ cls := "ClockLots$Text", name := "digitsOf", desc := "(C)I" } : MethodName)) ∈ wB := inB 594 (by decide +kernel) (by decide +kernel)
theorem mw_583 : (Cond.code ({ cls := "ClockLots$Text", name := "digitsOf", desc := "(C)I" } : MethodName) prog_6_method_10_code (1 : Nat) (Option.some FieldType.int)) ∈ wB := inB 595 (by decide +kernel) (by decide +kernel)
theorem mw_584 : (Cond.methodLink "ClockLots$Text" (71 : Nat) ({ cls := "ClockLots$Text", name := "greatestDigits", desc := "(C)Ljava/lang/String;" } : MethodName)) ∈ wB := inB 596 (by decide +kernel) (by decide +kernel)
theorem mw_585 : (Cond.static ({ cls := "ClockLots$Text", name := "greatestDigits", desc := "(C)Ljava/lang/String;" } : MethodName)) ∈ wB := inB 597 (by decide +kernel) (by decide +kernel)
theorem mw_586 : (Cond.code ({ cls := "ClockLots$Text", name := "greatestDigits", desc := "(C)Ljava/lang/String;" } : MethodName) prog_6_method_13_code (1 : Nat) (Option.some (FieldType.object "java/lang/String"))) ∈ wB := inB 598 (by decide +kernel) (by decide +kernel)
theorem mt_587 : (Cond.stringRef "ClockLots$Text" (97 : Nat) "299") ∈ lw_tbl := inT 599 (by decide +kernel)
theorem mt_588 : (Cond.stringRef "ClockLots$Text" (99 : Nat) "999") ∈ lw_tbl := inT 600 (by decide +kernel)
theorem mt_589 : (Cond.stringRef "ClockLots$Text" (101 : Nat) "52999") ∈ lw_tbl := inT 601 (by decide +kernel)
theorem mt_590 : (Cond.stringRef "ClockLots$Text" (103 : Nat) "529") ∈ lw_tbl := inT 602 (by decide +kernel)
theorem mt_591 : (Cond.stringRef "ClockLots$Text" (105 : Nat) "5") ∈ lw_tbl := inT 603 (by decide +kernel)
theorem mt_592 : (Cond.stringRef "ClockLots$Text" (95 : Nat) "") ∈ lw_tbl := inT 604 (by decide +kernel)
theorem mw_593 : (Cond.methodLink "ClockLots$Text" (75 : Nat) ({ cls := "java/lang/String", name := "length", desc := "()I" } : MethodName)) ∈ wB := inB 605 (by decide +kernel) (by decide +kernel)
theorem mw_594 : (Cond.methodLink "ClockLots$Text" (27 : Nat) ({ cls := "ClockLots$Text", name := "allows", desc := "(CIC)Z" } : MethodName)) ∈ wB := inB 606 (by decide +kernel) (by decide +kernel)
theorem mw_595 : (Cond.static ({ cls := "ClockLots$Text", name := "allows", desc := "(CIC)Z" } : MethodName)) ∈ wB := inB 607 (by decide +kernel) (by decide +kernel)
theorem mw_596 : (Cond.code ({ cls := "ClockLots$Text", name := "allows", desc := "(CIC)Z" } : MethodName) prog_6_method_11_code (5 : Nat) (Option.some FieldType.boolean)) ∈ wB := inB 608 (by decide +kernel) (by decide +kernel)
theorem mw_597 : (Cond.methodLink "ClockLots$Text" (78 : Nat) ({ cls := "ClockLots$Text", name := "leastDigits", desc := "(C)Ljava/lang/String;" } : MethodName)) ∈ wB := inB 609 (by decide +kernel) (by decide +kernel)
theorem mw_598 : (Cond.static ({ cls := "ClockLots$Text", name := "leastDigits", desc := "(C)Ljava/lang/String;" } : MethodName)) ∈ wB := inB 610 (by decide +kernel) (by decide +kernel)
theorem mw_599 : (Cond.code ({ cls := "ClockLots$Text", name := "leastDigits", desc := "(C)Ljava/lang/String;" } : MethodName) prog_6_method_12_code (1 : Nat) (Option.some (FieldType.object "java/lang/String"))) ∈ wB := inB 611 (by decide +kernel) (by decide +kernel)
theorem mt_600 : (Cond.stringRef "ClockLots$Text" (85 : Nat) "011") ∈ lw_tbl := inT 612 (by decide +kernel)
theorem mt_601 : (Cond.stringRef "ClockLots$Text" (87 : Nat) "001") ∈ lw_tbl := inT 613 (by decide +kernel)
theorem mt_602 : (Cond.stringRef "ClockLots$Text" (89 : Nat) "00000") ∈ lw_tbl := inT 614 (by decide +kernel)
theorem mt_603 : (Cond.stringRef "ClockLots$Text" (91 : Nat) "000") ∈ lw_tbl := inT 615 (by decide +kernel)
theorem mt_604 : (Cond.stringRef "ClockLots$Text" (93 : Nat) "0") ∈ lw_tbl := inT 616 (by decide +kernel)
theorem mw_605 : (Cond.methodLink "ClockLots$Text" (81 : Nat) ({ cls := "java/lang/String", name := "charAt", desc := "(I)C" } : MethodName)) ∈ wB := inB 617 (by decide +kernel) (by decide +kernel)
theorem mw_606 : (Cond.instanceMethod ({ cls := "java/lang/String", name := "charAt", desc := "(I)C" } : MethodName)) ∈ wB := inB 618 (by decide +kernel) (by decide +kernel)
theorem mw_607 : (Cond.selects "java/lang/String" ({ cls := "java/lang/String", name := "charAt", desc := "(I)C" } : MethodName) ({ cls := "java/lang/String", name := "charAt", desc := "(I)C" } : MethodName)) ∈ wB := inB 619 (by decide +kernel) (by decide +kernel)
theorem mw_608 : (Cond.code ({ cls := "java/lang/String", name := "charAt", desc := "(I)C" } : MethodName) prog_16_method_56_code (2 : Nat) (Option.some FieldType.char)) ∈ wB := inB 620 (by decide +kernel) (by decide +kernel)
theorem mw_609 : (Cond.methodLink "java/lang/String" (495 : Nat) ({ cls := "java/lang/StringLatin1", name := "charAt", desc := "([BI)C" } : MethodName)) ∈ wB := inB 621 (by decide +kernel) (by decide +kernel)
theorem mw_610 : (Cond.static ({ cls := "java/lang/StringLatin1", name := "charAt", desc := "([BI)C" } : MethodName)) ∈ wB := inB 622 (by decide +kernel) (by decide +kernel)
theorem mw_611 : (Cond.code ({ cls := "java/lang/StringLatin1", name := "charAt", desc := "([BI)C" } : MethodName) prog_17_method_2_code (2 : Nat) (Option.some FieldType.char)) ∈ wB := inB 623 (by decide +kernel) (by decide +kernel)
theorem mw_612 : (Cond.methodLink "java/lang/StringLatin1" (9 : Nat) ({ cls := "java/lang/String", name := "checkIndex", desc := "(II)V" } : MethodName)) ∈ wB := inB 624 (by decide +kernel) (by decide +kernel)
theorem mw_613 : (Cond.static ({ cls := "java/lang/String", name := "checkIndex", desc := "(II)V" } : MethodName)) ∈ wB := inB 625 (by decide +kernel) (by decide +kernel)
theorem mw_614 : (Cond.code ({ cls := "java/lang/String", name := "checkIndex", desc := "(II)V" } : MethodName) prog_16_method_155_code (2 : Nat) (Option.none : Option FieldType)) ∈ wB := inB 626 (by decide +kernel) (by decide +kernel)
theorem mw_615 : (Cond.methodLink "java/lang/String" (1059 : Nat) ({ cls := "jdk/internal/util/Preconditions", name := "checkIndex", desc := "(IILjava/util/function/BiFunction;)I" } : MethodName)) ∈ wB := inB 627 (by decide +kernel) (by decide +kernel)
theorem mw_616 : (Cond.static ({ cls := "jdk/internal/util/Preconditions", name := "checkIndex", desc := "(IILjava/util/function/BiFunction;)I" } : MethodName)) ∈ wB := inB 628 (by decide +kernel) (by decide +kernel)
theorem mw_617 : (Cond.code ({ cls := "jdk/internal/util/Preconditions", name := "checkIndex", desc := "(IILjava/util/function/BiFunction;)I" } : MethodName) prog_21_method_11_code (3 : Nat) (Option.some FieldType.int)) ∈ wB := inB 629 (by decide +kernel) (by decide +kernel)
theorem mw_618 : (Cond.methodLink "java/lang/String" (498 : Nat) ({ cls := "java/lang/StringUTF16", name := "charAt", desc := "([BI)C" } : MethodName)) ∈ wB := inB 630 (by decide +kernel) (by decide +kernel)
theorem mw_619 : (Cond.static ({ cls := "java/lang/StringUTF16", name := "charAt", desc := "([BI)C" } : MethodName)) ∈ wB := inB 631 (by decide +kernel) (by decide +kernel)
theorem mw_620 : (Cond.code ({ cls := "java/lang/StringUTF16", name := "charAt", desc := "([BI)C" } : MethodName) prog_18_method_83_code (2 : Nat) (Option.some FieldType.char)) ∈ wB := inB 632 (by decide +kernel) (by decide +kernel)
theorem mw_621 : (Cond.methodLink "java/lang/StringUTF16" (67 : Nat) ({ cls := "java/lang/StringUTF16", name := "checkIndex", desc := "(I[B)V" } : MethodName)) ∈ wB := inB 633 (by decide +kernel) (by decide +kernel)
theorem mw_622 : (Cond.static ({ cls := "java/lang/StringUTF16", name := "checkIndex", desc := "(I[B)V" } : MethodName)) ∈ wB := inB 634 (by decide +kernel) (by decide +kernel)
theorem mw_623 : (Cond.code ({ cls := "java/lang/StringUTF16", name := "checkIndex", desc := "(I[B)V" } : MethodName) prog_18_method_91_code (2 : Nat) (Option.none : Option FieldType)) ∈ wB := inB 635 (by decide +kernel) (by decide +kernel)
theorem mw_624 : (Cond.methodLink "java/lang/StringUTF16" (414 : Nat) ({ cls := "java/lang/String", name := "checkIndex", desc := "(II)V" } : MethodName)) ∈ wB := inB 636 (by decide +kernel) (by decide +kernel)
theorem mt_625 : (Cond.stringRef "ClockLots" (79 : Nat) "the text is not an auction") ∈ lw_tbl := inT 637 (by decide +kernel)
theorem mw_626 : (Cond.methodLink "ClockLots" (81 : Nat) ({ cls := "ClockLots$Auction", name := "renew", desc := "()V" } : MethodName)) ∈ wB := inB 638 (by decide +kernel) (by decide +kernel)
theorem mw_627 : (Cond.methodLink "ClockLots" (84 : Nat) ({ cls := "ClockLots$History", name := "forgetAll", desc := "()V" } : MethodName)) ∈ wB := inB 639 (by decide +kernel) (by decide +kernel)
theorem mw_628 : (Cond.instanceMethod ({ cls := "ClockLots$History", name := "forgetAll", desc := "()V" } : MethodName)) ∈ wB := inB 640 (by decide +kernel) (by decide +kernel)
theorem mw_629 : (Cond.selects "ClockLots$History" ({ cls := "ClockLots$History", name := "forgetAll", desc := "()V" } : MethodName) ({ cls := "ClockLots$History", name := "forgetAll", desc := "()V" } : MethodName)) ∈ wB := inB 641 (by decide +kernel) (by decide +kernel)
theorem mw_630 : (Cond.code ({ cls := "ClockLots$History", name := "forgetAll", desc := "()V" } : MethodName) prog_4_method_4_code (1 : Nat) (Option.none : Option FieldType)) ∈ wB := inB 642 (by decide +kernel) (by decide +kernel)
theorem mw_631 : (Cond.methodLink "ClockLots" (87 : Nat) ({ cls := "ClockLots$Text", name := "doCommands", desc := "(LClockLots$Auction;)I" } : MethodName)) ∈ wB := inB 643 (by decide +kernel) (by decide +kernel)
theorem mw_632 : (Cond.instanceMethod ({ cls := "ClockLots$Text", name := "doCommands", desc := "(LClockLots$Auction;)I" } : MethodName)) ∈ wB := inB 644 (by decide +kernel) (by decide +kernel)
theorem mw_633 : (Cond.selects "ClockLots$Text" ({ cls := "ClockLots$Text", name := "doCommands", desc := "(LClockLots$Auction;)I" } : MethodName) ({ cls := "ClockLots$Text", name := "doCommands", desc := "(LClockLots$Auction;)I" } : MethodName)) ∈ wB := inB 645 (by decide +kernel) (by decide +kernel)
theorem mw_634 : (Cond.code ({ cls := "ClockLots$Text", name := "doCommands", desc := "(LClockLots$Auction;)I" } : MethodName) prog_6_method_6_code (4 : Nat) (Option.some FieldType.int)) ∈ wB := inB 646 (by decide +kernel) (by decide +kernel)
theorem mw_635 : (Cond.methodLink "ClockLots$Text" (31 : Nat) ({ cls := "ClockLots$Text", name := "doCommand", desc := "(LClockLots$Auction;I)Z" } : MethodName)) ∈ wB := inB 647 (by decide +kernel) (by decide +kernel)
theorem mt_636 : (Cond.privateMethod ({ cls := "ClockLots$Text", name := "doCommand", desc := "(LClockLots$Auction;I)Z" } : MethodName)) ∈ lw_tbl := inT 648 (by decide +kernel)
theorem mw_637 : (Cond.instanceMethod ({ cls := "ClockLots$Text", name := "doCommand", desc := "(LClockLots$Auction;I)Z" } : MethodName)) ∈ wB := inB 649 (by decide +kernel) (by decide +kernel)
theorem mw_638 : (Cond.code ({ cls := "ClockLots$Text", name := "doCommand", desc := "(LClockLots$Auction;I)Z" } : MethodName) prog_6_method_7_code (3 : Nat) (Option.some FieldType.boolean)) ∈ wB := inB 650 (by decide +kernel) (by decide +kernel)
theorem mw_639 : (Cond.methodLink "ClockLots$Text" (35 : Nat) ({ cls := "ClockLots$Text", name := "number", desc := "(II)I" } : MethodName)) ∈ wB := inB 651 (by decide +kernel) (by decide +kernel)
theorem mt_640 : (Cond.privateMethod ({ cls := "ClockLots$Text", name := "number", desc := "(II)I" } : MethodName)) ∈ lw_tbl := inT 652 (by decide +kernel)
theorem mw_641 : (Cond.instanceMethod ({ cls := "ClockLots$Text", name := "number", desc := "(II)I" } : MethodName)) ∈ wB := inB 653 (by decide +kernel) (by decide +kernel)
theorem mw_642 : (Cond.code ({ cls := "ClockLots$Text", name := "number", desc := "(II)I" } : MethodName) prog_6_method_8_code (5 : Nat) (Option.some FieldType.int)) ∈ wB := inB 654 (by decide +kernel) (by decide +kernel)
theorem mw_643 : (Cond.methodLink "ClockLots$Text" (39 : Nat) ({ cls := "ClockLots$Auction", name := "tryOffer", desc := "(III)Z" } : MethodName)) ∈ wB := inB 655 (by decide +kernel) (by decide +kernel)
theorem mw_644 : (Cond.instanceMethod ({ cls := "ClockLots$Auction", name := "tryOffer", desc := "(III)Z" } : MethodName)) ∈ wB := inB 656 (by decide +kernel) (by decide +kernel)
theorem mw_645 : (Cond.selects "ClockLots$Auction" ({ cls := "ClockLots$Auction", name := "tryOffer", desc := "(III)Z" } : MethodName) ({ cls := "ClockLots$Auction", name := "tryOffer", desc := "(III)Z" } : MethodName)) ∈ wB := inB 657 (by decide +kernel) (by decide +kernel)
theorem mw_646 : (Cond.code ({ cls := "ClockLots$Auction", name := "tryOffer", desc := "(III)Z" } : MethodName) prog_3_method_40_code (4 : Nat) (Option.some FieldType.boolean)) ∈ wB := inB 658 (by decide +kernel) (by decide +kernel)
theorem mw_647 : (Cond.methodLink "ClockLots$Auction" (131 : Nat) ({ cls := "ClockLots$Auction", name := "whyNotOffer", desc := "(III)I" } : MethodName)) ∈ wB := inB 659 (by decide +kernel) (by decide +kernel)
theorem mw_648 : (Cond.instanceMethod ({ cls := "ClockLots$Auction", name := "whyNotOffer", desc := "(III)I" } : MethodName)) ∈ wB := inB 660 (by decide +kernel) (by decide +kernel)
theorem mw_649 : (Cond.selects "ClockLots$Auction" ({ cls := "ClockLots$Auction", name := "whyNotOffer", desc := "(III)I" } : MethodName) ({ cls := "ClockLots$Auction", name := "whyNotOffer", desc := "(III)I" } : MethodName)) ∈ wB := inB 661 (by decide +kernel) (by decide +kernel)
theorem mw_650 : (Cond.code ({ cls := "ClockLots$Auction", name := "whyNotOffer", desc := "(III)I" } : MethodName) prog_3_method_19_code (4 : Nat) (Option.some FieldType.int)) ∈ wB := inB 662 (by decide +kernel) (by decide +kernel)
theorem mw_651 : (Cond.methodLink "ClockLots$Auction" (134 : Nat) ({ cls := "ClockLots$Auction", name := "changeOffer", desc := "(III)V" } : MethodName)) ∈ wB := inB 663 (by decide +kernel) (by decide +kernel)
theorem mw_652 : (Cond.instanceMethod ({ cls := "ClockLots$Auction", name := "changeOffer", desc := "(III)V" } : MethodName)) ∈ wB := inB 664 (by decide +kernel) (by decide +kernel)
theorem mw_653 : (Cond.selects "ClockLots$Auction" ({ cls := "ClockLots$Auction", name := "changeOffer", desc := "(III)V" } : MethodName) ({ cls := "ClockLots$Auction", name := "changeOffer", desc := "(III)V" } : MethodName)) ∈ wB := inB 665 (by decide +kernel) (by decide +kernel)
theorem mw_654 : (Cond.code ({ cls := "ClockLots$Auction", name := "changeOffer", desc := "(III)V" } : MethodName) prog_3_method_30_code (4 : Nat) (Option.none : Option FieldType)) ∈ wB := inB 666 (by decide +kernel) (by decide +kernel)
theorem mw_655 : (Cond.methodLink "ClockLots$Text" (45 : Nat) ({ cls := "ClockLots$Auction", name := "tryJoin", desc := "(II)Z" } : MethodName)) ∈ wB := inB 667 (by decide +kernel) (by decide +kernel)
theorem mw_656 : (Cond.methodLink "ClockLots$Text" (49 : Nat) ({ cls := "ClockLots$Auction", name := "tryValue", desc := "(III)Z" } : MethodName)) ∈ wB := inB 668 (by decide +kernel) (by decide +kernel)
theorem mw_657 : (Cond.methodLink "ClockLots$Text" (52 : Nat) ({ cls := "ClockLots$Auction", name := "tryAsk", desc := "(III)Z" } : MethodName)) ∈ wB := inB 669 (by decide +kernel) (by decide +kernel)
theorem mw_658 : (Cond.methodLink "ClockLots$Text" (55 : Nat) ({ cls := "ClockLots$Auction", name := "tryBid", desc := "(I)Z" } : MethodName)) ∈ wB := inB 670 (by decide +kernel) (by decide +kernel)
theorem mw_659 : (Cond.methodLink "ClockLots$Text" (59 : Nat) ({ cls := "ClockLots$Auction", name := "tryClose", desc := "()Z" } : MethodName)) ∈ wB := inB 671 (by decide +kernel) (by decide +kernel)
theorem mw_660 : (Cond.methodLink "ClockLotsLaw" (119 : Nat) ({ cls := "ClockLotsLaw", name := "tryAbout", desc := "(LClockLots;I)I" } : MethodName)) ∈ wB := inB 672 (by decide +kernel) (by decide +kernel)
theorem mw_661 : (Cond.static ({ cls := "ClockLotsLaw", name := "tryAbout", desc := "(LClockLots;I)I" } : MethodName)) ∈ wB := inB 673 (by decide +kernel) (by decide +kernel)
theorem mw_662 : (Cond.codeWith ({ cls := "ClockLotsLaw", name := "tryAbout", desc := "(LClockLots;I)I" } : MethodName) method_7_code (3 : Nat) (Option.some FieldType.int) [((0 : Nat), (5 : Nat), (6 : Nat), (16 : Nat))]) ∈ wB := inB 674 (by decide +kernel) (by decide +kernel)
theorem mw_663 : (Cond.methodLink "ClockLotsLaw" (38 : Nat) ({ cls := "ClockLots", name := "about", desc := "(I)I" } : MethodName)) ∈ wB := inB 675 (by decide +kernel) (by decide +kernel)
theorem mw_664 : (Cond.instanceMethod ({ cls := "ClockLots", name := "about", desc := "(I)I" } : MethodName)) ∈ wB := inB 676 (by decide +kernel) (by decide +kernel)
theorem mw_665 : (Cond.selects "ClockLots" ({ cls := "ClockLots", name := "about", desc := "(I)I" } : MethodName) ({ cls := "ClockLots", name := "about", desc := "(I)I" } : MethodName)) ∈ wB := inB 677 (by decide +kernel) (by decide +kernel)
theorem mw_666 : (Cond.code ({ cls := "ClockLots", name := "about", desc := "(I)I" } : MethodName) prog_1_method_6_code (2 : Nat) (Option.some FieldType.int)) ∈ wB := inB 678 (by decide +kernel) (by decide +kernel)
theorem mw_667 : (Cond.methodLink "ClockLots" (102 : Nat) ({ cls := "ClockLots$Auction", name := "scarceKinds", desc := "()I" } : MethodName)) ∈ wB := inB 679 (by decide +kernel) (by decide +kernel)
theorem mw_668 : (Cond.instanceMethod ({ cls := "ClockLots$Auction", name := "scarceKinds", desc := "()I" } : MethodName)) ∈ wB := inB 680 (by decide +kernel) (by decide +kernel)
theorem mw_669 : (Cond.selects "ClockLots$Auction" ({ cls := "ClockLots$Auction", name := "scarceKinds", desc := "()I" } : MethodName) ({ cls := "ClockLots$Auction", name := "scarceKinds", desc := "()I" } : MethodName)) ∈ wB := inB 681 (by decide +kernel) (by decide +kernel)
theorem mw_670 : (Cond.code ({ cls := "ClockLots$Auction", name := "scarceKinds", desc := "()I" } : MethodName) prog_3_method_7_code (3 : Nat) (Option.some FieldType.int)) ∈ wB := inB 682 (by decide +kernel) (by decide +kernel)
theorem mw_671 : (Cond.methodLink "ClockLots" (105 : Nat) ({ cls := "ClockLots$Auction", name := "allPacks", desc := "()I" } : MethodName)) ∈ wB := inB 683 (by decide +kernel) (by decide +kernel)
theorem mw_672 : (Cond.instanceMethod ({ cls := "ClockLots$Auction", name := "allPacks", desc := "()I" } : MethodName)) ∈ wB := inB 684 (by decide +kernel) (by decide +kernel)
theorem mw_673 : (Cond.selects "ClockLots$Auction" ({ cls := "ClockLots$Auction", name := "allPacks", desc := "()I" } : MethodName) ({ cls := "ClockLots$Auction", name := "allPacks", desc := "()I" } : MethodName)) ∈ wB := inB 685 (by decide +kernel) (by decide +kernel)
theorem mw_674 : (Cond.code ({ cls := "ClockLots$Auction", name := "allPacks", desc := "()I" } : MethodName) prog_3_method_10_code (3 : Nat) (Option.some FieldType.int)) ∈ wB := inB 686 (by decide +kernel) (by decide +kernel)
theorem mw_675 : (Cond.methodLink "ClockLots" (108 : Nat) ({ cls := "ClockLots$Auction", name := "allCosts", desc := "()I" } : MethodName)) ∈ wB := inB 687 (by decide +kernel) (by decide +kernel)
theorem mw_676 : (Cond.instanceMethod ({ cls := "ClockLots$Auction", name := "allCosts", desc := "()I" } : MethodName)) ∈ wB := inB 688 (by decide +kernel) (by decide +kernel)
theorem mw_677 : (Cond.selects "ClockLots$Auction" ({ cls := "ClockLots$Auction", name := "allCosts", desc := "()I" } : MethodName) ({ cls := "ClockLots$Auction", name := "allCosts", desc := "()I" } : MethodName)) ∈ wB := inB 689 (by decide +kernel) (by decide +kernel)
theorem mw_678 : (Cond.code ({ cls := "ClockLots$Auction", name := "allCosts", desc := "()I" } : MethodName) prog_3_method_9_code (3 : Nat) (Option.some FieldType.int)) ∈ wB := inB 690 (by decide +kernel) (by decide +kernel)
theorem mt_679 : (Cond.stringRef "ClockLots" (111 : Nat) "what is not 0 to 5") ∈ lw_tbl := inT 691 (by decide +kernel)
theorem mw_680 : (Cond.methodLink "ClockLotsLaw" (122 : Nat) ({ cls := "ClockLotsLaw", name := "tryKind", desc := "(LClockLots;II)I" } : MethodName)) ∈ wB := inB 692 (by decide +kernel) (by decide +kernel)
theorem mw_681 : (Cond.static ({ cls := "ClockLotsLaw", name := "tryKind", desc := "(LClockLots;II)I" } : MethodName)) ∈ wB := inB 693 (by decide +kernel) (by decide +kernel)
theorem mw_682 : (Cond.codeWith ({ cls := "ClockLotsLaw", name := "tryKind", desc := "(LClockLots;II)I" } : MethodName) method_8_code (4 : Nat) (Option.some FieldType.int) [((0 : Nat), (6 : Nat), (7 : Nat), (13 : Nat)), ((0 : Nat), (6 : Nat), (11 : Nat), (16 : Nat))]) ∈ wB := inB 694 (by decide +kernel) (by decide +kernel)
theorem mw_683 : (Cond.classLink "ClockLotsLaw" (13 : Nat) "java/lang/IndexOutOfBoundsException") ∈ wB := inB 695 (by decide +kernel) (by decide +kernel)
theorem mw_684 : (Cond.methodLink "ClockLotsLaw" (41 : Nat) ({ cls := "ClockLots", name := "kind", desc := "(II)I" } : MethodName)) ∈ wB := inB 696 (by decide +kernel) (by decide +kernel)
theorem mw_685 : (Cond.instanceMethod ({ cls := "ClockLots", name := "kind", desc := "(II)I" } : MethodName)) ∈ wB := inB 697 (by decide +kernel) (by decide +kernel)
theorem mw_686 : (Cond.selects "ClockLots" ({ cls := "ClockLots", name := "kind", desc := "(II)I" } : MethodName) ({ cls := "ClockLots", name := "kind", desc := "(II)I" } : MethodName)) ∈ wB := inB 698 (by decide +kernel) (by decide +kernel)
theorem mw_687 : (Cond.code ({ cls := "ClockLots", name := "kind", desc := "(II)I" } : MethodName) prog_1_method_7_code (3 : Nat) (Option.some FieldType.int)) ∈ wB := inB 699 (by decide +kernel) (by decide +kernel)
theorem mw_688 : (Cond.methodLink "ClockLots" (113 : Nat) ({ cls := "ClockLots", name := "needKind", desc := "(I)V" } : MethodName)) ∈ wB := inB 700 (by decide +kernel) (by decide +kernel)
theorem mt_689 : (Cond.privateMethod ({ cls := "ClockLots", name := "needKind", desc := "(I)V" } : MethodName)) ∈ lw_tbl := inT 701 (by decide +kernel)
theorem mw_690 : (Cond.instanceMethod ({ cls := "ClockLots", name := "needKind", desc := "(I)V" } : MethodName)) ∈ wB := inB 702 (by decide +kernel) (by decide +kernel)
theorem mw_691 : (Cond.code ({ cls := "ClockLots", name := "needKind", desc := "(I)V" } : MethodName) prog_1_method_36_code (2 : Nat) (Option.none : Option FieldType)) ∈ wB := inB 703 (by decide +kernel) (by decide +kernel)
theorem mw_692 : (Cond.methodLink "ClockLots" (296 : Nat) ({ cls := "ClockLots", name := "noKind", desc := "(I)Z" } : MethodName)) ∈ wB := inB 704 (by decide +kernel) (by decide +kernel)
theorem mw_693 : (Cond.classLink "ClockLots" (160 : Nat) "java/lang/IndexOutOfBoundsException") ∈ wB := inB 705 (by decide +kernel) (by decide +kernel)
theorem mw_694 : (Cond.instantiable "java/lang/IndexOutOfBoundsException" (6 : Nat)) ∈ wB := inB 706 (by decide +kernel) (by decide +kernel)
theorem mt_695 : (Cond.castable "java/lang/IndexOutOfBoundsException" "java/lang/IndexOutOfBoundsException") ∈ lw_tbl := inT 707 (by decide +kernel)
theorem mw_696 : (Cond.selects "java/lang/IndexOutOfBoundsException" ({ cls := "java/lang/Throwable", name := "fillInStackTrace", desc := "(I)Ljava/lang/Throwable;" } : MethodName) ({ cls := "java/lang/Throwable", name := "fillInStackTrace", desc := "(I)Ljava/lang/Throwable;" } : MethodName)) ∈ wB := inB 708 (by decide +kernel) (by decide +kernel)
theorem mw_697 : (Cond.lays "java/lang/IndexOutOfBoundsException" "java/lang/Throwable" "cause" "Ljava/lang/Throwable;") ∈ wB := inB 709 (by decide +kernel) (by decide +kernel)
theorem mw_698 : (Cond.lays "java/lang/IndexOutOfBoundsException" "java/lang/Throwable" "stackTrace" "[Ljava/lang/StackTraceElement;") ∈ wB := inB 710 (by decide +kernel) (by decide +kernel)
theorem mw_699 : (Cond.lays "java/lang/IndexOutOfBoundsException" "java/lang/Throwable" "suppressedExceptions" "Ljava/util/List;") ∈ wB := inB 711 (by decide +kernel) (by decide +kernel)
theorem mw_700 : (Cond.lays "java/lang/IndexOutOfBoundsException" "java/lang/Throwable" "detailMessage" "Ljava/lang/String;") ∈ wB := inB 712 (by decide +kernel) (by decide +kernel)
theorem mw_701 : (Cond.lays "java/lang/IndexOutOfBoundsException" "java/lang/Throwable" "backtrace" "Ljava/lang/Object;") ∈ wB := inB 713 (by decide +kernel) (by decide +kernel)
theorem mt_702 : (Cond.stringRef "ClockLots" (300 : Nat) "no such kind") ∈ lw_tbl := inT 714 (by decide +kernel)
theorem mw_703 : (Cond.methodLink "ClockLots" (164 : Nat) ({ cls := "java/lang/IndexOutOfBoundsException", name := "<init>", desc := "(Ljava/lang/String;)V" } : MethodName)) ∈ wB := inB 715 (by decide +kernel) (by decide +kernel)
theorem mw_704 : (Cond.instanceMethod ({ cls := "java/lang/IndexOutOfBoundsException", name := "<init>", desc := "(Ljava/lang/String;)V" } : MethodName)) ∈ wB := inB 716 (by decide +kernel) (by decide +kernel)
theorem mw_705 : (Cond.code ({ cls := "java/lang/IndexOutOfBoundsException", name := "<init>", desc := "(Ljava/lang/String;)V" } : MethodName) prog_13_method_2_code (2 : Nat) (Option.none : Option FieldType)) ∈ wB := inB 717 (by decide +kernel) (by decide +kernel)
theorem mw_706 : (Cond.methodLink "java/lang/IndexOutOfBoundsException" (7 : Nat) ({ cls := "java/lang/RuntimeException", name := "<init>", desc := "(Ljava/lang/String;)V" } : MethodName)) ∈ wB := inB 718 (by decide +kernel) (by decide +kernel)
theorem mw_707 : (Cond.lays "java/lang/IndexOutOfBoundsException" "java/lang/Throwable" "depth" "I") ∈ wB := inB 719 (by decide +kernel) (by decide +kernel)
theorem mt_708 : (Cond.superclass "java/lang/IndexOutOfBoundsException" "java/lang/RuntimeException") ∈ lw_tbl := inT 720 (by decide +kernel)
theorem mw_709 : (Cond.methodLink "ClockLots" (127 : Nat) ({ cls := "ClockLots$Auction", name := "askedOf", desc := "(I)I" } : MethodName)) ∈ wB := inB 721 (by decide +kernel) (by decide +kernel)
theorem mt_710 : (Cond.stringRef "ClockLots" (131 : Nat) "what is not 0 to 3") ∈ lw_tbl := inT 722 (by decide +kernel)
theorem mw_711 : (Cond.constant "ClockLotsLaw" (15 : Nat) (-9999001 : Int32)) ∈ wB := inB 723 (by decide +kernel) (by decide +kernel)
theorem mw_712 : (Cond.methodLink "ClockLotsLaw" (126 : Nat) ({ cls := "ClockLotsLaw", name := "tryBidder", desc := "(LClockLots;II)I" } : MethodName)) ∈ wB := inB 724 (by decide +kernel) (by decide +kernel)
theorem mw_713 : (Cond.static ({ cls := "ClockLotsLaw", name := "tryBidder", desc := "(LClockLots;II)I" } : MethodName)) ∈ wB := inB 725 (by decide +kernel) (by decide +kernel)
theorem mw_714 : (Cond.codeWith ({ cls := "ClockLotsLaw", name := "tryBidder", desc := "(LClockLots;II)I" } : MethodName) method_9_code (4 : Nat) (Option.some FieldType.int) [((0 : Nat), (6 : Nat), (7 : Nat), (13 : Nat)), ((0 : Nat), (6 : Nat), (11 : Nat), (16 : Nat))]) ∈ wB := inB 726 (by decide +kernel) (by decide +kernel)
theorem mw_715 : (Cond.methodLink "ClockLotsLaw" (45 : Nat) ({ cls := "ClockLots", name := "bidder", desc := "(II)I" } : MethodName)) ∈ wB := inB 727 (by decide +kernel) (by decide +kernel)
theorem mw_716 : (Cond.instanceMethod ({ cls := "ClockLots", name := "bidder", desc := "(II)I" } : MethodName)) ∈ wB := inB 728 (by decide +kernel) (by decide +kernel)
theorem mw_717 : (Cond.selects "ClockLots" ({ cls := "ClockLots", name := "bidder", desc := "(II)I" } : MethodName) ({ cls := "ClockLots", name := "bidder", desc := "(II)I" } : MethodName)) ∈ wB := inB 729 (by decide +kernel) (by decide +kernel)
theorem mw_718 : (Cond.code ({ cls := "ClockLots", name := "bidder", desc := "(II)I" } : MethodName) prog_1_method_8_code (3 : Nat) (Option.some FieldType.int)) ∈ wB := inB 730 (by decide +kernel) (by decide +kernel)
theorem mw_719 : (Cond.methodLink "ClockLots" (133 : Nat) ({ cls := "ClockLots", name := "needBidder", desc := "(I)V" } : MethodName)) ∈ wB := inB 731 (by decide +kernel) (by decide +kernel)
theorem mt_720 : (Cond.privateMethod ({ cls := "ClockLots", name := "needBidder", desc := "(I)V" } : MethodName)) ∈ lw_tbl := inT 732 (by decide +kernel)
theorem mw_721 : (Cond.instanceMethod ({ cls := "ClockLots", name := "needBidder", desc := "(I)V" } : MethodName)) ∈ wB := inB 733 (by decide +kernel) (by decide +kernel)
theorem mw_722 : (Cond.code ({ cls := "ClockLots", name := "needBidder", desc := "(I)V" } : MethodName) prog_1_method_37_code (2 : Nat) (Option.none : Option FieldType)) ∈ wB := inB 734 (by decide +kernel) (by decide +kernel)
theorem mw_723 : (Cond.methodLink "ClockLots" (302 : Nat) ({ cls := "ClockLots$Auction", name := "noBidder", desc := "(I)Z" } : MethodName)) ∈ wB := inB 735 (by decide +kernel) (by decide +kernel)
theorem mt_724 : (Cond.stringRef "ClockLots" (305 : Nat) "no such bidder") ∈ lw_tbl := inT 736 (by decide +kernel)
theorem mw_725 : (Cond.methodLink "ClockLots" (142 : Nat) ({ cls := "ClockLots$Auction", name := "activity", desc := "(I)I" } : MethodName)) ∈ wB := inB 737 (by decide +kernel) (by decide +kernel)
theorem mw_726 : (Cond.methodLink "ClockLots" (148 : Nat) ({ cls := "ClockLots$Auction", name := "profit", desc := "(I)I" } : MethodName)) ∈ wB := inB 738 (by decide +kernel) (by decide +kernel)
theorem mw_727 : (Cond.instanceMethod ({ cls := "ClockLots$Auction", name := "profit", desc := "(I)I" } : MethodName)) ∈ wB := inB 739 (by decide +kernel) (by decide +kernel)
theorem mw_728 : (Cond.selects "ClockLots$Auction" ({ cls := "ClockLots$Auction", name := "profit", desc := "(I)I" } : MethodName) ({ cls := "ClockLots$Auction", name := "profit", desc := "(I)I" } : MethodName)) ∈ wB := inB 740 (by decide +kernel) (by decide +kernel)
theorem mw_729 : (Cond.code ({ cls := "ClockLots$Auction", name := "profit", desc := "(I)I" } : MethodName) prog_3_method_12_code (4 : Nat) (Option.some FieldType.int)) ∈ wB := inB 741 (by decide +kernel) (by decide +kernel)
theorem mt_730 : (Cond.stringRef "ClockLots" (151 : Nat) "what is not 0 to 4") ∈ lw_tbl := inT 742 (by decide +kernel)
theorem mw_731 : (Cond.methodLink "ClockLotsLaw" (129 : Nat) ({ cls := "ClockLotsLaw", name := "tryDemand", desc := "(LClockLots;II)I" } : MethodName)) ∈ wB := inB 743 (by decide +kernel) (by decide +kernel)
theorem mw_732 : (Cond.static ({ cls := "ClockLotsLaw", name := "tryDemand", desc := "(LClockLots;II)I" } : MethodName)) ∈ wB := inB 744 (by decide +kernel) (by decide +kernel)
theorem mw_733 : (Cond.codeWith ({ cls := "ClockLotsLaw", name := "tryDemand", desc := "(LClockLots;II)I" } : MethodName) method_10_code (4 : Nat) (Option.some FieldType.int) [((0 : Nat), (6 : Nat), (7 : Nat), (13 : Nat))]) ∈ wB := inB 745 (by decide +kernel) (by decide +kernel)
theorem mw_734 : (Cond.methodLink "ClockLotsLaw" (48 : Nat) ({ cls := "ClockLots", name := "demand", desc := "(II)I" } : MethodName)) ∈ wB := inB 746 (by decide +kernel) (by decide +kernel)
theorem mw_735 : (Cond.instanceMethod ({ cls := "ClockLots", name := "demand", desc := "(II)I" } : MethodName)) ∈ wB := inB 747 (by decide +kernel) (by decide +kernel)
theorem mw_736 : (Cond.selects "ClockLots" ({ cls := "ClockLots", name := "demand", desc := "(II)I" } : MethodName) ({ cls := "ClockLots", name := "demand", desc := "(II)I" } : MethodName)) ∈ wB := inB 748 (by decide +kernel) (by decide +kernel)
theorem mw_737 : (Cond.code ({ cls := "ClockLots", name := "demand", desc := "(II)I" } : MethodName) prog_1_method_9_code (3 : Nat) (Option.some FieldType.int)) ∈ wB := inB 749 (by decide +kernel) (by decide +kernel)
theorem mw_738 : (Cond.methodLink "ClockLots" (156 : Nat) ({ cls := "ClockLots", name := "cell", desc := "(II)I" } : MethodName)) ∈ wB := inB 750 (by decide +kernel) (by decide +kernel)
theorem mw_739 : (Cond.methodLink "ClockLotsLaw" (132 : Nat) ({ cls := "ClockLotsLaw", name := "tryPack", desc := "(LClockLots;III)I" } : MethodName)) ∈ wB := inB 751 (by decide +kernel) (by decide +kernel)
theorem mw_740 : (Cond.static ({ cls := "ClockLotsLaw", name := "tryPack", desc := "(LClockLots;III)I" } : MethodName)) ∈ wB := inB 752 (by decide +kernel) (by decide +kernel)
theorem mw_741 : (Cond.codeWith ({ cls := "ClockLotsLaw", name := "tryPack", desc := "(LClockLots;III)I" } : MethodName) method_11_code (5 : Nat) (Option.some FieldType.int) [((0 : Nat), (7 : Nat), (8 : Nat), (13 : Nat)), ((0 : Nat), (7 : Nat), (13 : Nat), (16 : Nat))]) ∈ wB := inB 753 (by decide +kernel) (by decide +kernel)
theorem mw_742 : (Cond.methodLink "ClockLotsLaw" (51 : Nat) ({ cls := "ClockLots", name := "pack", desc := "(III)I" } : MethodName)) ∈ wB := inB 754 (by decide +kernel) (by decide +kernel)
theorem mw_743 : (Cond.instanceMethod ({ cls := "ClockLots", name := "pack", desc := "(III)I" } : MethodName)) ∈ wB := inB 755 (by decide +kernel) (by decide +kernel)
theorem mw_744 : (Cond.selects "ClockLots" ({ cls := "ClockLots", name := "pack", desc := "(III)I" } : MethodName) ({ cls := "ClockLots", name := "pack", desc := "(III)I" } : MethodName)) ∈ wB := inB 756 (by decide +kernel) (by decide +kernel)
theorem mw_745 : (Cond.code ({ cls := "ClockLots", name := "pack", desc := "(III)I" } : MethodName) prog_1_method_10_code (4 : Nat) (Option.some FieldType.int)) ∈ wB := inB 757 (by decide +kernel) (by decide +kernel)
theorem mt_746 : (Cond.stringRef "ClockLots" (162 : Nat) "no such package") ∈ lw_tbl := inT 758 (by decide +kernel)
theorem mw_747 : (Cond.methodLink "ClockLots" (165 : Nat) ({ cls := "ClockLots$Auction", name := "packValue", desc := "(II)I" } : MethodName)) ∈ wB := inB 759 (by decide +kernel) (by decide +kernel)
theorem mw_748 : (Cond.instanceMethod ({ cls := "ClockLots$Auction", name := "packValue", desc := "(II)I" } : MethodName)) ∈ wB := inB 760 (by decide +kernel) (by decide +kernel)
theorem mw_749 : (Cond.selects "ClockLots$Auction" ({ cls := "ClockLots$Auction", name := "packValue", desc := "(II)I" } : MethodName) ({ cls := "ClockLots$Auction", name := "packValue", desc := "(II)I" } : MethodName)) ∈ wB := inB 761 (by decide +kernel) (by decide +kernel)
theorem mw_750 : (Cond.code ({ cls := "ClockLots$Auction", name := "packValue", desc := "(II)I" } : MethodName) prog_3_method_16_code (3 : Nat) (Option.some FieldType.int)) ∈ wB := inB 762 (by decide +kernel) (by decide +kernel)
theorem mw_751 : (Cond.methodLink "ClockLots" (168 : Nat) ({ cls := "ClockLots$Auction", name := "packLots", desc := "(III)I" } : MethodName)) ∈ wB := inB 763 (by decide +kernel) (by decide +kernel)
theorem mw_752 : (Cond.instanceMethod ({ cls := "ClockLots$Auction", name := "packLots", desc := "(III)I" } : MethodName)) ∈ wB := inB 764 (by decide +kernel) (by decide +kernel)
theorem mw_753 : (Cond.selects "ClockLots$Auction" ({ cls := "ClockLots$Auction", name := "packLots", desc := "(III)I" } : MethodName) ({ cls := "ClockLots$Auction", name := "packLots", desc := "(III)I" } : MethodName)) ∈ wB := inB 765 (by decide +kernel) (by decide +kernel)
theorem mw_754 : (Cond.code ({ cls := "ClockLots$Auction", name := "packLots", desc := "(III)I" } : MethodName) prog_3_method_15_code (4 : Nat) (Option.some FieldType.int)) ∈ wB := inB 766 (by decide +kernel) (by decide +kernel)
theorem mw_755 : (Cond.methodLink "ClockLotsLaw" (136 : Nat) ({ cls := "ClockLotsLaw", name := "trySetting", desc := "(LClockLots;I)I" } : MethodName)) ∈ wB := inB 767 (by decide +kernel) (by decide +kernel)
theorem mw_756 : (Cond.static ({ cls := "ClockLotsLaw", name := "trySetting", desc := "(LClockLots;I)I" } : MethodName)) ∈ wB := inB 768 (by decide +kernel) (by decide +kernel)
theorem mw_757 : (Cond.codeWith ({ cls := "ClockLotsLaw", name := "trySetting", desc := "(LClockLots;I)I" } : MethodName) method_12_code (3 : Nat) (Option.some FieldType.int) [((0 : Nat), (5 : Nat), (6 : Nat), (16 : Nat))]) ∈ wB := inB 769 (by decide +kernel) (by decide +kernel)
theorem mw_758 : (Cond.methodLink "ClockLotsLaw" (55 : Nat) ({ cls := "ClockLots", name := "setting", desc := "(I)I" } : MethodName)) ∈ wB := inB 770 (by decide +kernel) (by decide +kernel)
theorem mw_759 : (Cond.instanceMethod ({ cls := "ClockLots", name := "setting", desc := "(I)I" } : MethodName)) ∈ wB := inB 771 (by decide +kernel) (by decide +kernel)
theorem mw_760 : (Cond.selects "ClockLots" ({ cls := "ClockLots", name := "setting", desc := "(I)I" } : MethodName) ({ cls := "ClockLots", name := "setting", desc := "(I)I" } : MethodName)) ∈ wB := inB 772 (by decide +kernel) (by decide +kernel)
theorem mw_761 : (Cond.code ({ cls := "ClockLots", name := "setting", desc := "(I)I" } : MethodName) prog_1_method_11_code (2 : Nat) (Option.some FieldType.int)) ∈ wB := inB 773 (by decide +kernel) (by decide +kernel)
theorem mt_762 : (Cond.stringRef "ClockLots" (172 : Nat) "no such setting") ∈ lw_tbl := inT 774 (by decide +kernel)
theorem mw_763 : (Cond.methodLink "ClockLots" (174 : Nat) ({ cls := "ClockLots$Auction", name := "settingOf", desc := "(I)I" } : MethodName)) ∈ wB := inB 775 (by decide +kernel) (by decide +kernel)
theorem mw_764 : (Cond.instanceMethod ({ cls := "ClockLots$Auction", name := "settingOf", desc := "(I)I" } : MethodName)) ∈ wB := inB 776 (by decide +kernel) (by decide +kernel)
theorem mw_765 : (Cond.selects "ClockLots$Auction" ({ cls := "ClockLots$Auction", name := "settingOf", desc := "(I)I" } : MethodName) ({ cls := "ClockLots$Auction", name := "settingOf", desc := "(I)I" } : MethodName)) ∈ wB := inB 777 (by decide +kernel) (by decide +kernel)
theorem mw_766 : (Cond.code ({ cls := "ClockLots$Auction", name := "settingOf", desc := "(I)I" } : MethodName) prog_3_method_5_code (2 : Nat) (Option.some FieldType.int)) ∈ wB := inB 778 (by decide +kernel) (by decide +kernel)
theorem mw_767 : (Cond.methodLink "ClockLotsLaw" (139 : Nat) ({ cls := "ClockLotsLaw", name := "tryOffer", desc := "(LClockLots;III)I" } : MethodName)) ∈ wB := inB 779 (by decide +kernel) (by decide +kernel)
theorem mw_768 : (Cond.static ({ cls := "ClockLotsLaw", name := "tryOffer", desc := "(LClockLots;III)I" } : MethodName)) ∈ wB := inB 780 (by decide +kernel) (by decide +kernel)
theorem mw_769 : (Cond.codeWith ({ cls := "ClockLotsLaw", name := "tryOffer", desc := "(LClockLots;III)I" } : MethodName) method_13_code (5 : Nat) (Option.some FieldType.int) [((0 : Nat), (7 : Nat), (8 : Nat), (13 : Nat)), ((0 : Nat), (7 : Nat), (13 : Nat), (16 : Nat)), ((0 : Nat), (7 : Nat), (18 : Nat), (19 : Nat))]) ∈ wB := inB 781 (by decide +kernel) (by decide +kernel)
theorem mw_770 : (Cond.methodLink "ClockLotsLaw" (58 : Nat) ({ cls := "ClockLots", name := "offer", desc := "(III)I" } : MethodName)) ∈ wB := inB 782 (by decide +kernel) (by decide +kernel)
theorem mw_771 : (Cond.instanceMethod ({ cls := "ClockLots", name := "offer", desc := "(III)I" } : MethodName)) ∈ wB := inB 783 (by decide +kernel) (by decide +kernel)
theorem mw_772 : (Cond.selects "ClockLots" ({ cls := "ClockLots", name := "offer", desc := "(III)I" } : MethodName) ({ cls := "ClockLots", name := "offer", desc := "(III)I" } : MethodName)) ∈ wB := inB 784 (by decide +kernel) (by decide +kernel)
theorem mw_773 : (Cond.code ({ cls := "ClockLots", name := "offer", desc := "(III)I" } : MethodName) prog_1_method_12_code (5 : Nat) (Option.some FieldType.int)) ∈ wB := inB 785 (by decide +kernel) (by decide +kernel)
theorem mw_774 : (Cond.methodLink "ClockLots" (177 : Nat) ({ cls := "ClockLots$Auction", name := "whyNotOffer", desc := "(III)I" } : MethodName)) ∈ wB := inB 786 (by decide +kernel) (by decide +kernel)
theorem mw_775 : (Cond.methodLink "ClockLots" (180 : Nat) ({ cls := "ClockLots", name := "refuse", desc := "(I)V" } : MethodName)) ∈ wB := inB 787 (by decide +kernel) (by decide +kernel)
theorem mw_776 : (Cond.static ({ cls := "ClockLots", name := "refuse", desc := "(I)V" } : MethodName)) ∈ wB := inB 788 (by decide +kernel) (by decide +kernel)
theorem mw_777 : (Cond.code ({ cls := "ClockLots", name := "refuse", desc := "(I)V" } : MethodName) prog_1_method_39_code (1 : Nat) (Option.none : Option FieldType)) ∈ wB := inB 789 (by decide +kernel) (by decide +kernel)
theorem mt_778 : (Cond.stringRef "ClockLots" (309 : Nat) "no such kind, bidder or package") ∈ lw_tbl := inT 790 (by decide +kernel)
theorem mt_779 : (Cond.stringRef "ClockLots" (311 : Nat) "an argument is out of its range") ∈ lw_tbl := inT 791 (by decide +kernel)
theorem mt_780 : (Cond.stringRef "ClockLots" (313 : Nat) "not allowed as the auction stands") ∈ lw_tbl := inT 792 (by decide +kernel)
theorem mw_781 : (Cond.methodLink "ClockLots" (183 : Nat) ({ cls := "ClockLots$History", name := "remember", desc := "(LClockLots$Auction;)V" } : MethodName)) ∈ wB := inB 793 (by decide +kernel) (by decide +kernel)
theorem mw_782 : (Cond.instanceMethod ({ cls := "ClockLots$History", name := "remember", desc := "(LClockLots$Auction;)V" } : MethodName)) ∈ wB := inB 794 (by decide +kernel) (by decide +kernel)
theorem mw_783 : (Cond.selects "ClockLots$History" ({ cls := "ClockLots$History", name := "remember", desc := "(LClockLots$Auction;)V" } : MethodName) ({ cls := "ClockLots$History", name := "remember", desc := "(LClockLots$Auction;)V" } : MethodName)) ∈ wB := inB 795 (by decide +kernel) (by decide +kernel)
theorem mw_784 : (Cond.code ({ cls := "ClockLots$History", name := "remember", desc := "(LClockLots$Auction;)V" } : MethodName) prog_4_method_5_code (2 : Nat) (Option.none : Option FieldType)) ∈ wB := inB 796 (by decide +kernel) (by decide +kernel)
theorem mw_785 : (Cond.methodLink "ClockLots$History" (25 : Nat) ({ cls := "ClockLots$Auction", name := "become", desc := "(LClockLots$Auction;)V" } : MethodName)) ∈ wB := inB 797 (by decide +kernel) (by decide +kernel)
theorem mw_786 : (Cond.methodLink "ClockLots$History" (29 : Nat) ({ cls := "java/lang/Math", name := "min", desc := "(II)I" } : MethodName)) ∈ wB := inB 798 (by decide +kernel) (by decide +kernel)
theorem mw_787 : (Cond.methodLink "ClockLots" (187 : Nat) ({ cls := "ClockLots$Auction", name := "changeOffer", desc := "(III)V" } : MethodName)) ∈ wB := inB 799 (by decide +kernel) (by decide +kernel)
theorem mw_788 : (Cond.methodLink "ClockLotsLaw" (142 : Nat) ({ cls := "ClockLotsLaw", name := "tryPrice", desc := "(LClockLots;II)I" } : MethodName)) ∈ wB := inB 800 (by decide +kernel) (by decide +kernel)
theorem mw_789 : (Cond.static ({ cls := "ClockLotsLaw", name := "tryPrice", desc := "(LClockLots;II)I" } : MethodName)) ∈ wB := inB 801 (by decide +kernel) (by decide +kernel)
theorem mw_790 : (Cond.codeWith ({ cls := "ClockLotsLaw", name := "tryPrice", desc := "(LClockLots;II)I" } : MethodName) method_14_code (4 : Nat) (Option.some FieldType.int) [((0 : Nat), (6 : Nat), (7 : Nat), (13 : Nat)), ((0 : Nat), (6 : Nat), (11 : Nat), (16 : Nat)), ((0 : Nat), (6 : Nat), (15 : Nat), (19 : Nat))]) ∈ wB := inB 802 (by decide +kernel) (by decide +kernel)
theorem mw_791 : (Cond.methodLink "ClockLotsLaw" (61 : Nat) ({ cls := "ClockLots", name := "price", desc := "(II)I" } : MethodName)) ∈ wB := inB 803 (by decide +kernel) (by decide +kernel)
theorem mw_792 : (Cond.instanceMethod ({ cls := "ClockLots", name := "price", desc := "(II)I" } : MethodName)) ∈ wB := inB 804 (by decide +kernel) (by decide +kernel)
theorem mw_793 : (Cond.selects "ClockLots" ({ cls := "ClockLots", name := "price", desc := "(II)I" } : MethodName) ({ cls := "ClockLots", name := "price", desc := "(II)I" } : MethodName)) ∈ wB := inB 805 (by decide +kernel) (by decide +kernel)
theorem mw_794 : (Cond.code ({ cls := "ClockLots", name := "price", desc := "(II)I" } : MethodName) prog_1_method_13_code (4 : Nat) (Option.some FieldType.int)) ∈ wB := inB 806 (by decide +kernel) (by decide +kernel)
theorem mw_795 : (Cond.methodLink "ClockLots" (191 : Nat) ({ cls := "ClockLots$Auction", name := "whyNotPrice", desc := "(II)I" } : MethodName)) ∈ wB := inB 807 (by decide +kernel) (by decide +kernel)
theorem mw_796 : (Cond.instanceMethod ({ cls := "ClockLots$Auction", name := "whyNotPrice", desc := "(II)I" } : MethodName)) ∈ wB := inB 808 (by decide +kernel) (by decide +kernel)
theorem mw_797 : (Cond.selects "ClockLots$Auction" ({ cls := "ClockLots$Auction", name := "whyNotPrice", desc := "(II)I" } : MethodName) ({ cls := "ClockLots$Auction", name := "whyNotPrice", desc := "(II)I" } : MethodName)) ∈ wB := inB 809 (by decide +kernel) (by decide +kernel)
theorem mw_798 : (Cond.code ({ cls := "ClockLots$Auction", name := "whyNotPrice", desc := "(II)I" } : MethodName) prog_3_method_20_code (3 : Nat) (Option.some FieldType.int)) ∈ wB := inB 810 (by decide +kernel) (by decide +kernel)
theorem mw_799 : (Cond.methodLink "ClockLotsLaw" (145 : Nat) ({ cls := "ClockLotsLaw", name := "tryJoin", desc := "(LClockLots;II)I" } : MethodName)) ∈ wB := inB 811 (by decide +kernel) (by decide +kernel)
theorem mw_800 : (Cond.static ({ cls := "ClockLotsLaw", name := "tryJoin", desc := "(LClockLots;II)I" } : MethodName)) ∈ wB := inB 812 (by decide +kernel) (by decide +kernel)
theorem mw_801 : (Cond.codeWith ({ cls := "ClockLotsLaw", name := "tryJoin", desc := "(LClockLots;II)I" } : MethodName) method_15_code (4 : Nat) (Option.some FieldType.int) [((0 : Nat), (6 : Nat), (7 : Nat), (16 : Nat)), ((0 : Nat), (6 : Nat), (11 : Nat), (19 : Nat))]) ∈ wB := inB 813 (by decide +kernel) (by decide +kernel)
theorem mw_802 : (Cond.methodLink "ClockLotsLaw" (64 : Nat) ({ cls := "ClockLots", name := "join", desc := "(II)I" } : MethodName)) ∈ wB := inB 814 (by decide +kernel) (by decide +kernel)
theorem mw_803 : (Cond.instanceMethod ({ cls := "ClockLots", name := "join", desc := "(II)I" } : MethodName)) ∈ wB := inB 815 (by decide +kernel) (by decide +kernel)
theorem mw_804 : (Cond.selects "ClockLots" ({ cls := "ClockLots", name := "join", desc := "(II)I" } : MethodName) ({ cls := "ClockLots", name := "join", desc := "(II)I" } : MethodName)) ∈ wB := inB 816 (by decide +kernel) (by decide +kernel)
theorem mw_805 : (Cond.code ({ cls := "ClockLots", name := "join", desc := "(II)I" } : MethodName) prog_1_method_14_code (3 : Nat) (Option.some FieldType.int)) ∈ wB := inB 817 (by decide +kernel) (by decide +kernel)
theorem mw_806 : (Cond.methodLink "ClockLots" (194 : Nat) ({ cls := "ClockLots$Auction", name := "whyNotJoin", desc := "(II)I" } : MethodName)) ∈ wB := inB 818 (by decide +kernel) (by decide +kernel)
theorem mw_807 : (Cond.methodLink "ClockLots" (197 : Nat) ({ cls := "ClockLots$Auction", name := "addBidder", desc := "(II)V" } : MethodName)) ∈ wB := inB 819 (by decide +kernel) (by decide +kernel)
theorem mw_808 : (Cond.methodLink "ClockLotsLaw" (148 : Nat) ({ cls := "ClockLotsLaw", name := "tryValue", desc := "(LClockLots;III)I" } : MethodName)) ∈ wB := inB 820 (by decide +kernel) (by decide +kernel)
theorem mw_809 : (Cond.static ({ cls := "ClockLotsLaw", name := "tryValue", desc := "(LClockLots;III)I" } : MethodName)) ∈ wB := inB 821 (by decide +kernel) (by decide +kernel)
theorem mw_810 : (Cond.codeWith ({ cls := "ClockLotsLaw", name := "tryValue", desc := "(LClockLots;III)I" } : MethodName) method_16_code (5 : Nat) (Option.some FieldType.int) [((0 : Nat), (7 : Nat), (8 : Nat), (13 : Nat)), ((0 : Nat), (7 : Nat), (13 : Nat), (16 : Nat))]) ∈ wB := inB 822 (by decide +kernel) (by decide +kernel)
theorem mw_811 : (Cond.methodLink "ClockLotsLaw" (67 : Nat) ({ cls := "ClockLots", name := "value", desc := "(III)I" } : MethodName)) ∈ wB := inB 823 (by decide +kernel) (by decide +kernel)
theorem mw_812 : (Cond.instanceMethod ({ cls := "ClockLots", name := "value", desc := "(III)I" } : MethodName)) ∈ wB := inB 824 (by decide +kernel) (by decide +kernel)
theorem mw_813 : (Cond.selects "ClockLots" ({ cls := "ClockLots", name := "value", desc := "(III)I" } : MethodName) ({ cls := "ClockLots", name := "value", desc := "(III)I" } : MethodName)) ∈ wB := inB 825 (by decide +kernel) (by decide +kernel)
theorem mw_814 : (Cond.code ({ cls := "ClockLots", name := "value", desc := "(III)I" } : MethodName) prog_1_method_15_code (5 : Nat) (Option.some FieldType.int)) ∈ wB := inB 826 (by decide +kernel) (by decide +kernel)
theorem mw_815 : (Cond.methodLink "ClockLots" (201 : Nat) ({ cls := "ClockLots$Auction", name := "whyNotValue", desc := "(III)I" } : MethodName)) ∈ wB := inB 827 (by decide +kernel) (by decide +kernel)
theorem mw_816 : (Cond.methodLink "ClockLotsLaw" (151 : Nat) ({ cls := "ClockLotsLaw", name := "tryAsk", desc := "(LClockLots;III)I" } : MethodName)) ∈ wB := inB 828 (by decide +kernel) (by decide +kernel)
theorem mw_817 : (Cond.static ({ cls := "ClockLotsLaw", name := "tryAsk", desc := "(LClockLots;III)I" } : MethodName)) ∈ wB := inB 829 (by decide +kernel) (by decide +kernel)
theorem mw_818 : (Cond.codeWith ({ cls := "ClockLotsLaw", name := "tryAsk", desc := "(LClockLots;III)I" } : MethodName) method_17_code (5 : Nat) (Option.some FieldType.int) [((0 : Nat), (7 : Nat), (8 : Nat), (13 : Nat)), ((0 : Nat), (7 : Nat), (13 : Nat), (16 : Nat)), ((0 : Nat), (7 : Nat), (18 : Nat), (19 : Nat))]) ∈ wB := inB 830 (by decide +kernel) (by decide +kernel)
theorem mw_819 : (Cond.methodLink "ClockLotsLaw" (70 : Nat) ({ cls := "ClockLots", name := "ask", desc := "(III)I" } : MethodName)) ∈ wB := inB 831 (by decide +kernel) (by decide +kernel)
theorem mw_820 : (Cond.instanceMethod ({ cls := "ClockLots", name := "ask", desc := "(III)I" } : MethodName)) ∈ wB := inB 832 (by decide +kernel) (by decide +kernel)
theorem mw_821 : (Cond.selects "ClockLots" ({ cls := "ClockLots", name := "ask", desc := "(III)I" } : MethodName) ({ cls := "ClockLots", name := "ask", desc := "(III)I" } : MethodName)) ∈ wB := inB 833 (by decide +kernel) (by decide +kernel)
theorem mw_822 : (Cond.code ({ cls := "ClockLots", name := "ask", desc := "(III)I" } : MethodName) prog_1_method_16_code (4 : Nat) (Option.some FieldType.int)) ∈ wB := inB 834 (by decide +kernel) (by decide +kernel)
theorem mw_823 : (Cond.methodLink "ClockLots" (207 : Nat) ({ cls := "ClockLots$Auction", name := "whyNotAsk", desc := "(III)I" } : MethodName)) ∈ wB := inB 835 (by decide +kernel) (by decide +kernel)
theorem mw_824 : (Cond.methodLink "ClockLotsLaw" (154 : Nat) ({ cls := "ClockLotsLaw", name := "tryBid", desc := "(LClockLots;I)I" } : MethodName)) ∈ wB := inB 836 (by decide +kernel) (by decide +kernel)
theorem mw_825 : (Cond.static ({ cls := "ClockLotsLaw", name := "tryBid", desc := "(LClockLots;I)I" } : MethodName)) ∈ wB := inB 837 (by decide +kernel) (by decide +kernel)
theorem mw_826 : (Cond.codeWith ({ cls := "ClockLotsLaw", name := "tryBid", desc := "(LClockLots;I)I" } : MethodName) method_18_code (3 : Nat) (Option.some FieldType.int) [((0 : Nat), (5 : Nat), (6 : Nat), (13 : Nat)), ((0 : Nat), (5 : Nat), (10 : Nat), (19 : Nat))]) ∈ wB := inB 838 (by decide +kernel) (by decide +kernel)
theorem mw_827 : (Cond.methodLink "ClockLotsLaw" (73 : Nat) ({ cls := "ClockLots", name := "bid", desc := "(I)I" } : MethodName)) ∈ wB := inB 839 (by decide +kernel) (by decide +kernel)
theorem mw_828 : (Cond.instanceMethod ({ cls := "ClockLots", name := "bid", desc := "(I)I" } : MethodName)) ∈ wB := inB 840 (by decide +kernel) (by decide +kernel)
theorem mw_829 : (Cond.selects "ClockLots" ({ cls := "ClockLots", name := "bid", desc := "(I)I" } : MethodName) ({ cls := "ClockLots", name := "bid", desc := "(I)I" } : MethodName)) ∈ wB := inB 841 (by decide +kernel) (by decide +kernel)
theorem mw_830 : (Cond.code ({ cls := "ClockLots", name := "bid", desc := "(I)I" } : MethodName) prog_1_method_17_code (2 : Nat) (Option.some FieldType.int)) ∈ wB := inB 842 (by decide +kernel) (by decide +kernel)
theorem mw_831 : (Cond.methodLink "ClockLots" (210 : Nat) ({ cls := "ClockLots$Auction", name := "whyNotBid", desc := "(I)I" } : MethodName)) ∈ wB := inB 843 (by decide +kernel) (by decide +kernel)
theorem mw_832 : (Cond.methodLink "ClockLots" (213 : Nat) ({ cls := "ClockLots$Auction", name := "bidByValues", desc := "(I)V" } : MethodName)) ∈ wB := inB 844 (by decide +kernel) (by decide +kernel)
theorem mw_833 : (Cond.methodLink "ClockLotsLaw" (157 : Nat) ({ cls := "ClockLotsLaw", name := "tryClose", desc := "(LClockLots;)I" } : MethodName)) ∈ wB := inB 845 (by decide +kernel) (by decide +kernel)
theorem mw_834 : (Cond.static ({ cls := "ClockLotsLaw", name := "tryClose", desc := "(LClockLots;)I" } : MethodName)) ∈ wB := inB 846 (by decide +kernel) (by decide +kernel)
theorem mw_835 : (Cond.codeWith ({ cls := "ClockLotsLaw", name := "tryClose", desc := "(LClockLots;)I" } : MethodName) method_19_code (2 : Nat) (Option.some FieldType.int) [((0 : Nat), (4 : Nat), (5 : Nat), (19 : Nat))]) ∈ wB := inB 847 (by decide +kernel) (by decide +kernel)
theorem mw_836 : (Cond.methodLink "ClockLotsLaw" (76 : Nat) ({ cls := "ClockLots", name := "close", desc := "()I" } : MethodName)) ∈ wB := inB 848 (by decide +kernel) (by decide +kernel)
theorem mw_837 : (Cond.instanceMethod ({ cls := "ClockLots", name := "close", desc := "()I" } : MethodName)) ∈ wB := inB 849 (by decide +kernel) (by decide +kernel)
theorem mw_838 : (Cond.selects "ClockLots" ({ cls := "ClockLots", name := "close", desc := "()I" } : MethodName) ({ cls := "ClockLots", name := "close", desc := "()I" } : MethodName)) ∈ wB := inB 850 (by decide +kernel) (by decide +kernel)
theorem mw_839 : (Cond.code ({ cls := "ClockLots", name := "close", desc := "()I" } : MethodName) prog_1_method_18_code (1 : Nat) (Option.some FieldType.int)) ∈ wB := inB 851 (by decide +kernel) (by decide +kernel)
theorem mw_840 : (Cond.methodLink "ClockLots" (216 : Nat) ({ cls := "ClockLots$Auction", name := "whyNotClose", desc := "()I" } : MethodName)) ∈ wB := inB 852 (by decide +kernel) (by decide +kernel)
theorem mw_841 : (Cond.methodLink "ClockLots" (219 : Nat) ({ cls := "ClockLots$Auction", name := "closeRound", desc := "()I" } : MethodName)) ∈ wB := inB 853 (by decide +kernel) (by decide +kernel)
theorem mw_842 : (Cond.methodLink "ClockLotsLaw" (160 : Nat) ({ cls := "ClockLotsLaw", name := "tryDrop", desc := "(LClockLots;II)I" } : MethodName)) ∈ wB := inB 854 (by decide +kernel) (by decide +kernel)
theorem mw_843 : (Cond.static ({ cls := "ClockLotsLaw", name := "tryDrop", desc := "(LClockLots;II)I" } : MethodName)) ∈ wB := inB 855 (by decide +kernel) (by decide +kernel)
theorem mw_844 : (Cond.codeWith ({ cls := "ClockLotsLaw", name := "tryDrop", desc := "(LClockLots;II)I" } : MethodName) method_20_code (4 : Nat) (Option.some FieldType.int) [((0 : Nat), (6 : Nat), (7 : Nat), (13 : Nat))]) ∈ wB := inB 856 (by decide +kernel) (by decide +kernel)
theorem mw_845 : (Cond.methodLink "ClockLotsLaw" (79 : Nat) ({ cls := "ClockLots", name := "drop", desc := "(II)I" } : MethodName)) ∈ wB := inB 857 (by decide +kernel) (by decide +kernel)
theorem mw_846 : (Cond.instanceMethod ({ cls := "ClockLots", name := "drop", desc := "(II)I" } : MethodName)) ∈ wB := inB 858 (by decide +kernel) (by decide +kernel)
theorem mw_847 : (Cond.selects "ClockLots" ({ cls := "ClockLots", name := "drop", desc := "(II)I" } : MethodName) ({ cls := "ClockLots", name := "drop", desc := "(II)I" } : MethodName)) ∈ wB := inB 859 (by decide +kernel) (by decide +kernel)
theorem mw_848 : (Cond.code ({ cls := "ClockLots", name := "drop", desc := "(II)I" } : MethodName) prog_1_method_20_code (3 : Nat) (Option.some FieldType.int)) ∈ wB := inB 860 (by decide +kernel) (by decide +kernel)
theorem mw_849 : (Cond.methodLink "ClockLots" (230 : Nat) ({ cls := "ClockLots$Auction", name := "whyNotDrop", desc := "(II)I" } : MethodName)) ∈ wB := inB 861 (by decide +kernel) (by decide +kernel)
theorem mw_850 : (Cond.methodLink "ClockLots" (233 : Nat) ({ cls := "ClockLots$Auction", name := "dropPack", desc := "(II)V" } : MethodName)) ∈ wB := inB 862 (by decide +kernel) (by decide +kernel)
theorem mw_851 : (Cond.methodLink "ClockLotsLaw" (163 : Nat) ({ cls := "ClockLotsLaw", name := "trySet", desc := "(LClockLots;II)I" } : MethodName)) ∈ wB := inB 863 (by decide +kernel) (by decide +kernel)
theorem mw_852 : (Cond.static ({ cls := "ClockLotsLaw", name := "trySet", desc := "(LClockLots;II)I" } : MethodName)) ∈ wB := inB 864 (by decide +kernel) (by decide +kernel)
theorem mw_853 : (Cond.codeWith ({ cls := "ClockLotsLaw", name := "trySet", desc := "(LClockLots;II)I" } : MethodName) method_21_code (4 : Nat) (Option.some FieldType.int) [((0 : Nat), (6 : Nat), (7 : Nat), (16 : Nat))]) ∈ wB := inB 865 (by decide +kernel) (by decide +kernel)
theorem mw_854 : (Cond.methodLink "ClockLotsLaw" (82 : Nat) ({ cls := "ClockLots", name := "set", desc := "(II)I" } : MethodName)) ∈ wB := inB 866 (by decide +kernel) (by decide +kernel)
theorem mw_855 : (Cond.instanceMethod ({ cls := "ClockLots", name := "set", desc := "(II)I" } : MethodName)) ∈ wB := inB 867 (by decide +kernel) (by decide +kernel)
theorem mw_856 : (Cond.selects "ClockLots" ({ cls := "ClockLots", name := "set", desc := "(II)I" } : MethodName) ({ cls := "ClockLots", name := "set", desc := "(II)I" } : MethodName)) ∈ wB := inB 868 (by decide +kernel) (by decide +kernel)
theorem mw_857 : (Cond.code ({ cls := "ClockLots", name := "set", desc := "(II)I" } : MethodName) prog_1_method_21_code (4 : Nat) (Option.some FieldType.int)) ∈ wB := inB 869 (by decide +kernel) (by decide +kernel)
theorem mw_858 : (Cond.methodLink "ClockLots" (236 : Nat) ({ cls := "ClockLots$Auction", name := "whyNotSet", desc := "(II)I" } : MethodName)) ∈ wB := inB 870 (by decide +kernel) (by decide +kernel)
theorem mw_859 : (Cond.methodLink "ClockLots" (239 : Nat) ({ cls := "ClockLots$Auction", name := "changeSetting", desc := "(II)V" } : MethodName)) ∈ wB := inB 871 (by decide +kernel) (by decide +kernel)
theorem mw_860 : (Cond.methodLink "ClockLotsLaw" (166 : Nat) ({ cls := "ClockLotsLaw", name := "tryUndo", desc := "(LClockLots;)I" } : MethodName)) ∈ wB := inB 872 (by decide +kernel) (by decide +kernel)
theorem mw_861 : (Cond.static ({ cls := "ClockLotsLaw", name := "tryUndo", desc := "(LClockLots;)I" } : MethodName)) ∈ wB := inB 873 (by decide +kernel) (by decide +kernel)
theorem mw_862 : (Cond.codeWith ({ cls := "ClockLotsLaw", name := "tryUndo", desc := "(LClockLots;)I" } : MethodName) method_22_code (2 : Nat) (Option.some FieldType.int) [((0 : Nat), (4 : Nat), (5 : Nat), (19 : Nat))]) ∈ wB := inB 874 (by decide +kernel) (by decide +kernel)
theorem mw_863 : (Cond.methodLink "ClockLotsLaw" (85 : Nat) ({ cls := "ClockLots", name := "undo", desc := "()I" } : MethodName)) ∈ wB := inB 875 (by decide +kernel) (by decide +kernel)
theorem mw_864 : (Cond.instanceMethod ({ cls := "ClockLots", name := "undo", desc := "()I" } : MethodName)) ∈ wB := inB 876 (by decide +kernel) (by decide +kernel)
theorem mw_865 : (Cond.selects "ClockLots" ({ cls := "ClockLots", name := "undo", desc := "()I" } : MethodName) ({ cls := "ClockLots", name := "undo", desc := "()I" } : MethodName)) ∈ wB := inB 877 (by decide +kernel) (by decide +kernel)
theorem mw_866 : (Cond.code ({ cls := "ClockLots", name := "undo", desc := "()I" } : MethodName) prog_1_method_22_code (1 : Nat) (Option.some FieldType.int)) ∈ wB := inB 878 (by decide +kernel) (by decide +kernel)
theorem mw_867 : (Cond.methodLink "ClockLots" (242 : Nat) ({ cls := "ClockLots$History", name := "isEmpty", desc := "()Z" } : MethodName)) ∈ wB := inB 879 (by decide +kernel) (by decide +kernel)
theorem mw_868 : (Cond.instanceMethod ({ cls := "ClockLots$History", name := "isEmpty", desc := "()Z" } : MethodName)) ∈ wB := inB 880 (by decide +kernel) (by decide +kernel)
theorem mw_869 : (Cond.selects "ClockLots$History" ({ cls := "ClockLots$History", name := "isEmpty", desc := "()Z" } : MethodName) ({ cls := "ClockLots$History", name := "isEmpty", desc := "()Z" } : MethodName)) ∈ wB := inB 881 (by decide +kernel) (by decide +kernel)
theorem mw_870 : (Cond.code ({ cls := "ClockLots$History", name := "isEmpty", desc := "()Z" } : MethodName) prog_4_method_2_code (1 : Nat) (Option.some FieldType.boolean)) ∈ wB := inB 882 (by decide +kernel) (by decide +kernel)
theorem mt_871 : (Cond.stringRef "ClockLots" (245 : Nat) "no state is remembered") ∈ lw_tbl := inT 883 (by decide +kernel)
theorem mw_872 : (Cond.methodLink "ClockLots" (247 : Nat) ({ cls := "ClockLots$History", name := "takeBack", desc := "(LClockLots$Auction;)V" } : MethodName)) ∈ wB := inB 884 (by decide +kernel) (by decide +kernel)
theorem mw_873 : (Cond.instanceMethod ({ cls := "ClockLots$History", name := "takeBack", desc := "(LClockLots$Auction;)V" } : MethodName)) ∈ wB := inB 885 (by decide +kernel) (by decide +kernel)
theorem mw_874 : (Cond.selects "ClockLots$History" ({ cls := "ClockLots$History", name := "takeBack", desc := "(LClockLots$Auction;)V" } : MethodName) ({ cls := "ClockLots$History", name := "takeBack", desc := "(LClockLots$Auction;)V" } : MethodName)) ∈ wB := inB 886 (by decide +kernel) (by decide +kernel)
theorem mw_875 : (Cond.code ({ cls := "ClockLots$History", name := "takeBack", desc := "(LClockLots$Auction;)V" } : MethodName) prog_4_method_6_code (2 : Nat) (Option.none : Option FieldType)) ∈ wB := inB 887 (by decide +kernel) (by decide +kernel)
theorem mw_876 : (Cond.methodLink "ClockLots" (250 : Nat) ({ cls := "ClockLots$History", name := "size", desc := "()I" } : MethodName)) ∈ wB := inB 888 (by decide +kernel) (by decide +kernel)
theorem mw_877 : (Cond.instanceMethod ({ cls := "ClockLots$History", name := "size", desc := "()I" } : MethodName)) ∈ wB := inB 889 (by decide +kernel) (by decide +kernel)
theorem mw_878 : (Cond.selects "ClockLots$History" ({ cls := "ClockLots$History", name := "size", desc := "()I" } : MethodName) ({ cls := "ClockLots$History", name := "size", desc := "()I" } : MethodName)) ∈ wB := inB 890 (by decide +kernel) (by decide +kernel)
theorem mw_879 : (Cond.code ({ cls := "ClockLots$History", name := "size", desc := "()I" } : MethodName) prog_4_method_3_code (1 : Nat) (Option.some FieldType.int)) ∈ wB := inB 891 (by decide +kernel) (by decide +kernel)
theorem mw_880 : (Cond.methodLink "ClockLotsLaw" (169 : Nat) ({ cls := "ClockLotsLaw", name := "tryGets", desc := "(LClockLots;I)I" } : MethodName)) ∈ wB := inB 892 (by decide +kernel) (by decide +kernel)
theorem mw_881 : (Cond.static ({ cls := "ClockLotsLaw", name := "tryGets", desc := "(LClockLots;I)I" } : MethodName)) ∈ wB := inB 893 (by decide +kernel) (by decide +kernel)
theorem mw_882 : (Cond.codeWith ({ cls := "ClockLotsLaw", name := "tryGets", desc := "(LClockLots;I)I" } : MethodName) method_23_code (3 : Nat) (Option.some FieldType.int) [((0 : Nat), (5 : Nat), (6 : Nat), (13 : Nat))]) ∈ wB := inB 894 (by decide +kernel) (by decide +kernel)
theorem mw_883 : (Cond.methodLink "ClockLotsLaw" (88 : Nat) ({ cls := "ClockLots", name := "gets", desc := "(I)I" } : MethodName)) ∈ wB := inB 895 (by decide +kernel) (by decide +kernel)
theorem mw_884 : (Cond.instanceMethod ({ cls := "ClockLots", name := "gets", desc := "(I)I" } : MethodName)) ∈ wB := inB 896 (by decide +kernel) (by decide +kernel)
theorem mw_885 : (Cond.selects "ClockLots" ({ cls := "ClockLots", name := "gets", desc := "(I)I" } : MethodName) ({ cls := "ClockLots", name := "gets", desc := "(I)I" } : MethodName)) ∈ wB := inB 897 (by decide +kernel) (by decide +kernel)
theorem mw_886 : (Cond.code ({ cls := "ClockLots", name := "gets", desc := "(I)I" } : MethodName) prog_1_method_24_code (2 : Nat) (Option.some FieldType.int)) ∈ wB := inB 898 (by decide +kernel) (by decide +kernel)
theorem mw_887 : (Cond.methodLink "ClockLots" (253 : Nat) ({ cls := "ClockLots$Assignment", name := "find", desc := "(LClockLots$Auction;II)I" } : MethodName)) ∈ wB := inB 899 (by decide +kernel) (by decide +kernel)
theorem mw_888 : (Cond.instanceMethod ({ cls := "ClockLots$Assignment", name := "find", desc := "(LClockLots$Auction;II)I" } : MethodName)) ∈ wB := inB 900 (by decide +kernel) (by decide +kernel)
theorem mw_889 : (Cond.selects "ClockLots$Assignment" ({ cls := "ClockLots$Assignment", name := "find", desc := "(LClockLots$Auction;II)I" } : MethodName) ({ cls := "ClockLots$Assignment", name := "find", desc := "(LClockLots$Auction;II)I" } : MethodName)) ∈ wB := inB 901 (by decide +kernel) (by decide +kernel)
theorem mw_890 : (Cond.code ({ cls := "ClockLots$Assignment", name := "find", desc := "(LClockLots$Auction;II)I" } : MethodName) prog_2_method_2_code (5 : Nat) (Option.some FieldType.int)) ∈ wB := inB 902 (by decide +kernel) (by decide +kernel)
theorem mw_891 : (Cond.methodLink "ClockLots$Assignment" (30 : Nat) ({ cls := "ClockLots$Assignment", name := "tryFrom", desc := "(LClockLots$Auction;III)V" } : MethodName)) ∈ wB := inB 903 (by decide +kernel) (by decide +kernel)
theorem mt_892 : (Cond.privateMethod ({ cls := "ClockLots$Assignment", name := "tryFrom", desc := "(LClockLots$Auction;III)V" } : MethodName)) ∈ lw_tbl := inT 904 (by decide +kernel)
theorem mw_893 : (Cond.instanceMethod ({ cls := "ClockLots$Assignment", name := "tryFrom", desc := "(LClockLots$Auction;III)V" } : MethodName)) ∈ wB := inB 905 (by decide +kernel) (by decide +kernel)
theorem mw_894 : (Cond.code ({ cls := "ClockLots$Assignment", name := "tryFrom", desc := "(LClockLots$Auction;III)V" } : MethodName) prog_2_method_4_code (7 : Nat) (Option.none : Option FieldType)) ∈ wB := inB 906 (by decide +kernel) (by decide +kernel)
theorem mw_895 : (Cond.methodLink "ClockLots$Assignment" (37 : Nat) ({ cls := "ClockLots$Assignment", name := "keepIfBetter", desc := "(I)V" } : MethodName)) ∈ wB := inB 907 (by decide +kernel) (by decide +kernel)
theorem mt_896 : (Cond.privateMethod ({ cls := "ClockLots$Assignment", name := "keepIfBetter", desc := "(I)V" } : MethodName)) ∈ lw_tbl := inT 908 (by decide +kernel)
theorem mw_897 : (Cond.instanceMethod ({ cls := "ClockLots$Assignment", name := "keepIfBetter", desc := "(I)V" } : MethodName)) ∈ wB := inB 909 (by decide +kernel) (by decide +kernel)
theorem mw_898 : (Cond.code ({ cls := "ClockLots$Assignment", name := "keepIfBetter", desc := "(I)V" } : MethodName) prog_2_method_8_code (2 : Nat) (Option.none : Option FieldType)) ∈ wB := inB 910 (by decide +kernel) (by decide +kernel)
theorem mw_899 : (Cond.methodLink "ClockLots$Assignment" (63 : Nat) ({ cls := "java/lang/System", name := "arraycopy", desc := "(Ljava/lang/Object;ILjava/lang/Object;II)V" } : MethodName)) ∈ wB := inB 911 (by decide +kernel) (by decide +kernel)
theorem mw_900 : (Cond.methodLink "ClockLots$Assignment" (44 : Nat) ({ cls := "ClockLots$Assignment", name := "tryWith", desc := "(LClockLots$Auction;IIII)V" } : MethodName)) ∈ wB := inB 912 (by decide +kernel) (by decide +kernel)
theorem mt_901 : (Cond.privateMethod ({ cls := "ClockLots$Assignment", name := "tryWith", desc := "(LClockLots$Auction;IIII)V" } : MethodName)) ∈ lw_tbl := inT 913 (by decide +kernel)
theorem mw_902 : (Cond.instanceMethod ({ cls := "ClockLots$Assignment", name := "tryWith", desc := "(LClockLots$Auction;IIII)V" } : MethodName)) ∈ wB := inB 914 (by decide +kernel) (by decide +kernel)
theorem mw_903 : (Cond.code ({ cls := "ClockLots$Assignment", name := "tryWith", desc := "(LClockLots$Auction;IIII)V" } : MethodName) prog_2_method_5_code (6 : Nat) (Option.none : Option FieldType)) ∈ wB := inB 915 (by decide +kernel) (by decide +kernel)
theorem mw_904 : (Cond.methodLink "ClockLots$Assignment" (48 : Nat) ({ cls := "ClockLots$Assignment", name := "fits", desc := "(LClockLots$Auction;II)Z" } : MethodName)) ∈ wB := inB 916 (by decide +kernel) (by decide +kernel)
theorem mt_905 : (Cond.privateMethod ({ cls := "ClockLots$Assignment", name := "fits", desc := "(LClockLots$Auction;II)Z" } : MethodName)) ∈ lw_tbl := inT 917 (by decide +kernel)
theorem mw_906 : (Cond.instanceMethod ({ cls := "ClockLots$Assignment", name := "fits", desc := "(LClockLots$Auction;II)Z" } : MethodName)) ∈ wB := inB 918 (by decide +kernel) (by decide +kernel)
theorem mw_907 : (Cond.code ({ cls := "ClockLots$Assignment", name := "fits", desc := "(LClockLots$Auction;II)Z" } : MethodName) prog_2_method_6_code (5 : Nat) (Option.some FieldType.boolean)) ∈ wB := inB 919 (by decide +kernel) (by decide +kernel)
theorem mw_908 : (Cond.methodLink "ClockLots$Assignment" (59 : Nat) ({ cls := "ClockLots$Auction", name := "packLots", desc := "(III)I" } : MethodName)) ∈ wB := inB 920 (by decide +kernel) (by decide +kernel)
theorem mw_909 : (Cond.methodLink "ClockLots$Assignment" (52 : Nat) ({ cls := "ClockLots$Assignment", name := "take", desc := "(LClockLots$Auction;III)V" } : MethodName)) ∈ wB := inB 921 (by decide +kernel) (by decide +kernel)
theorem mt_910 : (Cond.privateMethod ({ cls := "ClockLots$Assignment", name := "take", desc := "(LClockLots$Auction;III)V" } : MethodName)) ∈ lw_tbl := inT 922 (by decide +kernel)
theorem mw_911 : (Cond.instanceMethod ({ cls := "ClockLots$Assignment", name := "take", desc := "(LClockLots$Auction;III)V" } : MethodName)) ∈ wB := inB 923 (by decide +kernel) (by decide +kernel)
theorem mw_912 : (Cond.code ({ cls := "ClockLots$Assignment", name := "take", desc := "(LClockLots$Auction;III)V" } : MethodName) prog_2_method_7_code (6 : Nat) (Option.none : Option FieldType)) ∈ wB := inB 924 (by decide +kernel) (by decide +kernel)
theorem mw_913 : (Cond.methodLink "ClockLots$Assignment" (55 : Nat) ({ cls := "ClockLots$Auction", name := "packValue", desc := "(II)I" } : MethodName)) ∈ wB := inB 925 (by decide +kernel) (by decide +kernel)
theorem mw_914 : (Cond.methodLink "ClockLots" (257 : Nat) ({ cls := "ClockLots$Assignment", name := "packOf", desc := "(I)I" } : MethodName)) ∈ wB := inB 926 (by decide +kernel) (by decide +kernel)
theorem mw_915 : (Cond.instanceMethod ({ cls := "ClockLots$Assignment", name := "packOf", desc := "(I)I" } : MethodName)) ∈ wB := inB 927 (by decide +kernel) (by decide +kernel)
theorem mw_916 : (Cond.selects "ClockLots$Assignment" ({ cls := "ClockLots$Assignment", name := "packOf", desc := "(I)I" } : MethodName) ({ cls := "ClockLots$Assignment", name := "packOf", desc := "(I)I" } : MethodName)) ∈ wB := inB 928 (by decide +kernel) (by decide +kernel)
theorem mw_917 : (Cond.code ({ cls := "ClockLots$Assignment", name := "packOf", desc := "(I)I" } : MethodName) prog_2_method_3_code (2 : Nat) (Option.some FieldType.int)) ∈ wB := inB 929 (by decide +kernel) (by decide +kernel)
theorem mw_918 : (Cond.methodLink "ClockLotsLaw" (172 : Nat) ({ cls := "ClockLotsLaw", name := "tryPays", desc := "(LClockLots;I)I" } : MethodName)) ∈ wB := inB 930 (by decide +kernel) (by decide +kernel)
theorem mw_919 : (Cond.static ({ cls := "ClockLotsLaw", name := "tryPays", desc := "(LClockLots;I)I" } : MethodName)) ∈ wB := inB 931 (by decide +kernel) (by decide +kernel)
theorem mw_920 : (Cond.codeWith ({ cls := "ClockLotsLaw", name := "tryPays", desc := "(LClockLots;I)I" } : MethodName) method_24_code (3 : Nat) (Option.some FieldType.int) [((0 : Nat), (5 : Nat), (6 : Nat), (13 : Nat))]) ∈ wB := inB 932 (by decide +kernel) (by decide +kernel)
theorem mw_921 : (Cond.methodLink "ClockLotsLaw" (91 : Nat) ({ cls := "ClockLots", name := "pays", desc := "(I)I" } : MethodName)) ∈ wB := inB 933 (by decide +kernel) (by decide +kernel)
theorem mw_922 : (Cond.instanceMethod ({ cls := "ClockLots", name := "pays", desc := "(I)I" } : MethodName)) ∈ wB := inB 934 (by decide +kernel) (by decide +kernel)
theorem mw_923 : (Cond.selects "ClockLots" ({ cls := "ClockLots", name := "pays", desc := "(I)I" } : MethodName) ({ cls := "ClockLots", name := "pays", desc := "(I)I" } : MethodName)) ∈ wB := inB 935 (by decide +kernel) (by decide +kernel)
theorem mw_924 : (Cond.code ({ cls := "ClockLots", name := "pays", desc := "(I)I" } : MethodName) prog_1_method_25_code (5 : Nat) (Option.some FieldType.int)) ∈ wB := inB 936 (by decide +kernel) (by decide +kernel)
theorem mw_925 : (Cond.methodLink "ClockLotsLaw" (175 : Nat) ({ cls := "ClockLotsLaw", name := "tryOneMore", desc := "(LClockLots;I)I" } : MethodName)) ∈ wB := inB 937 (by decide +kernel) (by decide +kernel)
theorem mw_926 : (Cond.static ({ cls := "ClockLotsLaw", name := "tryOneMore", desc := "(LClockLots;I)I" } : MethodName)) ∈ wB := inB 938 (by decide +kernel) (by decide +kernel)
theorem mw_927 : (Cond.codeWith ({ cls := "ClockLotsLaw", name := "tryOneMore", desc := "(LClockLots;I)I" } : MethodName) method_25_code (3 : Nat) (Option.some FieldType.int) [((0 : Nat), (5 : Nat), (6 : Nat), (13 : Nat))]) ∈ wB := inB 939 (by decide +kernel) (by decide +kernel)
theorem mw_928 : (Cond.methodLink "ClockLotsLaw" (94 : Nat) ({ cls := "ClockLots", name := "oneMore", desc := "(I)I" } : MethodName)) ∈ wB := inB 940 (by decide +kernel) (by decide +kernel)
theorem mw_929 : (Cond.instanceMethod ({ cls := "ClockLots", name := "oneMore", desc := "(I)I" } : MethodName)) ∈ wB := inB 941 (by decide +kernel) (by decide +kernel)
theorem mw_930 : (Cond.selects "ClockLots" ({ cls := "ClockLots", name := "oneMore", desc := "(I)I" } : MethodName) ({ cls := "ClockLots", name := "oneMore", desc := "(I)I" } : MethodName)) ∈ wB := inB 942 (by decide +kernel) (by decide +kernel)
theorem mw_931 : (Cond.code ({ cls := "ClockLots", name := "oneMore", desc := "(I)I" } : MethodName) prog_1_method_26_code (3 : Nat) (Option.some FieldType.int)) ∈ wB := inB 943 (by decide +kernel) (by decide +kernel)
theorem mw_932 : (Cond.methodLink "ClockLotsLaw" (178 : Nat) ({ cls := "ClockLotsLaw", name := "tryWouldAsk", desc := "(LClockLots;II)I" } : MethodName)) ∈ wB := inB 944 (by decide +kernel) (by decide +kernel)
theorem mw_933 : (Cond.static ({ cls := "ClockLotsLaw", name := "tryWouldAsk", desc := "(LClockLots;II)I" } : MethodName)) ∈ wB := inB 945 (by decide +kernel) (by decide +kernel)
theorem mw_934 : (Cond.codeWith ({ cls := "ClockLotsLaw", name := "tryWouldAsk", desc := "(LClockLots;II)I" } : MethodName) method_26_code (4 : Nat) (Option.some FieldType.int) [((0 : Nat), (6 : Nat), (7 : Nat), (13 : Nat))]) ∈ wB := inB 946 (by decide +kernel) (by decide +kernel)
theorem mw_935 : (Cond.methodLink "ClockLotsLaw" (97 : Nat) ({ cls := "ClockLots", name := "wouldAsk", desc := "(II)I" } : MethodName)) ∈ wB := inB 947 (by decide +kernel) (by decide +kernel)
theorem mw_936 : (Cond.instanceMethod ({ cls := "ClockLots", name := "wouldAsk", desc := "(II)I" } : MethodName)) ∈ wB := inB 948 (by decide +kernel) (by decide +kernel)
theorem mw_937 : (Cond.selects "ClockLots" ({ cls := "ClockLots", name := "wouldAsk", desc := "(II)I" } : MethodName) ({ cls := "ClockLots", name := "wouldAsk", desc := "(II)I" } : MethodName)) ∈ wB := inB 949 (by decide +kernel) (by decide +kernel)
theorem mw_938 : (Cond.code ({ cls := "ClockLots", name := "wouldAsk", desc := "(II)I" } : MethodName) prog_1_method_28_code (3 : Nat) (Option.some FieldType.int)) ∈ wB := inB 950 (by decide +kernel) (by decide +kernel)
theorem mw_939 : (Cond.methodLink "ClockLotsLaw" (181 : Nat) ({ cls := "ClockLotsLaw", name := "tryEndPrice", desc := "(LClockLots;I)I" } : MethodName)) ∈ wB := inB 951 (by decide +kernel) (by decide +kernel)
theorem mw_940 : (Cond.static ({ cls := "ClockLotsLaw", name := "tryEndPrice", desc := "(LClockLots;I)I" } : MethodName)) ∈ wB := inB 952 (by decide +kernel) (by decide +kernel)
theorem mw_941 : (Cond.codeWith ({ cls := "ClockLotsLaw", name := "tryEndPrice", desc := "(LClockLots;I)I" } : MethodName) method_27_code (3 : Nat) (Option.some FieldType.int) [((0 : Nat), (5 : Nat), (6 : Nat), (13 : Nat))]) ∈ wB := inB 953 (by decide +kernel) (by decide +kernel)
theorem mw_942 : (Cond.methodLink "ClockLotsLaw" (100 : Nat) ({ cls := "ClockLots", name := "endPrice", desc := "(I)I" } : MethodName)) ∈ wB := inB 954 (by decide +kernel) (by decide +kernel)
theorem mw_943 : (Cond.instanceMethod ({ cls := "ClockLots", name := "endPrice", desc := "(I)I" } : MethodName)) ∈ wB := inB 955 (by decide +kernel) (by decide +kernel)
theorem mw_944 : (Cond.selects "ClockLots" ({ cls := "ClockLots", name := "endPrice", desc := "(I)I" } : MethodName) ({ cls := "ClockLots", name := "endPrice", desc := "(I)I" } : MethodName)) ∈ wB := inB 956 (by decide +kernel) (by decide +kernel)
theorem mw_945 : (Cond.code ({ cls := "ClockLots", name := "endPrice", desc := "(I)I" } : MethodName) prog_1_method_30_code (2 : Nat) (Option.some FieldType.int)) ∈ wB := inB 957 (by decide +kernel) (by decide +kernel)
theorem mw_946 : (Cond.methodLink "ClockLots" (263 : Nat) ({ cls := "ClockLots", name := "runToTheEnd", desc := "()I" } : MethodName)) ∈ wB := inB 958 (by decide +kernel) (by decide +kernel)
theorem mt_947 : (Cond.privateMethod ({ cls := "ClockLots", name := "runToTheEnd", desc := "()I" } : MethodName)) ∈ lw_tbl := inT 959 (by decide +kernel)
theorem mw_948 : (Cond.instanceMethod ({ cls := "ClockLots", name := "runToTheEnd", desc := "()I" } : MethodName)) ∈ wB := inB 960 (by decide +kernel) (by decide +kernel)
theorem mw_949 : (Cond.code ({ cls := "ClockLots", name := "runToTheEnd", desc := "()I" } : MethodName) prog_1_method_35_code (3 : Nat) (Option.some FieldType.int)) ∈ wB := inB 961 (by decide +kernel) (by decide +kernel)
theorem mw_950 : (Cond.methodLink "ClockLotsLaw" (184 : Nat) ({ cls := "ClockLotsLaw", name := "tryKeep", desc := "(LClockLots;I)I" } : MethodName)) ∈ wB := inB 962 (by decide +kernel) (by decide +kernel)
theorem mw_951 : (Cond.static ({ cls := "ClockLotsLaw", name := "tryKeep", desc := "(LClockLots;I)I" } : MethodName)) ∈ wB := inB 963 (by decide +kernel) (by decide +kernel)
theorem mw_952 : (Cond.codeWith ({ cls := "ClockLotsLaw", name := "tryKeep", desc := "(LClockLots;I)I" } : MethodName) method_28_code (3 : Nat) (Option.some FieldType.int) [((0 : Nat), (5 : Nat), (6 : Nat), (13 : Nat))]) ∈ wB := inB 964 (by decide +kernel) (by decide +kernel)
theorem mw_953 : (Cond.methodLink "ClockLotsLaw" (103 : Nat) ({ cls := "ClockLots", name := "save", desc := "(I)I" } : MethodName)) ∈ wB := inB 965 (by decide +kernel) (by decide +kernel)
theorem mw_954 : (Cond.instanceMethod ({ cls := "ClockLots", name := "save", desc := "(I)I" } : MethodName)) ∈ wB := inB 966 (by decide +kernel) (by decide +kernel)
theorem mw_955 : (Cond.selects "ClockLots" ({ cls := "ClockLots", name := "save", desc := "(I)I" } : MethodName) ({ cls := "ClockLots", name := "save", desc := "(I)I" } : MethodName)) ∈ wB := inB 967 (by decide +kernel) (by decide +kernel)
theorem mw_956 : (Cond.code ({ cls := "ClockLots", name := "save", desc := "(I)I" } : MethodName) prog_1_method_33_code (2 : Nat) (Option.some FieldType.int)) ∈ wB := inB 968 (by decide +kernel) (by decide +kernel)
theorem mw_957 : (Cond.methodLink "ClockLots" (291 : Nat) ({ cls := "ClockLots", name := "needSlot", desc := "(I)V" } : MethodName)) ∈ wB := inB 969 (by decide +kernel) (by decide +kernel)
theorem mt_958 : (Cond.privateMethod ({ cls := "ClockLots", name := "needSlot", desc := "(I)V" } : MethodName)) ∈ lw_tbl := inT 970 (by decide +kernel)
theorem mw_959 : (Cond.instanceMethod ({ cls := "ClockLots", name := "needSlot", desc := "(I)V" } : MethodName)) ∈ wB := inB 971 (by decide +kernel) (by decide +kernel)
theorem mw_960 : (Cond.code ({ cls := "ClockLots", name := "needSlot", desc := "(I)V" } : MethodName) prog_1_method_38_code (2 : Nat) (Option.none : Option FieldType)) ∈ wB := inB 972 (by decide +kernel) (by decide +kernel)
theorem mt_961 : (Cond.stringRef "ClockLots" (307 : Nat) "no such save slot") ∈ lw_tbl := inT 973 (by decide +kernel)
theorem mw_962 : (Cond.methodLink "ClockLotsLaw" (187 : Nat) ({ cls := "ClockLotsLaw", name := "tryBack", desc := "(LClockLots;I)I" } : MethodName)) ∈ wB := inB 974 (by decide +kernel) (by decide +kernel)
theorem mw_963 : (Cond.static ({ cls := "ClockLotsLaw", name := "tryBack", desc := "(LClockLots;I)I" } : MethodName)) ∈ wB := inB 975 (by decide +kernel) (by decide +kernel)
theorem mw_964 : (Cond.codeWith ({ cls := "ClockLotsLaw", name := "tryBack", desc := "(LClockLots;I)I" } : MethodName) method_29_code (3 : Nat) (Option.some FieldType.int) [((0 : Nat), (5 : Nat), (6 : Nat), (13 : Nat)), ((0 : Nat), (5 : Nat), (10 : Nat), (19 : Nat))]) ∈ wB := inB 976 (by decide +kernel) (by decide +kernel)
theorem mw_965 : (Cond.methodLink "ClockLotsLaw" (106 : Nat) ({ cls := "ClockLots", name := "restore", desc := "(I)I" } : MethodName)) ∈ wB := inB 977 (by decide +kernel) (by decide +kernel)
theorem mw_966 : (Cond.instanceMethod ({ cls := "ClockLots", name := "restore", desc := "(I)I" } : MethodName)) ∈ wB := inB 978 (by decide +kernel) (by decide +kernel)
theorem mw_967 : (Cond.selects "ClockLots" ({ cls := "ClockLots", name := "restore", desc := "(I)I" } : MethodName) ({ cls := "ClockLots", name := "restore", desc := "(I)I" } : MethodName)) ∈ wB := inB 979 (by decide +kernel) (by decide +kernel)
theorem mw_968 : (Cond.code ({ cls := "ClockLots", name := "restore", desc := "(I)I" } : MethodName) prog_1_method_34_code (2 : Nat) (Option.some FieldType.int)) ∈ wB := inB 980 (by decide +kernel) (by decide +kernel)
theorem mt_969 : (Cond.stringRef "ClockLots" (294 : Nat) "nothing has been saved there") ∈ lw_tbl := inT 981 (by decide +kernel)
theorem mw_970 : (Cond.constant "ClockLotsLaw" (196 : Nat) (100000 : Int32)) ∈ wB := inB 982 (by decide +kernel) (by decide +kernel)
theorem mw_971 : (Cond.methodLink "ClockLotsLaw" (197 : Nat) ({ cls := "ClockLotsLaw", name := "tryAdd", desc := "(LClockLots;IIIII)I" } : MethodName)) ∈ wB := inB 983 (by decide +kernel) (by decide +kernel)
theorem mw_972 : (Cond.static ({ cls := "ClockLotsLaw", name := "tryAdd", desc := "(LClockLots;IIIII)I" } : MethodName)) ∈ wB := inB 984 (by decide +kernel) (by decide +kernel)
theorem mw_973 : (Cond.codeWith ({ cls := "ClockLotsLaw", name := "tryAdd", desc := "(LClockLots;IIIII)I" } : MethodName) method_2_code (7 : Nat) (Option.some FieldType.int) [((0 : Nat), (11 : Nat), (12 : Nat), (13 : Nat)), ((0 : Nat), (11 : Nat), (17 : Nat), (16 : Nat)), ((0 : Nat), (11 : Nat), (22 : Nat), (19 : Nat))]) ∈ wB := inB 985 (by decide +kernel) (by decide +kernel)
theorem mw_974 : (Cond.methodLink "ClockLotsLaw" (7 : Nat) ({ cls := "ClockLots", name := "add", desc := "(IIIII)I" } : MethodName)) ∈ wB := inB 986 (by decide +kernel) (by decide +kernel)
theorem mw_975 : (Cond.instanceMethod ({ cls := "ClockLots", name := "add", desc := "(IIIII)I" } : MethodName)) ∈ wB := inB 987 (by decide +kernel) (by decide +kernel)
theorem mw_976 : (Cond.selects "ClockLots" ({ cls := "ClockLots", name := "add", desc := "(IIIII)I" } : MethodName) ({ cls := "ClockLots", name := "add", desc := "(IIIII)I" } : MethodName)) ∈ wB := inB 988 (by decide +kernel) (by decide +kernel)
theorem mw_977 : (Cond.code ({ cls := "ClockLots", name := "add", desc := "(IIIII)I" } : MethodName) prog_1_method_19_code (6 : Nat) (Option.some FieldType.int)) ∈ wB := inB 989 (by decide +kernel) (by decide +kernel)
theorem mw_978 : (Cond.methodLink "ClockLots" (222 : Nat) ({ cls := "ClockLots$Auction", name := "whyNotAdd", desc := "(IIIII)I" } : MethodName)) ∈ wB := inB 990 (by decide +kernel) (by decide +kernel)
theorem mw_979 : (Cond.methodLink "ClockLots" (226 : Nat) ({ cls := "ClockLots$Auction", name := "addPack", desc := "(IIIII)V" } : MethodName)) ∈ wB := inB 991 (by decide +kernel) (by decide +kernel)
theorem mw_980 : (Cond.constant "ClockLotsLaw" (201 : Nat) (999999 : Int32)) ∈ wB := inB 992 (by decide +kernel) (by decide +kernel)
theorem mw_981 : (Cond.constantLong "ClockLotsLaw" (206 : Nat) (100000 : Int64)) ∈ wB := inB 993 (by decide +kernel) (by decide +kernel)
theorem mw_982 : (Cond.constantLong "ClockLotsLaw" (208 : Nat) (-1 : Int64)) ∈ wB := inB 994 (by decide +kernel) (by decide +kernel)
theorem mw_983 : (Cond.methodLink "ClockLotsLaw" (214 : Nat) ({ cls := "ClockLots", name := "errorPosition", desc := "()I" } : MethodName)) ∈ wB := inB 995 (by decide +kernel) (by decide +kernel)
theorem mw_984 : (Cond.instanceMethod ({ cls := "ClockLots", name := "errorPosition", desc := "()I" } : MethodName)) ∈ wB := inB 996 (by decide +kernel) (by decide +kernel)
theorem mw_985 : (Cond.selects "ClockLots" ({ cls := "ClockLots", name := "errorPosition", desc := "()I" } : MethodName) ({ cls := "ClockLots", name := "errorPosition", desc := "()I" } : MethodName)) ∈ wB := inB 997 (by decide +kernel) (by decide +kernel)
theorem mw_986 : (Cond.code ({ cls := "ClockLots", name := "errorPosition", desc := "()I" } : MethodName) prog_1_method_4_code (1 : Nat) (Option.some FieldType.int)) ∈ wB := inB 998 (by decide +kernel) (by decide +kernel)
theorem mw_987 : (Cond.methodLink "ClockLotsLaw" (241 : Nat) ({ cls := "ClockLotsLaw", name := "alike", desc := "(LClockLots;LClockLots;I)Z" } : MethodName)) ∈ wB := inB 999 (by decide +kernel) (by decide +kernel)
theorem mw_988 : (Cond.static ({ cls := "ClockLotsLaw", name := "alike", desc := "(LClockLots;LClockLots;I)Z" } : MethodName)) ∈ wB := inB 1000 (by decide +kernel) (by decide +kernel)
theorem mw_989 : (Cond.code ({ cls := "ClockLotsLaw", name := "alike", desc := "(LClockLots;LClockLots;I)Z" } : MethodName) method_33_code (6 : Nat) (Option.some FieldType.boolean)) ∈ wB := inB 1001 (by decide +kernel) (by decide +kernel)
theorem mw_990 : (Cond.methodLink "ClockLotsLaw" (245 : Nat) ({ cls := "ClockLotsLaw", name := "holds", desc := "(LClockLots;I)Z" } : MethodName)) ∈ wB := inB 1002 (by decide +kernel) (by decide +kernel)
theorem mw_991 : (Cond.static ({ cls := "ClockLotsLaw", name := "holds", desc := "(LClockLots;I)Z" } : MethodName)) ∈ wB := inB 1003 (by decide +kernel) (by decide +kernel)
set_option maxRecDepth 100000 in
set_option maxHeartbeats 4000000 in
theorem mw_992 : (Cond.code ({ cls := "ClockLotsLaw", name := "holds", desc := "(LClockLots;I)Z" } : MethodName) method_34_code (22 : Nat) (Option.some FieldType.boolean)) ∈ wB := inB 1004 rfl (by decide +kernel)
theorem mw_993 : (Cond.methodLink "ClockLotsLaw" (217 : Nat) ({ cls := "ClockLots", name := "best", desc := "()I" } : MethodName)) ∈ wB := inB 1005 (by decide +kernel) (by decide +kernel)
theorem mw_994 : (Cond.instanceMethod ({ cls := "ClockLots", name := "best", desc := "()I" } : MethodName)) ∈ wB := inB 1006 (by decide +kernel) (by decide +kernel)
theorem mw_995 : (Cond.selects "ClockLots" ({ cls := "ClockLots", name := "best", desc := "()I" } : MethodName) ({ cls := "ClockLots", name := "best", desc := "()I" } : MethodName)) ∈ wB := inB 1007 (by decide +kernel) (by decide +kernel)
theorem mw_996 : (Cond.code ({ cls := "ClockLots", name := "best", desc := "()I" } : MethodName) prog_1_method_23_code (1 : Nat) (Option.some FieldType.int)) ∈ wB := inB 1008 (by decide +kernel) (by decide +kernel)
theorem mw_997 : (Cond.methodLink "ClockLotsLaw" (220 : Nat) ({ cls := "ClockLots", name := "leastMissed", desc := "()I" } : MethodName)) ∈ wB := inB 1009 (by decide +kernel) (by decide +kernel)
theorem mw_998 : (Cond.instanceMethod ({ cls := "ClockLots", name := "leastMissed", desc := "()I" } : MethodName)) ∈ wB := inB 1010 (by decide +kernel) (by decide +kernel)
theorem mw_999 : (Cond.selects "ClockLots" ({ cls := "ClockLots", name := "leastMissed", desc := "()I" } : MethodName) ({ cls := "ClockLots", name := "leastMissed", desc := "()I" } : MethodName)) ∈ wB := inB 1011 (by decide +kernel) (by decide +kernel)
theorem mw_1000 : (Cond.code ({ cls := "ClockLots", name := "leastMissed", desc := "()I" } : MethodName) prog_1_method_27_code (5 : Nat) (Option.some FieldType.int)) ∈ wB := inB 1012 (by decide +kernel) (by decide +kernel)
theorem mw_1001 : (Cond.methodLink "ClockLotsLaw" (223 : Nat) ({ cls := "ClockLots", name := "roundsLeft", desc := "()I" } : MethodName)) ∈ wB := inB 1013 (by decide +kernel) (by decide +kernel)
theorem mw_1002 : (Cond.instanceMethod ({ cls := "ClockLots", name := "roundsLeft", desc := "()I" } : MethodName)) ∈ wB := inB 1014 (by decide +kernel) (by decide +kernel)
theorem mw_1003 : (Cond.selects "ClockLots" ({ cls := "ClockLots", name := "roundsLeft", desc := "()I" } : MethodName) ({ cls := "ClockLots", name := "roundsLeft", desc := "()I" } : MethodName)) ∈ wB := inB 1015 (by decide +kernel) (by decide +kernel)
theorem mw_1004 : (Cond.code ({ cls := "ClockLots", name := "roundsLeft", desc := "()I" } : MethodName) prog_1_method_29_code (2 : Nat) (Option.some FieldType.int)) ∈ wB := inB 1016 (by decide +kernel) (by decide +kernel)
theorem mw_1005 : (Cond.methodLink "ClockLotsLaw" (238 : Nat) ({ cls := "ClockLotsLaw", name := "act", desc := "(LClockLots;II)I" } : MethodName)) ∈ wB := inB 1017 (by decide +kernel) (by decide +kernel)
theorem mw_1006 : (Cond.static ({ cls := "ClockLotsLaw", name := "act", desc := "(LClockLots;II)I" } : MethodName)) ∈ wB := inB 1018 (by decide +kernel) (by decide +kernel)
theorem mw_1007 : (Cond.code ({ cls := "ClockLotsLaw", name := "act", desc := "(LClockLots;II)I" } : MethodName) method_35_code (6 : Nat) (Option.some FieldType.int)) ∈ wB := inB 1019 (by decide +kernel) (by decide +kernel)
theorem mw_1008 : (Cond.methodLink "ClockLotsLaw" (226 : Nat) ({ cls := "ClockLots", name := "clearText", desc := "()I" } : MethodName)) ∈ wB := inB 1020 (by decide +kernel) (by decide +kernel)
theorem mw_1009 : (Cond.instanceMethod ({ cls := "ClockLots", name := "clearText", desc := "()I" } : MethodName)) ∈ wB := inB 1021 (by decide +kernel) (by decide +kernel)
theorem mw_1010 : (Cond.selects "ClockLots" ({ cls := "ClockLots", name := "clearText", desc := "()I" } : MethodName) ({ cls := "ClockLots", name := "clearText", desc := "()I" } : MethodName)) ∈ wB := inB 1022 (by decide +kernel) (by decide +kernel)
theorem mw_1011 : (Cond.code ({ cls := "ClockLots", name := "clearText", desc := "()I" } : MethodName) prog_1_method_3_code (1 : Nat) (Option.some FieldType.int)) ∈ wB := inB 1023 (by decide +kernel) (by decide +kernel)
theorem mw_1012 : (Cond.methodLink "ClockLots" (72 : Nat) ({ cls := "ClockLots$Text", name := "empty", desc := "()I" } : MethodName)) ∈ wB := inB 1024 (by decide +kernel) (by decide +kernel)
theorem mw_1013 : (Cond.instanceMethod ({ cls := "ClockLots$Text", name := "empty", desc := "()I" } : MethodName)) ∈ wB := inB 1025 (by decide +kernel) (by decide +kernel)
theorem mw_1014 : (Cond.selects "ClockLots$Text" ({ cls := "ClockLots$Text", name := "empty", desc := "()I" } : MethodName) ({ cls := "ClockLots$Text", name := "empty", desc := "()I" } : MethodName)) ∈ wB := inB 1026 (by decide +kernel) (by decide +kernel)
theorem mw_1015 : (Cond.code ({ cls := "ClockLots$Text", name := "empty", desc := "()I" } : MethodName) prog_6_method_4_code (2 : Nat) (Option.some FieldType.int)) ∈ wB := inB 1027 (by decide +kernel) (by decide +kernel)
theorem mw_1016 : (Cond.constantLong "ClockLotsLaw" (248 : Nat) (3434249917 : Int64)) ∈ wB := inB 1028 (by decide +kernel) (by decide +kernel)
theorem mw_1017 : (Cond.constantLong "ClockLotsLaw" (250 : Nat) (821 : Int64)) ∈ wB := inB 1029 (by decide +kernel) (by decide +kernel)
theorem mw_1018 : (Cond.constantLong "ClockLotsLaw" (252 : Nat) (4 : Int64)) ∈ wB := inB 1030 (by decide +kernel) (by decide +kernel)
theorem mt_1019 : (Cond.sameMethod "java/lang/Throwable" "java/lang/Throwable" "fillInStackTrace" "(I)Ljava/lang/Throwable;") ∈ lw_tbl := inT 1031 (by decide +kernel)
theorem mw_1020 : (Cond.fieldLink "java/lang/String" (15 : Nat) "java/lang/String" "coder" "B") ∈ wB := inB 1032 (by decide +kernel) (by decide +kernel)
theorem mw_1021 : (Cond.fieldLink "java/lang/String" (9 : Nat) "java/lang/String" "value" "[B") ∈ wB := inB 1033 (by decide +kernel) (by decide +kernel)
