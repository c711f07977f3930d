def RX0 : String := "RibbedLoans$City"
def TX0 : u_T := fun k => match k with
  | 0 => ("RibbedLoans$City", "umbrellas", "LRibbedLoans$Umbrellas;", true)
  | 1 => ("RibbedLoans$City", "rooms", "LRibbedLoans$Row;", true)
  | 2 => ("RibbedLoans$City", "purses", "LRibbedLoans$Row;", true)
  | 3 => ("RibbedLoans$City", "showers", "LRibbedLoans$Row;", true)
  | 4 => ("RibbedLoans$City", "homes", "LRibbedLoans$Row;", true)
  | 5 => ("RibbedLoans$City", "paid", "LRibbedLoans$Row;", true)
  | 6 => ("RibbedLoans$City", "hours", "I", false)
  | 7 => ("RibbedLoans$City", "house", "I", false)
  | 8 => ("RibbedLoans$City", "spent", "I", false)
  | 9 => ("RibbedLoans$City", "loans", "I", false)
  | 10 => ("RibbedLoans$City", "surges", "I", false)
  | _ => ("RibbedLoans$City", "rate", "I", false)
def tyX0 : Nat → FieldType := fun k => match k with
  | 0 => .object "RibbedLoans$Umbrellas"
  | 1 => .object "RibbedLoans$Row"
  | 2 => .object "RibbedLoans$Row"
  | 3 => .object "RibbedLoans$Row"
  | 4 => .object "RibbedLoans$Row"
  | 5 => .object "RibbedLoans$Row"
  | 6 => .int
  | 7 => .int
  | 8 => .int
  | 9 => .int
  | 10 => .int
  | _ => .int
theorem nmX0 : ∀ a, a < 12 → ∀ b, b < 12 → a ≠ b → (TX0 a).2.1 ≠ (TX0 b).2.1 := by decide +kernel
theorem tyX0_ok : ∀ k, k < 12 → parseFieldDescriptor (TX0 k).2.2.1 = some (tyX0 k) := by decide +kernel
abbrev cX0_init : ByteArray := prog_2_method_1_code
def yX0_init : MethodName := ⟨RX0, "<init>", "()V"⟩
abbrev cX0_copyFrom : ByteArray := prog_2_method_2_code
def yX0_copyFrom : MethodName := ⟨RX0, "copyFrom", "(LRibbedLoans$City;)V"⟩
abbrev cX0_spendable : ByteArray := prog_2_method_3_code
def yX0_spendable : MethodName := ⟨RX0, "spendable", "()I"⟩
abbrev cX0_spend : ByteArray := prog_2_method_4_code
def yX0_spend : MethodName := ⟨RX0, "spend", "(I)V"⟩
abbrev cX0_freeAt : ByteArray := prog_2_method_5_code
def yX0_freeAt : MethodName := ⟨RX0, "freeAt", "(I)I"⟩
abbrev cX0_hasOne : ByteArray := prog_2_method_6_code
def yX0_hasOne : MethodName := ⟨RX0, "hasOne", "(I)Z"⟩
abbrev cX0_inHand : ByteArray := prog_2_method_7_code
def yX0_inHand : MethodName := ⟨RX0, "inHand", "(I)I"⟩
abbrev cX0_buyingError : ByteArray := prog_2_method_8_code
def yX0_buyingError : MethodName := ⟨RX0, "buyingError", "(II)I"⟩
abbrev cX0_purchase : ByteArray := prog_2_method_9_code
def yX0_purchase : MethodName := ⟨RX0, "purchase", "(II)I"⟩
abbrev cX0_settingError : ByteArray := prog_2_method_10_code
def yX0_settingError : MethodName := ⟨RX0, "settingError", "(II)I"⟩
abbrev cX0_change : ByteArray := prog_2_method_11_code
def yX0_change : MethodName := ⟨RX0, "change", "(II)I"⟩
abbrev cX0_lendingError : ByteArray := prog_2_method_12_code
def yX0_lendingError : MethodName := ⟨RX0, "lendingError", "(II)I"⟩
abbrev cX0_wouldBorrow : ByteArray := prog_2_method_13_code
def yX0_wouldBorrow : MethodName := ⟨RX0, "wouldBorrow", "(I)Z"⟩
abbrev cX0_lend : ByteArray := prog_2_method_14_code
def yX0_lend : MethodName := ⟨RX0, "lend", "(II)I"⟩
abbrev cX0_handOut : ByteArray := prog_2_method_15_code
def yX0_handOut : MethodName := ⟨RX0, "handOut", "(II)V"⟩
abbrev cX0_returningError : ByteArray := prog_2_method_16_code
def yX0_returningError : MethodName := ⟨RX0, "returningError", "(II)I"⟩
abbrev cX0_takeBack : ByteArray := prog_2_method_17_code
def yX0_takeBack : MethodName := ⟨RX0, "takeBack", "(II)I"⟩
abbrev cX0_feeAfter : ByteArray := prog_2_method_18_code
def yX0_feeAfter : MethodName := ⟨RX0, "feeAfter", "(III)I"⟩
abbrev cX0_hoursToBreak : ByteArray := prog_2_method_19_code
def yX0_hoursToBreak : MethodName := ⟨RX0, "hoursToBreak", "(III)I"⟩
abbrev cX0_passingError : ByteArray := prog_2_method_20_code
def yX0_passingError : MethodName := ⟨RX0, "passingError", "(II)I"⟩
abbrev cX0_passHour : ByteArray := prog_2_method_21_code
def yX0_passHour : MethodName := ⟨RX0, "passHour", "(II)I"⟩
abbrev cX0_countShower : ByteArray := prog_2_method_22_code
def yX0_countShower : MethodName := ⟨RX0, "countShower", "()V"⟩
abbrev cX0_wearDown : ByteArray := prog_2_method_23_code
def yX0_wearDown : MethodName := ⟨RX0, "wearDown", "(II)I"⟩
abbrev cX0_surge : ByteArray := prog_2_method_24_code
def yX0_surge : MethodName := ⟨RX0, "surge", "()V"⟩
abbrev cX0_lackAt : ByteArray := prog_2_method_25_code
def yX0_lackAt : MethodName := ⟨RX0, "lackAt", "(I)I"⟩
abbrev cX0_loadingError : ByteArray := prog_2_method_26_code
def yX0_loadingError : MethodName := ⟨RX0, "loadingError", "(III)I"⟩
abbrev cX0_fillVan : ByteArray := prog_2_method_27_code
def yX0_fillVan : MethodName := ⟨RX0, "fillVan", "(III)I"⟩
abbrev cX0_unloadingError : ByteArray := prog_2_method_28_code
def yX0_unloadingError : MethodName := ⟨RX0, "unloadingError", "(III)I"⟩
abbrev cX0_emptyVan : ByteArray := prog_2_method_29_code
def yX0_emptyVan : MethodName := ⟨RX0, "emptyVan", "(III)I"⟩
abbrev cX0_deliveringError : ByteArray := prog_2_method_30_code
def yX0_deliveringError : MethodName := ⟨RX0, "deliveringError", "(I)I"⟩
abbrev cX0_deliver : ByteArray := prog_2_method_31_code
def yX0_deliver : MethodName := ⟨RX0, "deliver", "(I)I"⟩
abbrev cX0_mendingError : ByteArray := prog_2_method_32_code
def yX0_mendingError : MethodName := ⟨RX0, "mendingError", "(I)I"⟩
abbrev cX0_mendOne : ByteArray := prog_2_method_33_code
def yX0_mendOne : MethodName := ⟨RX0, "mendOne", "(I)I"⟩
abbrev cX0_evenOut : ByteArray := prog_2_method_34_code
def yX0_evenOut : MethodName := ⟨RX0, "evenOut", "()I"⟩
abbrev cX0_fullest : ByteArray := prog_2_method_35_code
def yX0_fullest : MethodName := ⟨RX0, "fullest", "()I"⟩
abbrev cX0_emptiestWithRoom : ByteArray := prog_2_method_36_code
def yX0_emptiestWithRoom : MethodName := ⟨RX0, "emptiestWithRoom", "()I"⟩
def RX1 : String := "RibbedLoans$History"
def TX1 : u_T := fun k => match k with
  | 0 => ("RibbedLoans$History", "ring", "[LRibbedLoans$State;", true)
  | 1 => ("RibbedLoans$History", "next", "I", false)
  | _ => ("RibbedLoans$History", "size", "I", false)
def tyX1 : Nat → FieldType := fun k => match k with
  | 0 => .array (.object "RibbedLoans$State")
  | 1 => .int
  | _ => .int
theorem nmX1 : ∀ a, a < 3 → ∀ b, b < 3 → a ≠ b → (TX1 a).2.1 ≠ (TX1 b).2.1 := by decide +kernel
theorem tyX1_ok : ∀ k, k < 3 → parseFieldDescriptor (TX1 k).2.2.1 = some (tyX1 k) := by decide +kernel
abbrev cX1_init : ByteArray := prog_3_method_1_code
def yX1_init : MethodName := ⟨RX1, "<init>", "()V"⟩
abbrev cX1_record : ByteArray := prog_3_method_2_code
def yX1_record : MethodName := ⟨RX1, "record", "(LRibbedLoans$State;)V"⟩
abbrev cX1_moveLatestTo : ByteArray := prog_3_method_3_code
def yX1_moveLatestTo : MethodName := ⟨RX1, "moveLatestTo", "(LRibbedLoans$State;)V"⟩
def RX2 : String := "RibbedLoans$Row"
def TX2 : u_T := fun k => match k with
  | _ => ("RibbedLoans$Row", "cells", "[I", true)
def tyX2 : Nat → FieldType := fun k => match k with
  | _ => .array .int
theorem nmX2 : ∀ a, a < 1 → ∀ b, b < 1 → a ≠ b → (TX2 a).2.1 ≠ (TX2 b).2.1 := by decide +kernel
theorem tyX2_ok : ∀ k, k < 1 → parseFieldDescriptor (TX2 k).2.2.1 = some (tyX2 k) := by decide +kernel
abbrev cX2_init : ByteArray := prog_4_method_1_code
def yX2_init : MethodName := ⟨RX2, "<init>", "(II)V"⟩
abbrev cX2_at : ByteArray := prog_4_method_2_code
def yX2_at : MethodName := ⟨RX2, "at", "(I)I"⟩
abbrev cX2_put : ByteArray := prog_4_method_3_code
def yX2_put : MethodName := ⟨RX2, "put", "(II)V"⟩
abbrev cX2_add : ByteArray := prog_4_method_4_code
def yX2_add : MethodName := ⟨RX2, "add", "(II)V"⟩
abbrev cX2_sum : ByteArray := prog_4_method_5_code
def yX2_sum : MethodName := ⟨RX2, "sum", "()I"⟩
abbrev cX2_copyFrom : ByteArray := prog_4_method_6_code
def yX2_copyFrom : MethodName := ⟨RX2, "copyFrom", "(LRibbedLoans$Row;)V"⟩
def RX3 : String := "RibbedLoans$State"
def TX3 : u_T := fun k => match k with
  | 0 => ("RibbedLoans$State", "city", "LRibbedLoans$City;", true)
  | 1 => ("RibbedLoans$State", "snapshot0", "LRibbedLoans$City;", true)
  | 2 => ("RibbedLoans$State", "snapshot1", "LRibbedLoans$City;", true)
  | 3 => ("RibbedLoans$State", "kept0", "Z", false)
  | _ => ("RibbedLoans$State", "kept1", "Z", false)
def tyX3 : Nat → FieldType := fun k => match k with
  | 0 => .object "RibbedLoans$City"
  | 1 => .object "RibbedLoans$City"
  | 2 => .object "RibbedLoans$City"
  | 3 => .boolean
  | _ => .boolean
theorem nmX3 : ∀ a, a < 5 → ∀ b, b < 5 → a ≠ b → (TX3 a).2.1 ≠ (TX3 b).2.1 := by decide +kernel
theorem tyX3_ok : ∀ k, k < 5 → parseFieldDescriptor (TX3 k).2.2.1 = some (tyX3 k) := by decide +kernel
abbrev cX3_init : ByteArray := prog_5_method_1_code
def yX3_init : MethodName := ⟨RX3, "<init>", "()V"⟩
abbrev cX3_copyFrom : ByteArray := prog_5_method_2_code
def yX3_copyFrom : MethodName := ⟨RX3, "copyFrom", "(LRibbedLoans$State;)V"⟩
abbrev cX3_snapshot : ByteArray := prog_5_method_3_code
def yX3_snapshot : MethodName := ⟨RX3, "snapshot", "(I)LRibbedLoans$City;"⟩
abbrev cX3_isKept : ByteArray := prog_5_method_4_code
def yX3_isKept : MethodName := ⟨RX3, "isKept", "(I)Z"⟩
abbrev cX3_numberKept : ByteArray := prog_5_method_5_code
def yX3_numberKept : MethodName := ⟨RX3, "numberKept", "()I"⟩
abbrev cX3_keep : ByteArray := prog_5_method_6_code
def yX3_keep : MethodName := ⟨RX3, "keep", "(I)V"⟩
abbrev cX3_bringUp : ByteArray := prog_5_method_7_code
def yX3_bringUp : MethodName := ⟨RX3, "bringUp", "(I)V"⟩
def RX4 : String := "RibbedLoans$Text"
def TX4 : u_T := fun k => match k with
  | 0 => ("RibbedLoans$Text", "characters", "[C", true)
  | 1 => ("RibbedLoans$Text", "length", "I", false)
  | 2 => ("RibbedLoans$Text", "cursor", "I", false)
  | 3 => ("RibbedLoans$Text", "verb", "I", false)
  | 4 => ("RibbedLoans$Text", "first", "I", false)
  | _ => ("RibbedLoans$Text", "second", "I", false)
def tyX4 : Nat → FieldType := fun k => match k with
  | 0 => .array .char
  | 1 => .int
  | 2 => .int
  | 3 => .int
  | 4 => .int
  | _ => .int
theorem nmX4 : ∀ a, a < 6 → ∀ b, b < 6 → a ≠ b → (TX4 a).2.1 ≠ (TX4 b).2.1 := by decide +kernel
theorem tyX4_ok : ∀ k, k < 6 → parseFieldDescriptor (TX4 k).2.2.1 = some (tyX4 k) := by decide +kernel
abbrev cX4_init : ByteArray := prog_6_method_1_code
def yX4_init : MethodName := ⟨RX4, "<init>", "()V"⟩
abbrev cX4_add : ByteArray := prog_6_method_2_code
def yX4_add : MethodName := ⟨RX4, "add", "(I)V"⟩
abbrev cX4_fault : ByteArray := prog_6_method_3_code
def yX4_fault : MethodName := ⟨RX4, "fault", "()I"⟩
abbrev cX4_rewind : ByteArray := prog_6_method_4_code
def yX4_rewind : MethodName := ⟨RX4, "rewind", "()V"⟩
abbrev cX4_readOrder : ByteArray := prog_6_method_5_code
def yX4_readOrder : MethodName := ⟨RX4, "readOrder", "()Z"⟩
abbrev cX4_readNumbers : ByteArray := prog_6_method_6_code
def yX4_readNumbers : MethodName := ⟨RX4, "readNumbers", "(C)Z"⟩
abbrev cX4_readNumber : ByteArray := prog_6_method_7_code
def yX4_readNumber : MethodName := ⟨RX4, "readNumber", "()I"⟩
abbrev cX4_readDigit : ByteArray := prog_6_method_8_code
def yX4_readDigit : MethodName := ⟨RX4, "readDigit", "()I"⟩
abbrev cX4_accept : ByteArray := prog_6_method_9_code
def yX4_accept : MethodName := ⟨RX4, "accept", "(C)Z"⟩
abbrev cX4_peek : ByteArray := prog_6_method_10_code
def yX4_peek : MethodName := ⟨RX4, "peek", "()I"⟩
def RX5 : String := "RibbedLoans$Umbrellas"
def TX5 : u_T := fun k => match k with
  | 0 => ("RibbedLoans$Umbrellas", "spots", "LRibbedLoans$Row;", true)
  | 1 => ("RibbedLoans$Umbrellas", "wears", "LRibbedLoans$Row;", true)
  | 2 => ("RibbedLoans$Umbrellas", "lendings", "LRibbedLoans$Row;", true)
  | 3 => ("RibbedLoans$Umbrellas", "tally", "LRibbedLoans$Row;", true)
  | _ => ("RibbedLoans$Umbrellas", "number", "I", false)
def tyX5 : Nat → FieldType := fun k => match k with
  | 0 => .object "RibbedLoans$Row"
  | 1 => .object "RibbedLoans$Row"
  | 2 => .object "RibbedLoans$Row"
  | 3 => .object "RibbedLoans$Row"
  | _ => .int
theorem nmX5 : ∀ a, a < 5 → ∀ b, b < 5 → a ≠ b → (TX5 a).2.1 ≠ (TX5 b).2.1 := by decide +kernel
theorem tyX5_ok : ∀ k, k < 5 → parseFieldDescriptor (TX5 k).2.2.1 = some (tyX5 k) := by decide +kernel
abbrev cX5_init : ByteArray := prog_7_method_1_code
def yX5_init : MethodName := ⟨RX5, "<init>", "()V"⟩
abbrev cX5_copyFrom : ByteArray := prog_7_method_2_code
def yX5_copyFrom : MethodName := ⟨RX5, "copyFrom", "(LRibbedLoans$Umbrellas;)V"⟩
abbrev cX5_addNew : ByteArray := prog_7_method_3_code
def yX5_addNew : MethodName := ⟨RX5, "addNew", "(I)V"⟩
abbrev cX5_move : ByteArray := prog_7_method_4_code
def yX5_move : MethodName := ⟨RX5, "move", "(II)V"⟩
abbrev cX5_isBroken : ByteArray := prog_7_method_5_code
def yX5_isBroken : MethodName := ⟨RX5, "isBroken", "(I)Z"⟩
abbrev cX5_numberAt : ByteArray := prog_7_method_6_code
def yX5_numberAt : MethodName := ⟨RX5, "numberAt", "(I)I"⟩
abbrev cX5_numberOfKind : ByteArray := prog_7_method_7_code
def yX5_numberOfKind : MethodName := ⟨RX5, "numberOfKind", "(I)I"⟩
abbrev cX5_numberBroken : ByteArray := prog_7_method_8_code
def yX5_numberBroken : MethodName := ⟨RX5, "numberBroken", "()I"⟩
abbrev cX5_brokenAt : ByteArray := prog_7_method_9_code
def yX5_brokenAt : MethodName := ⟨RX5, "brokenAt", "(I)I"⟩
abbrev cX5_wholeAt : ByteArray := prog_7_method_10_code
def yX5_wholeAt : MethodName := ⟨RX5, "wholeAt", "(I)I"⟩
abbrev cX5_nthAt : ByteArray := prog_7_method_11_code
def yX5_nthAt : MethodName := ⟨RX5, "nthAt", "(II)I"⟩
abbrev cX5_leastWornAt : ByteArray := prog_7_method_12_code
def yX5_leastWornAt : MethodName := ⟨RX5, "leastWornAt", "(III)I"⟩
abbrev cX5_bestAt : ByteArray := prog_7_method_13_code
def yX5_bestAt : MethodName := ⟨RX5, "bestAt", "(I)I"⟩
abbrev cX5_worstAt : ByteArray := prog_7_method_14_code
def yX5_worstAt : MethodName := ⟨RX5, "worstAt", "(I)I"⟩
abbrev cX5_meanWearAt : ByteArray := prog_7_method_15_code
def yX5_meanWearAt : MethodName := ⟨RX5, "meanWearAt", "(I)I"⟩
def RX6 : String := "RibbedLoans"
def TX6 : u_T := fun k => match k with
  | 0 => ("RibbedLoans", "now", "LRibbedLoans$State;", true)
  | 1 => ("RibbedLoans", "history", "LRibbedLoans$History;", true)
  | _ => ("RibbedLoans", "text", "LRibbedLoans$Text;", true)
def tyX6 : Nat → FieldType := fun k => match k with
  | 0 => .object "RibbedLoans$State"
  | 1 => .object "RibbedLoans$History"
  | _ => .object "RibbedLoans$Text"
theorem nmX6 : ∀ a, a < 3 → ∀ b, b < 3 → a ≠ b → (TX6 a).2.1 ≠ (TX6 b).2.1 := by decide +kernel
theorem tyX6_ok : ∀ k, k < 3 → parseFieldDescriptor (TX6 k).2.2.1 = some (tyX6 k) := by decide +kernel
abbrev cX6_init : ByteArray := prog_1_method_1_code
def yX6_init : MethodName := ⟨RX6, "<init>", "()V"⟩
abbrev cX6_buy : ByteArray := prog_1_method_2_code
def yX6_buy : MethodName := ⟨RX6, "buy", "(II)I"⟩
abbrev cX6_set : ByteArray := prog_1_method_3_code
def yX6_set : MethodName := ⟨RX6, "set", "(II)I"⟩
abbrev cX6_borrow : ByteArray := prog_1_method_4_code
def yX6_borrow : MethodName := ⟨RX6, "borrow", "(II)I"⟩
abbrev cX6_bringBack : ByteArray := prog_1_method_5_code
def yX6_bringBack : MethodName := ⟨RX6, "bringBack", "(II)I"⟩
abbrev cX6_hour : ByteArray := prog_1_method_6_code
def yX6_hour : MethodName := ⟨RX6, "hour", "(II)I"⟩
abbrev cX6_load : ByteArray := prog_1_method_7_code
def yX6_load : MethodName := ⟨RX6, "load", "(III)I"⟩
abbrev cX6_unload : ByteArray := prog_1_method_8_code
def yX6_unload : MethodName := ⟨RX6, "unload", "(III)I"⟩
abbrev cX6_toWorkshop : ByteArray := prog_1_method_9_code
def yX6_toWorkshop : MethodName := ⟨RX6, "toWorkshop", "(I)I"⟩
abbrev cX6_mend : ByteArray := prog_1_method_10_code
def yX6_mend : MethodName := ⟨RX6, "mend", "(I)I"⟩
abbrev cX6_level : ByteArray := prog_1_method_11_code
def yX6_level : MethodName := ⟨RX6, "level", "()I"⟩
abbrev cX6_take : ByteArray := prog_1_method_12_code
def yX6_take : MethodName := ⟨RX6, "take", "(I)I"⟩
abbrev cX6_restore : ByteArray := prog_1_method_13_code
def yX6_restore : MethodName := ⟨RX6, "restore", "(I)I"⟩
abbrev cX6_undo : ByteArray := prog_1_method_14_code
def yX6_undo : MethodName := ⟨RX6, "undo", "()I"⟩
abbrev cX6_append : ByteArray := prog_1_method_15_code
def yX6_append : MethodName := ⟨RX6, "append", "(I)I"⟩
abbrev cX6_clearText : ByteArray := prog_1_method_16_code
def yX6_clearText : MethodName := ⟨RX6, "clearText", "()I"⟩
abbrev cX6_carryOut : ByteArray := prog_1_method_17_code
def yX6_carryOut : MethodName := ⟨RX6, "carryOut", "()I"⟩
abbrev cX6_obey : ByteArray := prog_1_method_18_code
def yX6_obey : MethodName := ⟨RX6, "obey", "()I"⟩
abbrev cX6_count : ByteArray := prog_1_method_19_code
def yX6_count : MethodName := ⟨RX6, "count", "(I)I"⟩
abbrev cX6_umbrella : ByteArray := prog_1_method_20_code
def yX6_umbrella : MethodName := ⟨RX6, "umbrella", "(II)I"⟩
abbrev cX6_stand : ByteArray := prog_1_method_21_code
def yX6_stand : MethodName := ⟨RX6, "stand", "(II)I"⟩
abbrev cX6_person : ByteArray := prog_1_method_22_code
def yX6_person : MethodName := ⟨RX6, "person", "(II)I"⟩
abbrev cX6_inVan : ByteArray := prog_1_method_23_code
def yX6_inVan : MethodName := ⟨RX6, "inVan", "(II)I"⟩
abbrev cX6_feeIn : ByteArray := prog_1_method_24_code
def yX6_feeIn : MethodName := ⟨RX6, "feeIn", "(III)I"⟩
abbrev cX6_breaksIn : ByteArray := prog_1_method_25_code
def yX6_breaksIn : MethodName := ⟨RX6, "breaksIn", "(III)I"⟩
abbrev cX6_emptied : ByteArray := prog_1_method_26_code
def yX6_emptied : MethodName := ⟨RX6, "emptied", "()I"⟩
abbrev cX6_shortest : ByteArray := prog_1_method_27_code
def yX6_shortest : MethodName := ⟨RX6, "shortest", "(I)I"⟩
abbrev cX6_outside : ByteArray := prog_1_method_28_code
def yX6_outside : MethodName := ⟨RX6, "outside", "(III)Z"⟩
abbrev cX6_kindOf : ByteArray := prog_1_method_29_code
def yX6_kindOf : MethodName := ⟨RX6, "kindOf", "(I)I"⟩
abbrev cX6_ownerOf : ByteArray := prog_1_method_30_code
def yX6_ownerOf : MethodName := ⟨RX6, "ownerOf", "(I)I"⟩
abbrev cX6_wornBy : ByteArray := prog_1_method_31_code
def yX6_wornBy : MethodName := ⟨RX6, "wornBy", "(III)I"⟩
def RX7 : String := "RibbedLoansModel"
def TX7 : u_T := fun k => match k with
  | 0 => ("RibbedLoansModel", "p", "[I", true)
  | 1 => ("RibbedLoansModel", "saved", "[I", true)
  | 2 => ("RibbedLoansModel", "aside", "[I", true)
  | 3 => ("RibbedLoansModel", "states", "I", false)
  | 4 => ("RibbedLoansModel", "text", "[I", true)
  | 5 => ("RibbedLoansModel", "length", "I", false)
  | 6 => ("RibbedLoansModel", "at", "I", false)
  | 7 => ("RibbedLoansModel", "letter", "I", false)
  | 8 => ("RibbedLoansModel", "one", "I", false)
  | 9 => ("RibbedLoansModel", "two", "I", false)
  | _ => ("RibbedLoansModel", "number", "I", false)
def tyX7 : Nat → FieldType := fun k => match k with
  | 0 => .array .int
  | 1 => .array .int
  | 2 => .array .int
  | 3 => .int
  | 4 => .array .int
  | 5 => .int
  | 6 => .int
  | 7 => .int
  | 8 => .int
  | 9 => .int
  | _ => .int
theorem nmX7 : ∀ a, a < 11 → ∀ b, b < 11 → a ≠ b → (TX7 a).2.1 ≠ (TX7 b).2.1 := by decide +kernel
theorem tyX7_ok : ∀ k, k < 11 → parseFieldDescriptor (TX7 k).2.2.1 = some (tyX7 k) := by decide +kernel
abbrev cX7_init : ByteArray := prog_9_method_1_code
def yX7_init : MethodName := ⟨RX7, "<init>", "()V"⟩
abbrev cX7_in : ByteArray := prog_9_method_3_code
def yX7_in : MethodName := ⟨RX7, "in", "(III)Z"⟩
abbrev cX7_isStand : ByteArray := prog_9_method_4_code
def yX7_isStand : MethodName := ⟨RX7, "isStand", "(I)Z"⟩
abbrev cX7_isPerson : ByteArray := prog_9_method_5_code
def yX7_isPerson : MethodName := ⟨RX7, "isPerson", "(I)Z"⟩
abbrev cX7_save : ByteArray := prog_9_method_6_code
def yX7_save : MethodName := ⟨RX7, "save", "()V"⟩
abbrev cX7_isAt : ByteArray := prog_9_method_7_code
def yX7_isAt : MethodName := ⟨RX7, "isAt", "(III)Z"⟩
abbrev cX7_manyAt : ByteArray := prog_9_method_8_code
def yX7_manyAt : MethodName := ⟨RX7, "manyAt", "(II)I"⟩
abbrev cX7_manyIn : ByteArray := prog_9_method_9_code
def yX7_manyIn : MethodName := ⟨RX7, "manyIn", "(I)I"⟩
abbrev cX7_isBroken : ByteArray := prog_9_method_10_code
def yX7_isBroken : MethodName := ⟨RX7, "isBroken", "(I)Z"⟩
abbrev cX7_brokenAt : ByteArray := prog_9_method_11_code
def yX7_brokenAt : MethodName := ⟨RX7, "brokenAt", "(II)I"⟩
abbrev cX7_goes : ByteArray := prog_9_method_12_code
def yX7_goes : MethodName := ⟨RX7, "goes", "(III)V"⟩
abbrev cX7_bestOf : ByteArray := prog_9_method_13_code
def yX7_bestOf : MethodName := ⟨RX7, "bestOf", "(I)I"⟩
abbrev cX7_worstOf : ByteArray := prog_9_method_14_code
def yX7_worstOf : MethodName := ⟨RX7, "worstOf", "(I)I"⟩
abbrev cX7_roomOf : ByteArray := prog_9_method_15_code
def yX7_roomOf : MethodName := ⟨RX7, "roomOf", "(I)I"⟩
abbrev cX7_canSpend : ByteArray := prog_9_method_16_code
def yX7_canSpend : MethodName := ⟨RX7, "canSpend", "(I)Z"⟩
abbrev cX7_spends : ByteArray := prog_9_method_17_code
def yX7_spends : MethodName := ⟨RX7, "spends", "(I)V"⟩
abbrev cX7_buy : ByteArray := prog_9_method_18_code
def yX7_buy : MethodName := ⟨RX7, "buy", "(II)I"⟩
abbrev cX7_set : ByteArray := prog_9_method_19_code
def yX7_set : MethodName := ⟨RX7, "set", "(II)I"⟩
abbrev cX7_canBorrow : ByteArray := prog_9_method_20_code
def yX7_canBorrow : MethodName := ⟨RX7, "canBorrow", "(I)Z"⟩
abbrev cX7_whyBorrow : ByteArray := prog_9_method_21_code
def yX7_whyBorrow : MethodName := ⟨RX7, "whyBorrow", "(II)I"⟩
abbrev cX7_borrows : ByteArray := prog_9_method_22_code
def yX7_borrows : MethodName := ⟨RX7, "borrows", "(II)I"⟩
abbrev cX7_borrow : ByteArray := prog_9_method_23_code
def yX7_borrow : MethodName := ⟨RX7, "borrow", "(II)I"⟩
abbrev cX7_fee : ByteArray := prog_9_method_24_code
def yX7_fee : MethodName := ⟨RX7, "fee", "(IZ)I"⟩
abbrev cX7_whyBring : ByteArray := prog_9_method_25_code
def yX7_whyBring : MethodName := ⟨RX7, "whyBring", "(II)I"⟩
abbrev cX7_brings : ByteArray := prog_9_method_26_code
def yX7_brings : MethodName := ⟨RX7, "brings", "(II)I"⟩
abbrev cX7_bringBack : ByteArray := prog_9_method_27_code
def yX7_bringBack : MethodName := ⟨RX7, "bringBack", "(II)I"⟩
abbrev cX7_worn : ByteArray := prog_9_method_28_code
def yX7_worn : MethodName := ⟨RX7, "worn", "(III)I"⟩
abbrev cX7_passes : ByteArray := prog_9_method_29_code
def yX7_passes : MethodName := ⟨RX7, "passes", "(II)I"⟩
abbrev cX7_whyHour : ByteArray := prog_9_method_30_code
def yX7_whyHour : MethodName := ⟨RX7, "whyHour", "(II)I"⟩
abbrev cX7_hour : ByteArray := prog_9_method_31_code
def yX7_hour : MethodName := ⟨RX7, "hour", "(II)I"⟩
abbrev cX7_isLoad : ByteArray := prog_9_method_32_code
def yX7_isLoad : MethodName := ⟨RX7, "isLoad", "(III)Z"⟩
abbrev cX7_load : ByteArray := prog_9_method_33_code
def yX7_load : MethodName := ⟨RX7, "load", "(III)I"⟩
abbrev cX7_unload : ByteArray := prog_9_method_34_code
def yX7_unload : MethodName := ⟨RX7, "unload", "(III)I"⟩
abbrev cX7_toWorkshop : ByteArray := prog_9_method_35_code
def yX7_toWorkshop : MethodName := ⟨RX7, "toWorkshop", "(I)I"⟩
abbrev cX7_leastInShop : ByteArray := prog_9_method_36_code
def yX7_leastInShop : MethodName := ⟨RX7, "leastInShop", "(I)I"⟩
abbrev cX7_mend : ByteArray := prog_9_method_37_code
def yX7_mend : MethodName := ⟨RX7, "mend", "(I)I"⟩
abbrev cX7_levels : ByteArray := prog_9_method_38_code
def yX7_levels : MethodName := ⟨RX7, "levels", "()I"⟩
abbrev cX7_level : ByteArray := prog_9_method_39_code
def yX7_level : MethodName := ⟨RX7, "level", "()I"⟩
abbrev cX7_take : ByteArray := prog_9_method_40_code
def yX7_take : MethodName := ⟨RX7, "take", "(I)I"⟩
abbrev cX7_restore : ByteArray := prog_9_method_41_code
def yX7_restore : MethodName := ⟨RX7, "restore", "(I)I"⟩
abbrev cX7_undo : ByteArray := prog_9_method_42_code
def yX7_undo : MethodName := ⟨RX7, "undo", "()I"⟩
abbrev cX7_append : ByteArray := prog_9_method_43_code
def yX7_append : MethodName := ⟨RX7, "append", "(I)I"⟩
abbrev cX7_clearText : ByteArray := prog_9_method_44_code
def yX7_clearText : MethodName := ⟨RX7, "clearText", "()I"⟩
abbrev cX7_here : ByteArray := prog_9_method_45_code
def yX7_here : MethodName := ⟨RX7, "here", "()I"⟩
abbrev cX7_passes_ : ByteArray := prog_9_method_46_code
def yX7_passes_ : MethodName := ⟨RX7, "passes", "(I)Z"⟩
abbrev cX7_readNumber : ByteArray := prog_9_method_47_code
def yX7_readNumber : MethodName := ⟨RX7, "readNumber", "()Z"⟩
abbrev cX7_readOrder : ByteArray := prog_9_method_48_code
def yX7_readOrder : MethodName := ⟨RX7, "readOrder", "()Z"⟩
abbrev cX7_faultOf : ByteArray := prog_9_method_49_code
def yX7_faultOf : MethodName := ⟨RX7, "faultOf", "()I"⟩
abbrev cX7_does : ByteArray := prog_9_method_50_code
def yX7_does : MethodName := ⟨RX7, "does", "()Z"⟩
abbrev cX7_carryOut : ByteArray := prog_9_method_51_code
def yX7_carryOut : MethodName := ⟨RX7, "carryOut", "()I"⟩
abbrev cX7_brokenOnes : ByteArray := prog_9_method_52_code
def yX7_brokenOnes : MethodName := ⟨RX7, "brokenOnes", "()I"⟩
abbrev cX7_coinsOfPersons : ByteArray := prog_9_method_53_code
def yX7_coinsOfPersons : MethodName := ⟨RX7, "coinsOfPersons", "()I"⟩
abbrev cX7_count : ByteArray := prog_9_method_54_code
def yX7_count : MethodName := ⟨RX7, "count", "(I)I"⟩
abbrev cX7_umbrella : ByteArray := prog_9_method_55_code
def yX7_umbrella : MethodName := ⟨RX7, "umbrella", "(II)I"⟩
abbrev cX7_told : ByteArray := prog_9_method_56_code
def yX7_told : MethodName := ⟨RX7, "told", "(I)I"⟩
abbrev cX7_meanOf : ByteArray := prog_9_method_57_code
def yX7_meanOf : MethodName := ⟨RX7, "meanOf", "(I)I"⟩
abbrev cX7_stand : ByteArray := prog_9_method_58_code
def yX7_stand : MethodName := ⟨RX7, "stand", "(II)I"⟩
abbrev cX7_person : ByteArray := prog_9_method_59_code
def yX7_person : MethodName := ⟨RX7, "person", "(II)I"⟩
abbrev cX7_inVan : ByteArray := prog_9_method_60_code
def yX7_inVan : MethodName := ⟨RX7, "inVan", "(II)I"⟩
abbrev cX7_feeIn : ByteArray := prog_9_method_61_code
def yX7_feeIn : MethodName := ⟨RX7, "feeIn", "(III)I"⟩
abbrev cX7_breaksIn : ByteArray := prog_9_method_62_code
def yX7_breaksIn : MethodName := ⟨RX7, "breaksIn", "(III)I"⟩
abbrev cX7_wanting : ByteArray := prog_9_method_63_code
def yX7_wanting : MethodName := ⟨RX7, "wanting", "(I)I"⟩
abbrev cX7_emptied : ByteArray := prog_9_method_64_code
def yX7_emptied : MethodName := ⟨RX7, "emptied", "()I"⟩
abbrev cX7_shortest : ByteArray := prog_9_method_65_code
def yX7_shortest : MethodName := ⟨RX7, "shortest", "(I)I"⟩
def RJ9 : String := "java/lang/Math"
abbrev cJ9_max_7cf53 : ByteArray := prog_10_method_65_code
def yJ9_max_7cf53 : MethodName := ⟨RJ9, "max", "(II)I"⟩
abbrev cJ9_min_7cf53 : ByteArray := prog_10_method_69_code
def yJ9_min_7cf53 : MethodName := ⟨RJ9, "min", "(II)I"⟩
def RJ10 : String := "java/lang/System"
def RJ7 : String := "java/util/Arrays"
abbrev cJ7_fill_53178 : ByteArray := prog_12_method_103_code
def yJ7_fill_53178 : MethodName := ⟨RJ7, "fill", "([II)V"⟩
def RL : String := "RibbedLoansLaw"
abbrev cL_law : ByteArray := code
def yL_law : MethodName := ⟨RL, "law", "([I)Z"⟩
abbrev vwCl : List vw_C := [(RX0, TX0, 12), (RX1, TX1, 3), (RX2, TX2, 1), (RX3, TX3, 5), (RX4, TX4, 6), (RX5, TX5, 5), (RX6, TX6, 3), (RX7, TX7, 11)]
def GW : List Cond := lw_tbl.filter goodWord
def mws (y : MethodName) (cc : ByteArray) (ml : Nat) (ret : Option FieldType) : List Cond := .code y cc ml ret :: GW
theorem gw_0 : Cond.selects RX0 yX0_spendable yX0_spendable ∈ GW := List.mem_filter.mpr ⟨List.mem_of_getElem? (i := 0) (by decide +kernel), rfl⟩
theorem gw_1 : Cond.selects RX0 yX0_freeAt yX0_freeAt ∈ GW := List.mem_filter.mpr ⟨List.mem_of_getElem? (i := 1) (by decide +kernel), rfl⟩
theorem gw_2 : Cond.selects RX0 yX0_spend yX0_spend ∈ GW := List.mem_filter.mpr ⟨List.mem_of_getElem? (i := 2) (by decide +kernel), rfl⟩
theorem gw_3 : Cond.selects RX0 yX0_wouldBorrow yX0_wouldBorrow ∈ GW := List.mem_filter.mpr ⟨List.mem_of_getElem? (i := 3) (by decide +kernel), rfl⟩
theorem gw_4 : Cond.selects RX0 yX0_handOut yX0_handOut ∈ GW := List.mem_filter.mpr ⟨List.mem_of_getElem? (i := 4) (by decide +kernel), rfl⟩
theorem gw_5 : Cond.selects RX0 yX0_countShower yX0_countShower ∈ GW := List.mem_filter.mpr ⟨List.mem_of_getElem? (i := 5) (by decide +kernel), rfl⟩
theorem gw_6 : Cond.selects RX0 yX0_wearDown yX0_wearDown ∈ GW := List.mem_filter.mpr ⟨List.mem_of_getElem? (i := 6) (by decide +kernel), rfl⟩
theorem gw_7 : Cond.selects RX0 yX0_surge yX0_surge ∈ GW := List.mem_filter.mpr ⟨List.mem_of_getElem? (i := 7) (by decide +kernel), rfl⟩
theorem gw_8 : Cond.selects RX0 yX0_fullest yX0_fullest ∈ GW := List.mem_filter.mpr ⟨List.mem_of_getElem? (i := 8) (by decide +kernel), rfl⟩
theorem gw_9 : Cond.selects RX0 yX0_emptiestWithRoom yX0_emptiestWithRoom ∈ GW := List.mem_filter.mpr ⟨List.mem_of_getElem? (i := 9) (by decide +kernel), rfl⟩
theorem gw_10 : Cond.selects RX3 yX3_snapshot yX3_snapshot ∈ GW := List.mem_filter.mpr ⟨List.mem_of_getElem? (i := 10) (by decide +kernel), rfl⟩
theorem gw_11 : Cond.selects RX4 yX4_peek yX4_peek ∈ GW := List.mem_filter.mpr ⟨List.mem_of_getElem? (i := 11) (by decide +kernel), rfl⟩
theorem gw_12 : Cond.selects RX4 yX4_readNumbers yX4_readNumbers ∈ GW := List.mem_filter.mpr ⟨List.mem_of_getElem? (i := 12) (by decide +kernel), rfl⟩
theorem gw_13 : Cond.selects RX4 yX4_readNumber yX4_readNumber ∈ GW := List.mem_filter.mpr ⟨List.mem_of_getElem? (i := 13) (by decide +kernel), rfl⟩
theorem gw_14 : Cond.selects RX4 yX4_readDigit yX4_readDigit ∈ GW := List.mem_filter.mpr ⟨List.mem_of_getElem? (i := 14) (by decide +kernel), rfl⟩
theorem gw_15 : Cond.selects RX6 yX6_obey yX6_obey ∈ GW := List.mem_filter.mpr ⟨List.mem_of_getElem? (i := 15) (by decide +kernel), rfl⟩
theorem gw_16 : Cond.selects RX7 yX7_canSpend yX7_canSpend ∈ GW := List.mem_filter.mpr ⟨List.mem_of_getElem? (i := 16) (by decide +kernel), rfl⟩
theorem gw_17 : Cond.selects RX7 yX7_manyIn yX7_manyIn ∈ GW := List.mem_filter.mpr ⟨List.mem_of_getElem? (i := 17) (by decide +kernel), rfl⟩
theorem gw_18 : Cond.selects RX7 yX7_roomOf yX7_roomOf ∈ GW := List.mem_filter.mpr ⟨List.mem_of_getElem? (i := 18) (by decide +kernel), rfl⟩
theorem gw_19 : Cond.selects RX7 yX7_manyAt yX7_manyAt ∈ GW := List.mem_filter.mpr ⟨List.mem_of_getElem? (i := 19) (by decide +kernel), rfl⟩
theorem gw_20 : Cond.selects RX7 yX7_isAt yX7_isAt ∈ GW := List.mem_filter.mpr ⟨List.mem_of_getElem? (i := 20) (by decide +kernel), rfl⟩
theorem gw_21 : Cond.selects RX7 yX7_save yX7_save ∈ GW := List.mem_filter.mpr ⟨List.mem_of_getElem? (i := 21) (by decide +kernel), rfl⟩
theorem gw_22 : Cond.selects RX7 yX7_goes yX7_goes ∈ GW := List.mem_filter.mpr ⟨List.mem_of_getElem? (i := 22) (by decide +kernel), rfl⟩
theorem gw_23 : Cond.selects RX7 yX7_spends yX7_spends ∈ GW := List.mem_filter.mpr ⟨List.mem_of_getElem? (i := 23) (by decide +kernel), rfl⟩
theorem gw_24 : Cond.selects RX7 yX7_whyBorrow yX7_whyBorrow ∈ GW := List.mem_filter.mpr ⟨List.mem_of_getElem? (i := 24) (by decide +kernel), rfl⟩
theorem gw_25 : Cond.selects RX7 yX7_canBorrow yX7_canBorrow ∈ GW := List.mem_filter.mpr ⟨List.mem_of_getElem? (i := 25) (by decide +kernel), rfl⟩
theorem gw_26 : Cond.selects RX7 yX7_bestOf yX7_bestOf ∈ GW := List.mem_filter.mpr ⟨List.mem_of_getElem? (i := 26) (by decide +kernel), rfl⟩
theorem gw_27 : Cond.selects RX7 yX7_isBroken yX7_isBroken ∈ GW := List.mem_filter.mpr ⟨List.mem_of_getElem? (i := 27) (by decide +kernel), rfl⟩
theorem gw_28 : Cond.selects RX7 yX7_borrows yX7_borrows ∈ GW := List.mem_filter.mpr ⟨List.mem_of_getElem? (i := 28) (by decide +kernel), rfl⟩
theorem gw_29 : Cond.selects RX7 yX7_whyBring yX7_whyBring ∈ GW := List.mem_filter.mpr ⟨List.mem_of_getElem? (i := 29) (by decide +kernel), rfl⟩
theorem gw_30 : Cond.selects RX7 yX7_brings yX7_brings ∈ GW := List.mem_filter.mpr ⟨List.mem_of_getElem? (i := 30) (by decide +kernel), rfl⟩
theorem gw_31 : Cond.selects RX7 yX7_fee yX7_fee ∈ GW := List.mem_filter.mpr ⟨List.mem_of_getElem? (i := 31) (by decide +kernel), rfl⟩
theorem gw_32 : Cond.selects RX7 yX7_whyHour yX7_whyHour ∈ GW := List.mem_filter.mpr ⟨List.mem_of_getElem? (i := 32) (by decide +kernel), rfl⟩
theorem gw_33 : Cond.selects RX7 yX7_passes yX7_passes ∈ GW := List.mem_filter.mpr ⟨List.mem_of_getElem? (i := 33) (by decide +kernel), rfl⟩
theorem gw_34 : Cond.selects RX7 yX7_worstOf yX7_worstOf ∈ GW := List.mem_filter.mpr ⟨List.mem_of_getElem? (i := 34) (by decide +kernel), rfl⟩
theorem gw_35 : Cond.selects RX7 yX7_brokenAt yX7_brokenAt ∈ GW := List.mem_filter.mpr ⟨List.mem_of_getElem? (i := 35) (by decide +kernel), rfl⟩
theorem gw_36 : Cond.selects RX7 yX7_leastInShop yX7_leastInShop ∈ GW := List.mem_filter.mpr ⟨List.mem_of_getElem? (i := 36) (by decide +kernel), rfl⟩
theorem gw_37 : Cond.selects RX7 yX7_levels yX7_levels ∈ GW := List.mem_filter.mpr ⟨List.mem_of_getElem? (i := 37) (by decide +kernel), rfl⟩
theorem gw_38 : Cond.selects RX7 yX7_faultOf yX7_faultOf ∈ GW := List.mem_filter.mpr ⟨List.mem_of_getElem? (i := 38) (by decide +kernel), rfl⟩
theorem gw_39 : Cond.selects RX7 yX7_readOrder yX7_readOrder ∈ GW := List.mem_filter.mpr ⟨List.mem_of_getElem? (i := 39) (by decide +kernel), rfl⟩
theorem gw_40 : Cond.selects RX7 yX7_here yX7_here ∈ GW := List.mem_filter.mpr ⟨List.mem_of_getElem? (i := 40) (by decide +kernel), rfl⟩
theorem gw_41 : Cond.selects RX7 yX7_readNumber yX7_readNumber ∈ GW := List.mem_filter.mpr ⟨List.mem_of_getElem? (i := 41) (by decide +kernel), rfl⟩
theorem gw_42 : Cond.selects RX7 yX7_passes_ yX7_passes_ ∈ GW := List.mem_filter.mpr ⟨List.mem_of_getElem? (i := 42) (by decide +kernel), rfl⟩
theorem gw_43 : Cond.selects RX7 yX7_does yX7_does ∈ GW := List.mem_filter.mpr ⟨List.mem_of_getElem? (i := 43) (by decide +kernel), rfl⟩
theorem gw_44 : Cond.selects RX7 yX7_brokenOnes yX7_brokenOnes ∈ GW := List.mem_filter.mpr ⟨List.mem_of_getElem? (i := 44) (by decide +kernel), rfl⟩
theorem gw_45 : Cond.selects RX7 yX7_coinsOfPersons yX7_coinsOfPersons ∈ GW := List.mem_filter.mpr ⟨List.mem_of_getElem? (i := 45) (by decide +kernel), rfl⟩
theorem gw_46 : Cond.selects RX7 yX7_meanOf yX7_meanOf ∈ GW := List.mem_filter.mpr ⟨List.mem_of_getElem? (i := 46) (by decide +kernel), rfl⟩
theorem gw_47 : Cond.selects RX7 yX7_wanting yX7_wanting ∈ GW := List.mem_filter.mpr ⟨List.mem_of_getElem? (i := 47) (by decide +kernel), rfl⟩
theorem gw_48 : Cond.initialized "RibbedLoansLaw" ∈ GW := List.mem_filter.mpr ⟨List.mem_of_getElem? (i := 48) (by decide +kernel), rfl⟩
theorem gw_49 : Cond.initialized RX6 ∈ GW := List.mem_filter.mpr ⟨List.mem_of_getElem? (i := 49) (by decide +kernel), rfl⟩
theorem gw_50 : Cond.initialized RX3 ∈ GW := List.mem_filter.mpr ⟨List.mem_of_getElem? (i := 50) (by decide +kernel), rfl⟩
theorem gw_51 : Cond.initialized RX0 ∈ GW := List.mem_filter.mpr ⟨List.mem_of_getElem? (i := 51) (by decide +kernel), rfl⟩
theorem gw_52 : Cond.initialized RX5 ∈ GW := List.mem_filter.mpr ⟨List.mem_of_getElem? (i := 52) (by decide +kernel), rfl⟩
theorem gw_53 : Cond.initialized RX2 ∈ GW := List.mem_filter.mpr ⟨List.mem_of_getElem? (i := 53) (by decide +kernel), rfl⟩
theorem gw_54 : Cond.initialized "java/lang/Math" ∈ GW := List.mem_filter.mpr ⟨List.mem_of_getElem? (i := 54) (by decide +kernel), rfl⟩
theorem gw_55 : Cond.initialized RJ7 ∈ GW := List.mem_filter.mpr ⟨List.mem_of_getElem? (i := 55) (by decide +kernel), rfl⟩
theorem gw_56 : Cond.initialized RX1 ∈ GW := List.mem_filter.mpr ⟨List.mem_of_getElem? (i := 56) (by decide +kernel), rfl⟩
theorem gw_57 : Cond.initialized RX4 ∈ GW := List.mem_filter.mpr ⟨List.mem_of_getElem? (i := 57) (by decide +kernel), rfl⟩
theorem gw_58 : Cond.initialized RX7 ∈ GW := List.mem_filter.mpr ⟨List.mem_of_getElem? (i := 58) (by decide +kernel), rfl⟩
theorem gw_59 : Cond.initialized "java/lang/System" ∈ GW := List.mem_filter.mpr ⟨List.mem_of_getElem? (i := 59) (by decide +kernel), rfl⟩
theorem gw_60 : Cond.classLink "RibbedLoansLaw" 7 RX6 ∈ GW := List.mem_filter.mpr ⟨List.mem_of_getElem? (i := 60) (by decide +kernel), rfl⟩
theorem gw_61 : Cond.instantiable RX6 3 ∈ GW := List.mem_filter.mpr ⟨List.mem_of_getElem? (i := 61) (by decide +kernel), rfl⟩
theorem gw_62 : Cond.methodLink "RibbedLoansLaw" 9 yX6_init ∈ GW := List.mem_filter.mpr ⟨List.mem_of_getElem? (i := 62) (by decide +kernel), rfl⟩
theorem gw_63 : Cond.instanceMethod yX6_init ∈ GW := List.mem_filter.mpr ⟨List.mem_of_getElem? (i := 63) (by decide +kernel), rfl⟩
theorem gw_64 : Cond.code yX6_init cX6_init 1 none ∈ GW := List.mem_filter.mpr ⟨List.mem_of_getElem? (i := 64) rfl, rfl⟩
theorem gw_65 : Cond.methodLink RX6 3 objectInit ∈ GW := List.mem_filter.mpr ⟨List.mem_of_getElem? (i := 65) (by decide +kernel), rfl⟩
theorem gw_66 : Cond.instanceMethod objectInit ∈ GW := List.mem_filter.mpr ⟨List.mem_of_getElem? (i := 66) (by decide +kernel), rfl⟩
theorem gw_67 : Cond.code objectInit ⟨#[0xb1]⟩ 1 none ∈ GW := List.mem_filter.mpr ⟨List.mem_of_getElem? (i := 67) rfl, rfl⟩
theorem gw_68 : Cond.classLink RX6 9 RX3 ∈ GW := List.mem_filter.mpr ⟨List.mem_of_getElem? (i := 68) (by decide +kernel), rfl⟩
theorem gw_69 : Cond.instantiable RX3 5 ∈ GW := List.mem_filter.mpr ⟨List.mem_of_getElem? (i := 69) (by decide +kernel), rfl⟩
theorem gw_71 : Cond.instanceMethod yX3_init ∈ GW := List.mem_filter.mpr ⟨List.mem_of_getElem? (i := 71) (by decide +kernel), rfl⟩
theorem gw_72 : Cond.code yX3_init cX3_init 1 none ∈ GW := List.mem_filter.mpr ⟨List.mem_of_getElem? (i := 72) rfl, rfl⟩
theorem gw_73 : Cond.methodLink RX3 1 objectInit ∈ GW := List.mem_filter.mpr ⟨List.mem_of_getElem? (i := 73) (by decide +kernel), rfl⟩
theorem gw_74 : Cond.classLink RX3 7 RX0 ∈ GW := List.mem_filter.mpr ⟨List.mem_of_getElem? (i := 74) (by decide +kernel), rfl⟩
theorem gw_75 : Cond.instantiable RX0 12 ∈ GW := List.mem_filter.mpr ⟨List.mem_of_getElem? (i := 75) (by decide +kernel), rfl⟩
theorem gw_76 : Cond.methodLink RX3 9 yX0_init ∈ GW := List.mem_filter.mpr ⟨List.mem_of_getElem? (i := 76) (by decide +kernel), rfl⟩
theorem gw_77 : Cond.instanceMethod yX0_init ∈ GW := List.mem_filter.mpr ⟨List.mem_of_getElem? (i := 77) (by decide +kernel), rfl⟩
theorem gw_78 : Cond.code yX0_init cX0_init 2 none ∈ GW := List.mem_filter.mpr ⟨List.mem_of_getElem? (i := 78) rfl, rfl⟩
theorem gw_79 : Cond.methodLink RX0 3 objectInit ∈ GW := List.mem_filter.mpr ⟨List.mem_of_getElem? (i := 79) (by decide +kernel), rfl⟩
theorem gw_80 : Cond.classLink RX0 9 RX5 ∈ GW := List.mem_filter.mpr ⟨List.mem_of_getElem? (i := 80) (by decide +kernel), rfl⟩
theorem gw_81 : Cond.instantiable RX5 5 ∈ GW := List.mem_filter.mpr ⟨List.mem_of_getElem? (i := 81) (by decide +kernel), rfl⟩
theorem gw_83 : Cond.instanceMethod yX5_init ∈ GW := List.mem_filter.mpr ⟨List.mem_of_getElem? (i := 83) (by decide +kernel), rfl⟩
theorem gw_84 : Cond.code yX5_init cX5_init 1 none ∈ GW := List.mem_filter.mpr ⟨List.mem_of_getElem? (i := 84) rfl, rfl⟩
theorem gw_85 : Cond.methodLink RX5 3 objectInit ∈ GW := List.mem_filter.mpr ⟨List.mem_of_getElem? (i := 85) (by decide +kernel), rfl⟩
theorem gw_86 : Cond.classLink RX5 9 RX2 ∈ GW := List.mem_filter.mpr ⟨List.mem_of_getElem? (i := 86) (by decide +kernel), rfl⟩
theorem gw_87 : Cond.instantiable RX2 1 ∈ GW := List.mem_filter.mpr ⟨List.mem_of_getElem? (i := 87) (by decide +kernel), rfl⟩
theorem gw_88 : Cond.methodLink RX5 11 yX2_init ∈ GW := List.mem_filter.mpr ⟨List.mem_of_getElem? (i := 88) (by decide +kernel), rfl⟩
theorem gw_89 : Cond.instanceMethod yX2_init ∈ GW := List.mem_filter.mpr ⟨List.mem_of_getElem? (i := 89) (by decide +kernel), rfl⟩
theorem gw_90 : Cond.code yX2_init cX2_init 3 none ∈ GW := List.mem_filter.mpr ⟨List.mem_of_getElem? (i := 90) rfl, rfl⟩
theorem gw_91 : Cond.methodLink RX2 1 objectInit ∈ GW := List.mem_filter.mpr ⟨List.mem_of_getElem? (i := 91) (by decide +kernel), rfl⟩
theorem gw_92 : Cond.methodLink RX2 7 Lib.Math.max.name ∈ GW := List.mem_filter.mpr ⟨List.mem_of_getElem? (i := 92) (by decide +kernel), rfl⟩
theorem gw_93 : Cond.static Lib.Math.max.name ∈ GW := List.mem_filter.mpr ⟨List.mem_of_getElem? (i := 93) (by decide +kernel), rfl⟩
theorem gw_94 : Cond.code Lib.Math.max.name Lib.Math.max.code 2 (some .int) ∈ GW := List.mem_filter.mpr ⟨List.mem_of_getElem? (i := 94) rfl, rfl⟩
theorem gw_95 : Cond.methodLink RX2 19 yJ7_fill_53178 ∈ GW := List.mem_filter.mpr ⟨List.mem_of_getElem? (i := 95) (by decide +kernel), rfl⟩
theorem gw_96 : Cond.static yJ7_fill_53178 ∈ GW := List.mem_filter.mpr ⟨List.mem_of_getElem? (i := 96) (by decide +kernel), rfl⟩
theorem gw_97 : Cond.code yJ7_fill_53178 cJ7_fill_53178 4 none ∈ GW := List.mem_filter.mpr ⟨List.mem_of_getElem? (i := 97) rfl, rfl⟩
theorem gw_98 : Cond.fieldLink RX2 13 RX2 "cells" "[I" ∈ GW := List.mem_filter.mpr ⟨List.mem_of_getElem? (i := 98) (by decide +kernel), rfl⟩
theorem gw_102 : Cond.arrayClass .int ∈ GW := List.mem_filter.mpr ⟨List.mem_of_getElem? (i := 102) (by decide +kernel), rfl⟩
theorem gw_103 : Cond.fieldLink RX5 14 RX5 "spots" "LRibbedLoans$Row;" ∈ GW := List.mem_filter.mpr ⟨List.mem_of_getElem? (i := 103) (by decide +kernel), rfl⟩
theorem gw_106 : Cond.fieldLink RX5 20 RX5 "wears" "LRibbedLoans$Row;" ∈ GW := List.mem_filter.mpr ⟨List.mem_of_getElem? (i := 106) (by decide +kernel), rfl⟩
theorem gw_109 : Cond.fieldLink RX5 23 RX5 "lendings" "LRibbedLoans$Row;" ∈ GW := List.mem_filter.mpr ⟨List.mem_of_getElem? (i := 109) (by decide +kernel), rfl⟩
theorem gw_112 : Cond.fieldLink RX5 26 RX5 "tally" "LRibbedLoans$Row;" ∈ GW := List.mem_filter.mpr ⟨List.mem_of_getElem? (i := 112) (by decide +kernel), rfl⟩
theorem gw_113 : Cond.fieldLink RX5 33 RX5 "number" "I" ∈ GW := List.mem_filter.mpr ⟨List.mem_of_getElem? (i := 113) (by decide +kernel), rfl⟩
theorem gw_127 : Cond.classLink RX0 18 RX2 ∈ GW := List.mem_filter.mpr ⟨List.mem_of_getElem? (i := 127) (by decide +kernel), rfl⟩
theorem gw_128 : Cond.methodLink RX0 20 yX2_init ∈ GW := List.mem_filter.mpr ⟨List.mem_of_getElem? (i := 128) (by decide +kernel), rfl⟩
theorem gw_129 : Cond.methodLink RX0 46 yX2_put ∈ GW := List.mem_filter.mpr ⟨List.mem_of_getElem? (i := 129) (by decide +kernel), rfl⟩
theorem gw_130 : Cond.instanceMethod yX2_put ∈ GW := List.mem_filter.mpr ⟨List.mem_of_getElem? (i := 130) (by decide +kernel), rfl⟩
theorem gw_131 : Cond.selects RX2 yX2_put yX2_put ∈ GW := List.mem_filter.mpr ⟨List.mem_of_getElem? (i := 131) (by decide +kernel), rfl⟩
theorem gw_132 : Cond.code yX2_put cX2_put 3 none ∈ GW := List.mem_filter.mpr ⟨List.mem_of_getElem? (i := 132) rfl, rfl⟩
theorem gw_133 : Cond.fieldLink RX0 12 RX0 "umbrellas" "LRibbedLoans$Umbrellas;" ∈ GW := List.mem_filter.mpr ⟨List.mem_of_getElem? (i := 133) (by decide +kernel), rfl⟩
theorem gw_135 : Cond.fieldLink RX0 23 RX0 "rooms" "LRibbedLoans$Row;" ∈ GW := List.mem_filter.mpr ⟨List.mem_of_getElem? (i := 135) (by decide +kernel), rfl⟩
theorem gw_137 : Cond.fieldLink RX0 27 RX0 "purses" "LRibbedLoans$Row;" ∈ GW := List.mem_filter.mpr ⟨List.mem_of_getElem? (i := 137) (by decide +kernel), rfl⟩
theorem gw_139 : Cond.fieldLink RX0 30 RX0 "showers" "LRibbedLoans$Row;" ∈ GW := List.mem_filter.mpr ⟨List.mem_of_getElem? (i := 139) (by decide +kernel), rfl⟩
theorem gw_141 : Cond.fieldLink RX0 33 RX0 "homes" "LRibbedLoans$Row;" ∈ GW := List.mem_filter.mpr ⟨List.mem_of_getElem? (i := 141) (by decide +kernel), rfl⟩
theorem gw_143 : Cond.fieldLink RX0 36 RX0 "paid" "LRibbedLoans$Row;" ∈ GW := List.mem_filter.mpr ⟨List.mem_of_getElem? (i := 143) (by decide +kernel), rfl⟩
theorem gw_145 : Cond.fieldLink RX0 56 RX0 "hours" "I" ∈ GW := List.mem_filter.mpr ⟨List.mem_of_getElem? (i := 145) (by decide +kernel), rfl⟩
theorem gw_147 : Cond.fieldLink RX0 39 RX0 "house" "I" ∈ GW := List.mem_filter.mpr ⟨List.mem_of_getElem? (i := 147) (by decide +kernel), rfl⟩
theorem gw_149 : Cond.fieldLink RX0 59 RX0 "spent" "I" ∈ GW := List.mem_filter.mpr ⟨List.mem_of_getElem? (i := 149) (by decide +kernel), rfl⟩
theorem gw_151 : Cond.fieldLink RX0 62 RX0 "loans" "I" ∈ GW := List.mem_filter.mpr ⟨List.mem_of_getElem? (i := 151) (by decide +kernel), rfl⟩
theorem gw_153 : Cond.fieldLink RX0 65 RX0 "surges" "I" ∈ GW := List.mem_filter.mpr ⟨List.mem_of_getElem? (i := 153) (by decide +kernel), rfl⟩
theorem gw_155 : Cond.fieldLink RX0 43 RX0 "rate" "I" ∈ GW := List.mem_filter.mpr ⟨List.mem_of_getElem? (i := 155) (by decide +kernel), rfl⟩
theorem gw_182 : Cond.fieldLink RX3 10 RX3 "city" "LRibbedLoans$City;" ∈ GW := List.mem_filter.mpr ⟨List.mem_of_getElem? (i := 182) (by decide +kernel), rfl⟩
theorem gw_184 : Cond.fieldLink RX3 16 RX3 "snapshot0" "LRibbedLoans$City;" ∈ GW := List.mem_filter.mpr ⟨List.mem_of_getElem? (i := 184) (by decide +kernel), rfl⟩
theorem gw_185 : Cond.fieldLink RX3 19 RX3 "snapshot1" "LRibbedLoans$City;" ∈ GW := List.mem_filter.mpr ⟨List.mem_of_getElem? (i := 185) (by decide +kernel), rfl⟩
theorem gw_186 : Cond.fieldLink RX3 26 RX3 "kept0" "Z" ∈ GW := List.mem_filter.mpr ⟨List.mem_of_getElem? (i := 186) (by decide +kernel), rfl⟩
theorem gw_187 : Cond.fieldLink RX3 30 RX3 "kept1" "Z" ∈ GW := List.mem_filter.mpr ⟨List.mem_of_getElem? (i := 187) (by decide +kernel), rfl⟩
theorem gw_199 : Cond.classLink RX6 16 RX1 ∈ GW := List.mem_filter.mpr ⟨List.mem_of_getElem? (i := 199) (by decide +kernel), rfl⟩
theorem gw_200 : Cond.instantiable RX1 3 ∈ GW := List.mem_filter.mpr ⟨List.mem_of_getElem? (i := 200) (by decide +kernel), rfl⟩
theorem gw_201 : Cond.methodLink RX6 18 yX1_init ∈ GW := List.mem_filter.mpr ⟨List.mem_of_getElem? (i := 201) (by decide +kernel), rfl⟩
theorem gw_202 : Cond.instanceMethod yX1_init ∈ GW := List.mem_filter.mpr ⟨List.mem_of_getElem? (i := 202) (by decide +kernel), rfl⟩
theorem gw_203 : Cond.code yX1_init cX1_init 2 none ∈ GW := List.mem_filter.mpr ⟨List.mem_of_getElem? (i := 203) rfl, rfl⟩
theorem gw_204 : Cond.methodLink RX1 3 objectInit ∈ GW := List.mem_filter.mpr ⟨List.mem_of_getElem? (i := 204) (by decide +kernel), rfl⟩
theorem gw_205 : Cond.classLink RX1 9 RX3 ∈ GW := List.mem_filter.mpr ⟨List.mem_of_getElem? (i := 205) (by decide +kernel), rfl⟩
theorem gw_208 : Cond.fieldLink RX1 11 RX1 "ring" "[LRibbedLoans$State;" ∈ GW := List.mem_filter.mpr ⟨List.mem_of_getElem? (i := 208) (by decide +kernel), rfl⟩
theorem gw_209 : Cond.fieldLink RX1 18 RX1 "next" "I" ∈ GW := List.mem_filter.mpr ⟨List.mem_of_getElem? (i := 209) (by decide +kernel), rfl⟩
theorem gw_210 : Cond.fieldLink RX1 26 RX1 "size" "I" ∈ GW := List.mem_filter.mpr ⟨List.mem_of_getElem? (i := 210) (by decide +kernel), rfl⟩
theorem gw_219 : Cond.classLink RX6 23 RX4 ∈ GW := List.mem_filter.mpr ⟨List.mem_of_getElem? (i := 219) (by decide +kernel), rfl⟩
theorem gw_220 : Cond.instantiable RX4 6 ∈ GW := List.mem_filter.mpr ⟨List.mem_of_getElem? (i := 220) (by decide +kernel), rfl⟩
theorem gw_222 : Cond.instanceMethod yX4_init ∈ GW := List.mem_filter.mpr ⟨List.mem_of_getElem? (i := 222) (by decide +kernel), rfl⟩
theorem gw_223 : Cond.code yX4_init cX4_init 1 none ∈ GW := List.mem_filter.mpr ⟨List.mem_of_getElem? (i := 223) rfl, rfl⟩
theorem gw_224 : Cond.methodLink RX4 3 objectInit ∈ GW := List.mem_filter.mpr ⟨List.mem_of_getElem? (i := 224) (by decide +kernel), rfl⟩
theorem gw_225 : Cond.fieldLink RX4 9 RX4 "characters" "[C" ∈ GW := List.mem_filter.mpr ⟨List.mem_of_getElem? (i := 225) (by decide +kernel), rfl⟩
theorem gw_226 : Cond.fieldLink RX4 15 RX4 "length" "I" ∈ GW := List.mem_filter.mpr ⟨List.mem_of_getElem? (i := 226) (by decide +kernel), rfl⟩
theorem gw_228 : Cond.fieldLink RX4 26 RX4 "cursor" "I" ∈ GW := List.mem_filter.mpr ⟨List.mem_of_getElem? (i := 228) (by decide +kernel), rfl⟩
theorem gw_229 : Cond.fieldLink RX4 37 RX4 "verb" "I" ∈ GW := List.mem_filter.mpr ⟨List.mem_of_getElem? (i := 229) (by decide +kernel), rfl⟩
theorem gw_231 : Cond.fieldLink RX4 46 RX4 "first" "I" ∈ GW := List.mem_filter.mpr ⟨List.mem_of_getElem? (i := 231) (by decide +kernel), rfl⟩
theorem gw_233 : Cond.fieldLink RX4 49 RX4 "second" "I" ∈ GW := List.mem_filter.mpr ⟨List.mem_of_getElem? (i := 233) (by decide +kernel), rfl⟩
theorem gw_248 : Cond.arrayClass .char ∈ GW := List.mem_filter.mpr ⟨List.mem_of_getElem? (i := 248) (by decide +kernel), rfl⟩
theorem gw_249 : Cond.fieldLink RX6 12 RX6 "now" "LRibbedLoans$State;" ∈ GW := List.mem_filter.mpr ⟨List.mem_of_getElem? (i := 249) (by decide +kernel), rfl⟩
theorem gw_250 : Cond.fieldLink RX6 19 RX6 "history" "LRibbedLoans$History;" ∈ GW := List.mem_filter.mpr ⟨List.mem_of_getElem? (i := 250) (by decide +kernel), rfl⟩
theorem gw_251 : Cond.fieldLink RX6 26 RX6 "text" "LRibbedLoans$Text;" ∈ GW := List.mem_filter.mpr ⟨List.mem_of_getElem? (i := 251) (by decide +kernel), rfl⟩
theorem gw_259 : Cond.methodLink "RibbedLoansLaw" 13 yX6_buy ∈ GW := List.mem_filter.mpr ⟨List.mem_of_getElem? (i := 259) (by decide +kernel), rfl⟩
theorem gw_260 : Cond.instanceMethod yX6_buy ∈ GW := List.mem_filter.mpr ⟨List.mem_of_getElem? (i := 260) (by decide +kernel), rfl⟩
theorem gw_261 : Cond.selects RX6 yX6_buy yX6_buy ∈ GW := List.mem_filter.mpr ⟨List.mem_of_getElem? (i := 261) (by decide +kernel), rfl⟩
theorem gw_262 : Cond.code yX6_buy cX6_buy 4 (some .int) ∈ GW := List.mem_filter.mpr ⟨List.mem_of_getElem? (i := 262) rfl, rfl⟩
theorem gw_263 : Cond.methodLink RX6 34 yX0_buyingError ∈ GW := List.mem_filter.mpr ⟨List.mem_of_getElem? (i := 263) (by decide +kernel), rfl⟩
theorem gw_264 : Cond.instanceMethod yX0_buyingError ∈ GW := List.mem_filter.mpr ⟨List.mem_of_getElem? (i := 264) (by decide +kernel), rfl⟩
theorem gw_265 : Cond.selects RX0 yX0_buyingError yX0_buyingError ∈ GW := List.mem_filter.mpr ⟨List.mem_of_getElem? (i := 265) (by decide +kernel), rfl⟩
theorem gw_266 : Cond.code yX0_buyingError cX0_buyingError 4 (some .int) ∈ GW := List.mem_filter.mpr ⟨List.mem_of_getElem? (i := 266) rfl, rfl⟩
theorem gw_268 : Cond.static yX6_outside ∈ GW := List.mem_filter.mpr ⟨List.mem_of_getElem? (i := 268) (by decide +kernel), rfl⟩
theorem gw_269 : Cond.code yX6_outside cX6_outside 3 (some .boolean) ∈ GW := List.mem_filter.mpr ⟨List.mem_of_getElem? (i := 269) rfl, rfl⟩
theorem gw_270 : Cond.methodLink RX0 86 yX0_spendable ∈ GW := List.mem_filter.mpr ⟨List.mem_of_getElem? (i := 270) (by decide +kernel), rfl⟩
theorem gw_272 : Cond.instanceMethod yX0_spendable ∈ GW := List.mem_filter.mpr ⟨List.mem_of_getElem? (i := 272) (by decide +kernel), rfl⟩
theorem gw_273 : Cond.code yX0_spendable cX0_spendable 1 (some .int) ∈ GW := List.mem_filter.mpr ⟨List.mem_of_getElem? (i := 273) rfl, rfl⟩
theorem gw_274 : Cond.methodLink RX0 68 yX5_numberOfKind ∈ GW := List.mem_filter.mpr ⟨List.mem_of_getElem? (i := 274) (by decide +kernel), rfl⟩
theorem gw_275 : Cond.instanceMethod yX5_numberOfKind ∈ GW := List.mem_filter.mpr ⟨List.mem_of_getElem? (i := 275) (by decide +kernel), rfl⟩
theorem gw_276 : Cond.selects RX5 yX5_numberOfKind yX5_numberOfKind ∈ GW := List.mem_filter.mpr ⟨List.mem_of_getElem? (i := 276) (by decide +kernel), rfl⟩
theorem gw_277 : Cond.code yX5_numberOfKind cX5_numberOfKind 4 (some .int) ∈ GW := List.mem_filter.mpr ⟨List.mem_of_getElem? (i := 277) rfl, rfl⟩
theorem gw_279 : Cond.static yX6_kindOf ∈ GW := List.mem_filter.mpr ⟨List.mem_of_getElem? (i := 279) (by decide +kernel), rfl⟩
theorem gw_280 : Cond.code yX6_kindOf cX6_kindOf 1 (some .int) ∈ GW := List.mem_filter.mpr ⟨List.mem_of_getElem? (i := 280) rfl, rfl⟩
theorem gw_281 : Cond.methodLink RX5 50 yX5_numberAt ∈ GW := List.mem_filter.mpr ⟨List.mem_of_getElem? (i := 281) (by decide +kernel), rfl⟩
theorem gw_282 : Cond.instanceMethod yX5_numberAt ∈ GW := List.mem_filter.mpr ⟨List.mem_of_getElem? (i := 282) (by decide +kernel), rfl⟩
theorem gw_283 : Cond.selects RX5 yX5_numberAt yX5_numberAt ∈ GW := List.mem_filter.mpr ⟨List.mem_of_getElem? (i := 283) (by decide +kernel), rfl⟩
theorem gw_284 : Cond.code yX5_numberAt cX5_numberAt 2 (some .int) ∈ GW := List.mem_filter.mpr ⟨List.mem_of_getElem? (i := 284) rfl, rfl⟩
theorem gw_285 : Cond.methodLink RX5 43 yX2_at ∈ GW := List.mem_filter.mpr ⟨List.mem_of_getElem? (i := 285) (by decide +kernel), rfl⟩
theorem gw_286 : Cond.instanceMethod yX2_at ∈ GW := List.mem_filter.mpr ⟨List.mem_of_getElem? (i := 286) (by decide +kernel), rfl⟩
theorem gw_287 : Cond.selects RX2 yX2_at yX2_at ∈ GW := List.mem_filter.mpr ⟨List.mem_of_getElem? (i := 287) (by decide +kernel), rfl⟩
theorem gw_288 : Cond.code yX2_at cX2_at 2 (some .int) ∈ GW := List.mem_filter.mpr ⟨List.mem_of_getElem? (i := 288) rfl, rfl⟩
theorem gw_289 : Cond.methodLink RX0 93 yX0_freeAt ∈ GW := List.mem_filter.mpr ⟨List.mem_of_getElem? (i := 289) (by decide +kernel), rfl⟩
theorem gw_291 : Cond.instanceMethod yX0_freeAt ∈ GW := List.mem_filter.mpr ⟨List.mem_of_getElem? (i := 291) (by decide +kernel), rfl⟩
theorem gw_292 : Cond.code yX0_freeAt cX0_freeAt 2 (some .int) ∈ GW := List.mem_filter.mpr ⟨List.mem_of_getElem? (i := 292) rfl, rfl⟩
theorem gw_293 : Cond.methodLink RX0 72 yX2_at ∈ GW := List.mem_filter.mpr ⟨List.mem_of_getElem? (i := 293) (by decide +kernel), rfl⟩
theorem gw_294 : Cond.methodLink RX0 75 yX5_numberAt ∈ GW := List.mem_filter.mpr ⟨List.mem_of_getElem? (i := 294) (by decide +kernel), rfl⟩
theorem gw_295 : Cond.methodLink RX6 40 yX1_record ∈ GW := List.mem_filter.mpr ⟨List.mem_of_getElem? (i := 295) (by decide +kernel), rfl⟩
theorem gw_296 : Cond.instanceMethod yX1_record ∈ GW := List.mem_filter.mpr ⟨List.mem_of_getElem? (i := 296) (by decide +kernel), rfl⟩
theorem gw_297 : Cond.selects RX1 yX1_record yX1_record ∈ GW := List.mem_filter.mpr ⟨List.mem_of_getElem? (i := 297) (by decide +kernel), rfl⟩
theorem gw_298 : Cond.code yX1_record cX1_record 3 none ∈ GW := List.mem_filter.mpr ⟨List.mem_of_getElem? (i := 298) rfl, rfl⟩
theorem gw_299 : Cond.methodLink RX1 22 yX3_copyFrom ∈ GW := List.mem_filter.mpr ⟨List.mem_of_getElem? (i := 299) (by decide +kernel), rfl⟩
theorem gw_300 : Cond.instanceMethod yX3_copyFrom ∈ GW := List.mem_filter.mpr ⟨List.mem_of_getElem? (i := 300) (by decide +kernel), rfl⟩
set_option maxRecDepth 20000 in
theorem gw_301 : Cond.selects RX3 yX3_copyFrom yX3_copyFrom ∈ GW := List.mem_filter.mpr ⟨List.mem_of_getElem? (i := 301) (by decide +kernel), rfl⟩
set_option maxRecDepth 20000 in
theorem gw_302 : Cond.code yX3_copyFrom cX3_copyFrom 2 none ∈ GW := List.mem_filter.mpr ⟨List.mem_of_getElem? (i := 302) rfl, rfl⟩
set_option maxRecDepth 20000 in
theorem gw_303 : Cond.methodLink RX3 22 yX0_copyFrom ∈ GW := List.mem_filter.mpr ⟨List.mem_of_getElem? (i := 303) (by decide +kernel), rfl⟩
set_option maxRecDepth 20000 in
theorem gw_304 : Cond.instanceMethod yX0_copyFrom ∈ GW := List.mem_filter.mpr ⟨List.mem_of_getElem? (i := 304) (by decide +kernel), rfl⟩
set_option maxRecDepth 20000 in
theorem gw_305 : Cond.selects RX0 yX0_copyFrom yX0_copyFrom ∈ GW := List.mem_filter.mpr ⟨List.mem_of_getElem? (i := 305) (by decide +kernel), rfl⟩
set_option maxRecDepth 20000 in
theorem gw_306 : Cond.code yX0_copyFrom cX0_copyFrom 2 none ∈ GW := List.mem_filter.mpr ⟨List.mem_of_getElem? (i := 306) rfl, rfl⟩
set_option maxRecDepth 20000 in
theorem gw_307 : Cond.methodLink RX0 49 yX5_copyFrom ∈ GW := List.mem_filter.mpr ⟨List.mem_of_getElem? (i := 307) (by decide +kernel), rfl⟩
set_option maxRecDepth 20000 in
theorem gw_308 : Cond.instanceMethod yX5_copyFrom ∈ GW := List.mem_filter.mpr ⟨List.mem_of_getElem? (i := 308) (by decide +kernel), rfl⟩
set_option maxRecDepth 20000 in
theorem gw_309 : Cond.selects RX5 yX5_copyFrom yX5_copyFrom ∈ GW := List.mem_filter.mpr ⟨List.mem_of_getElem? (i := 309) (by decide +kernel), rfl⟩
set_option maxRecDepth 20000 in
theorem gw_310 : Cond.code yX5_copyFrom cX5_copyFrom 2 none ∈ GW := List.mem_filter.mpr ⟨List.mem_of_getElem? (i := 310) rfl, rfl⟩
set_option maxRecDepth 20000 in
theorem gw_311 : Cond.methodLink RX5 29 yX2_copyFrom ∈ GW := List.mem_filter.mpr ⟨List.mem_of_getElem? (i := 311) (by decide +kernel), rfl⟩
set_option maxRecDepth 20000 in
theorem gw_312 : Cond.instanceMethod yX2_copyFrom ∈ GW := List.mem_filter.mpr ⟨List.mem_of_getElem? (i := 312) (by decide +kernel), rfl⟩
set_option maxRecDepth 20000 in
theorem gw_313 : Cond.selects RX2 yX2_copyFrom yX2_copyFrom ∈ GW := List.mem_filter.mpr ⟨List.mem_of_getElem? (i := 313) (by decide +kernel), rfl⟩
set_option maxRecDepth 20000 in
theorem gw_314 : Cond.code yX2_copyFrom cX2_copyFrom 2 none ∈ GW := List.mem_filter.mpr ⟨List.mem_of_getElem? (i := 314) rfl, rfl⟩
set_option maxRecDepth 20000 in
theorem gw_315 : Cond.methodLink RX2 25 Lib.Math.min.name ∈ GW := List.mem_filter.mpr ⟨List.mem_of_getElem? (i := 315) (by decide +kernel), rfl⟩
set_option maxRecDepth 20000 in
theorem gw_316 : Cond.static Lib.Math.min.name ∈ GW := List.mem_filter.mpr ⟨List.mem_of_getElem? (i := 316) (by decide +kernel), rfl⟩
set_option maxRecDepth 20000 in
theorem gw_317 : Cond.code Lib.Math.min.name Lib.Math.min.code 2 (some .int) ∈ GW := List.mem_filter.mpr ⟨List.mem_of_getElem? (i := 317) rfl, rfl⟩
set_option maxRecDepth 20000 in
theorem gw_318 : Cond.methodLink RX2 28 arraycopyName ∈ GW := List.mem_filter.mpr ⟨List.mem_of_getElem? (i := 318) (by decide +kernel), rfl⟩
set_option maxRecDepth 20000 in
theorem gw_319 : Cond.static arraycopyName ∈ GW := List.mem_filter.mpr ⟨List.mem_of_getElem? (i := 319) (by decide +kernel), rfl⟩
set_option maxRecDepth 20000 in
theorem gw_320 : Cond.native arraycopyName ∈ GW := List.mem_filter.mpr ⟨List.mem_of_getElem? (i := 320) (by decide +kernel), rfl⟩
set_option maxRecDepth 20000 in
theorem gw_321 : Cond.methodLink RX0 53 yX2_copyFrom ∈ GW := List.mem_filter.mpr ⟨List.mem_of_getElem? (i := 321) (by decide +kernel), rfl⟩
set_option maxRecDepth 20000 in
theorem gw_322 : Cond.methodLink RX1 29 Lib.Math.min.name ∈ GW := List.mem_filter.mpr ⟨List.mem_of_getElem? (i := 322) (by decide +kernel), rfl⟩
set_option maxRecDepth 20000 in
theorem gw_323 : Cond.methodLink RX6 44 yX0_purchase ∈ GW := List.mem_filter.mpr ⟨List.mem_of_getElem? (i := 323) (by decide +kernel), rfl⟩
set_option maxRecDepth 20000 in
theorem gw_324 : Cond.instanceMethod yX0_purchase ∈ GW := List.mem_filter.mpr ⟨List.mem_of_getElem? (i := 324) (by decide +kernel), rfl⟩
set_option maxRecDepth 20000 in
theorem gw_325 : Cond.selects RX0 yX0_purchase yX0_purchase ∈ GW := List.mem_filter.mpr ⟨List.mem_of_getElem? (i := 325) (by decide +kernel), rfl⟩
set_option maxRecDepth 20000 in
theorem gw_326 : Cond.code yX0_purchase cX0_purchase 5 (some .int) ∈ GW := List.mem_filter.mpr ⟨List.mem_of_getElem? (i := 326) rfl, rfl⟩
set_option maxRecDepth 20000 in
theorem gw_327 : Cond.methodLink RX0 96 yX5_addNew ∈ GW := List.mem_filter.mpr ⟨List.mem_of_getElem? (i := 327) (by decide +kernel), rfl⟩
set_option maxRecDepth 20000 in
theorem gw_328 : Cond.instanceMethod yX5_addNew ∈ GW := List.mem_filter.mpr ⟨List.mem_of_getElem? (i := 328) (by decide +kernel), rfl⟩
set_option maxRecDepth 20000 in
theorem gw_329 : Cond.selects RX5 yX5_addNew yX5_addNew ∈ GW := List.mem_filter.mpr ⟨List.mem_of_getElem? (i := 329) (by decide +kernel), rfl⟩
set_option maxRecDepth 20000 in
theorem gw_330 : Cond.code yX5_addNew cX5_addNew 2 none ∈ GW := List.mem_filter.mpr ⟨List.mem_of_getElem? (i := 330) rfl, rfl⟩
set_option maxRecDepth 20000 in
theorem gw_331 : Cond.methodLink RX5 37 yX2_put ∈ GW := List.mem_filter.mpr ⟨List.mem_of_getElem? (i := 331) (by decide +kernel), rfl⟩
set_option maxRecDepth 20000 in
theorem gw_332 : Cond.methodLink RX5 40 yX2_add ∈ GW := List.mem_filter.mpr ⟨List.mem_of_getElem? (i := 332) (by decide +kernel), rfl⟩
set_option maxRecDepth 20000 in
theorem gw_333 : Cond.instanceMethod yX2_add ∈ GW := List.mem_filter.mpr ⟨List.mem_of_getElem? (i := 333) (by decide +kernel), rfl⟩
set_option maxRecDepth 20000 in
theorem gw_334 : Cond.selects RX2 yX2_add yX2_add ∈ GW := List.mem_filter.mpr ⟨List.mem_of_getElem? (i := 334) (by decide +kernel), rfl⟩
set_option maxRecDepth 20000 in
theorem gw_335 : Cond.code yX2_add cX2_add 3 none ∈ GW := List.mem_filter.mpr ⟨List.mem_of_getElem? (i := 335) rfl, rfl⟩
set_option maxRecDepth 20000 in
theorem gw_336 : Cond.methodLink RX0 100 yX0_spend ∈ GW := List.mem_filter.mpr ⟨List.mem_of_getElem? (i := 336) (by decide +kernel), rfl⟩
set_option maxRecDepth 20000 in
theorem gw_338 : Cond.instanceMethod yX0_spend ∈ GW := List.mem_filter.mpr ⟨List.mem_of_getElem? (i := 338) (by decide +kernel), rfl⟩
set_option maxRecDepth 20000 in
theorem gw_339 : Cond.code yX0_spend cX0_spend 2 none ∈ GW := List.mem_filter.mpr ⟨List.mem_of_getElem? (i := 339) rfl, rfl⟩
set_option maxRecDepth 20000 in
theorem gw_340 : Cond.methodLink "RibbedLoansLaw" 18 yX6_set ∈ GW := List.mem_filter.mpr ⟨List.mem_of_getElem? (i := 340) (by decide +kernel), rfl⟩
set_option maxRecDepth 20000 in
theorem gw_341 : Cond.instanceMethod yX6_set ∈ GW := List.mem_filter.mpr ⟨List.mem_of_getElem? (i := 341) (by decide +kernel), rfl⟩
set_option maxRecDepth 20000 in
theorem gw_342 : Cond.selects RX6 yX6_set yX6_set ∈ GW := List.mem_filter.mpr ⟨List.mem_of_getElem? (i := 342) (by decide +kernel), rfl⟩
set_option maxRecDepth 20000 in
theorem gw_343 : Cond.code yX6_set cX6_set 4 (some .int) ∈ GW := List.mem_filter.mpr ⟨List.mem_of_getElem? (i := 343) rfl, rfl⟩
set_option maxRecDepth 20000 in
theorem gw_344 : Cond.methodLink RX6 47 yX0_settingError ∈ GW := List.mem_filter.mpr ⟨List.mem_of_getElem? (i := 344) (by decide +kernel), rfl⟩
set_option maxRecDepth 20000 in
theorem gw_345 : Cond.instanceMethod yX0_settingError ∈ GW := List.mem_filter.mpr ⟨List.mem_of_getElem? (i := 345) (by decide +kernel), rfl⟩
set_option maxRecDepth 20000 in
theorem gw_346 : Cond.selects RX0 yX0_settingError yX0_settingError ∈ GW := List.mem_filter.mpr ⟨List.mem_of_getElem? (i := 346) (by decide +kernel), rfl⟩
set_option maxRecDepth 20000 in
theorem gw_347 : Cond.code yX0_settingError cX0_settingError 3 (some .int) ∈ GW := List.mem_filter.mpr ⟨List.mem_of_getElem? (i := 347) rfl, rfl⟩
set_option maxRecDepth 20000 in
theorem gw_348 : Cond.methodLink RX6 50 yX0_change ∈ GW := List.mem_filter.mpr ⟨List.mem_of_getElem? (i := 348) (by decide +kernel), rfl⟩
set_option maxRecDepth 20000 in
theorem gw_349 : Cond.instanceMethod yX0_change ∈ GW := List.mem_filter.mpr ⟨List.mem_of_getElem? (i := 349) (by decide +kernel), rfl⟩
set_option maxRecDepth 20000 in
theorem gw_350 : Cond.selects RX0 yX0_change yX0_change ∈ GW := List.mem_filter.mpr ⟨List.mem_of_getElem? (i := 350) (by decide +kernel), rfl⟩
set_option maxRecDepth 20000 in
theorem gw_351 : Cond.code yX0_change cX0_change 4 (some .int) ∈ GW := List.mem_filter.mpr ⟨List.mem_of_getElem? (i := 351) rfl, rfl⟩
set_option maxRecDepth 20000 in
theorem gw_352 : Cond.methodLink "RibbedLoansLaw" 22 yX6_borrow ∈ GW := List.mem_filter.mpr ⟨List.mem_of_getElem? (i := 352) (by decide +kernel), rfl⟩
set_option maxRecDepth 20000 in
theorem gw_353 : Cond.instanceMethod yX6_borrow ∈ GW := List.mem_filter.mpr ⟨List.mem_of_getElem? (i := 353) (by decide +kernel), rfl⟩
set_option maxRecDepth 20000 in
theorem gw_354 : Cond.selects RX6 yX6_borrow yX6_borrow ∈ GW := List.mem_filter.mpr ⟨List.mem_of_getElem? (i := 354) (by decide +kernel), rfl⟩
set_option maxRecDepth 20000 in
theorem gw_355 : Cond.code yX6_borrow cX6_borrow 4 (some .int) ∈ GW := List.mem_filter.mpr ⟨List.mem_of_getElem? (i := 355) rfl, rfl⟩
set_option maxRecDepth 20000 in
theorem gw_356 : Cond.methodLink RX6 53 yX0_lendingError ∈ GW := List.mem_filter.mpr ⟨List.mem_of_getElem? (i := 356) (by decide +kernel), rfl⟩
set_option maxRecDepth 20000 in
theorem gw_357 : Cond.instanceMethod yX0_lendingError ∈ GW := List.mem_filter.mpr ⟨List.mem_of_getElem? (i := 357) (by decide +kernel), rfl⟩
set_option maxRecDepth 20000 in
theorem gw_358 : Cond.selects RX0 yX0_lendingError yX0_lendingError ∈ GW := List.mem_filter.mpr ⟨List.mem_of_getElem? (i := 358) (by decide +kernel), rfl⟩
set_option maxRecDepth 20000 in
theorem gw_359 : Cond.code yX0_lendingError cX0_lendingError 4 (some .int) ∈ GW := List.mem_filter.mpr ⟨List.mem_of_getElem? (i := 359) rfl, rfl⟩
set_option maxRecDepth 20000 in
theorem gw_360 : Cond.methodLink RX0 103 yX0_wouldBorrow ∈ GW := List.mem_filter.mpr ⟨List.mem_of_getElem? (i := 360) (by decide +kernel), rfl⟩
set_option maxRecDepth 20000 in
theorem gw_362 : Cond.instanceMethod yX0_wouldBorrow ∈ GW := List.mem_filter.mpr ⟨List.mem_of_getElem? (i := 362) (by decide +kernel), rfl⟩
set_option maxRecDepth 20000 in
theorem gw_363 : Cond.code yX0_wouldBorrow cX0_wouldBorrow 2 (some .boolean) ∈ GW := List.mem_filter.mpr ⟨List.mem_of_getElem? (i := 363) rfl, rfl⟩
set_option maxRecDepth 20000 in
theorem gw_364 : Cond.methodLink RX0 107 yX5_bestAt ∈ GW := List.mem_filter.mpr ⟨List.mem_of_getElem? (i := 364) (by decide +kernel), rfl⟩
set_option maxRecDepth 20000 in
theorem gw_365 : Cond.instanceMethod yX5_bestAt ∈ GW := List.mem_filter.mpr ⟨List.mem_of_getElem? (i := 365) (by decide +kernel), rfl⟩
set_option maxRecDepth 20000 in
theorem gw_366 : Cond.selects RX5 yX5_bestAt yX5_bestAt ∈ GW := List.mem_filter.mpr ⟨List.mem_of_getElem? (i := 366) (by decide +kernel), rfl⟩
set_option maxRecDepth 20000 in
theorem gw_367 : Cond.code yX5_bestAt cX5_bestAt 2 (some .int) ∈ GW := List.mem_filter.mpr ⟨List.mem_of_getElem? (i := 367) rfl, rfl⟩
set_option maxRecDepth 20000 in
theorem gw_368 : Cond.methodLink RX5 60 yX5_leastWornAt ∈ GW := List.mem_filter.mpr ⟨List.mem_of_getElem? (i := 368) (by decide +kernel), rfl⟩
set_option maxRecDepth 20000 in
theorem gw_369 : Cond.instanceMethod yX5_leastWornAt ∈ GW := List.mem_filter.mpr ⟨List.mem_of_getElem? (i := 369) (by decide +kernel), rfl⟩
set_option maxRecDepth 20000 in
theorem gw_370 : Cond.selects RX5 yX5_leastWornAt yX5_leastWornAt ∈ GW := List.mem_filter.mpr ⟨List.mem_of_getElem? (i := 370) (by decide +kernel), rfl⟩
set_option maxRecDepth 20000 in
theorem gw_371 : Cond.code yX5_leastWornAt cX5_leastWornAt 7 (some .int) ∈ GW := List.mem_filter.mpr ⟨List.mem_of_getElem? (i := 371) rfl, rfl⟩
set_option maxRecDepth 20000 in
theorem gw_372 : Cond.methodLink RX6 56 yX0_lend ∈ GW := List.mem_filter.mpr ⟨List.mem_of_getElem? (i := 372) (by decide +kernel), rfl⟩
set_option maxRecDepth 20000 in
theorem gw_373 : Cond.instanceMethod yX0_lend ∈ GW := List.mem_filter.mpr ⟨List.mem_of_getElem? (i := 373) (by decide +kernel), rfl⟩
set_option maxRecDepth 20000 in
theorem gw_374 : Cond.selects RX0 yX0_lend yX0_lend ∈ GW := List.mem_filter.mpr ⟨List.mem_of_getElem? (i := 374) (by decide +kernel), rfl⟩
set_option maxRecDepth 20000 in
theorem gw_375 : Cond.code yX0_lend cX0_lend 4 (some .int) ∈ GW := List.mem_filter.mpr ⟨List.mem_of_getElem? (i := 375) rfl, rfl⟩
set_option maxRecDepth 20000 in
theorem gw_376 : Cond.methodLink RX0 110 yX0_handOut ∈ GW := List.mem_filter.mpr ⟨List.mem_of_getElem? (i := 376) (by decide +kernel), rfl⟩
set_option maxRecDepth 20000 in
theorem gw_378 : Cond.instanceMethod yX0_handOut ∈ GW := List.mem_filter.mpr ⟨List.mem_of_getElem? (i := 378) (by decide +kernel), rfl⟩
set_option maxRecDepth 20000 in
theorem gw_379 : Cond.code yX0_handOut cX0_handOut 3 none ∈ GW := List.mem_filter.mpr ⟨List.mem_of_getElem? (i := 379) rfl, rfl⟩
set_option maxRecDepth 20000 in
theorem gw_380 : Cond.methodLink RX0 113 yX5_move ∈ GW := List.mem_filter.mpr ⟨List.mem_of_getElem? (i := 380) (by decide +kernel), rfl⟩
set_option maxRecDepth 20000 in
theorem gw_381 : Cond.instanceMethod yX5_move ∈ GW := List.mem_filter.mpr ⟨List.mem_of_getElem? (i := 381) (by decide +kernel), rfl⟩
set_option maxRecDepth 20000 in
theorem gw_382 : Cond.selects RX5 yX5_move yX5_move ∈ GW := List.mem_filter.mpr ⟨List.mem_of_getElem? (i := 382) (by decide +kernel), rfl⟩
set_option maxRecDepth 20000 in
theorem gw_383 : Cond.code yX5_move cX5_move 3 none ∈ GW := List.mem_filter.mpr ⟨List.mem_of_getElem? (i := 383) rfl, rfl⟩
set_option maxRecDepth 20000 in
theorem gw_384 : Cond.methodLink RX0 119 yX2_add ∈ GW := List.mem_filter.mpr ⟨List.mem_of_getElem? (i := 384) (by decide +kernel), rfl⟩
set_option maxRecDepth 20000 in
theorem gw_385 : Cond.methodLink "RibbedLoansLaw" 26 yX6_bringBack ∈ GW := List.mem_filter.mpr ⟨List.mem_of_getElem? (i := 385) (by decide +kernel), rfl⟩
set_option maxRecDepth 20000 in
theorem gw_386 : Cond.instanceMethod yX6_bringBack ∈ GW := List.mem_filter.mpr ⟨List.mem_of_getElem? (i := 386) (by decide +kernel), rfl⟩
set_option maxRecDepth 20000 in
theorem gw_387 : Cond.selects RX6 yX6_bringBack yX6_bringBack ∈ GW := List.mem_filter.mpr ⟨List.mem_of_getElem? (i := 387) (by decide +kernel), rfl⟩
set_option maxRecDepth 20000 in
theorem gw_388 : Cond.code yX6_bringBack cX6_bringBack 4 (some .int) ∈ GW := List.mem_filter.mpr ⟨List.mem_of_getElem? (i := 388) rfl, rfl⟩
set_option maxRecDepth 20000 in
theorem gw_389 : Cond.methodLink RX6 59 yX0_returningError ∈ GW := List.mem_filter.mpr ⟨List.mem_of_getElem? (i := 389) (by decide +kernel), rfl⟩
set_option maxRecDepth 20000 in
theorem gw_390 : Cond.instanceMethod yX0_returningError ∈ GW := List.mem_filter.mpr ⟨List.mem_of_getElem? (i := 390) (by decide +kernel), rfl⟩
set_option maxRecDepth 20000 in
theorem gw_391 : Cond.selects RX0 yX0_returningError yX0_returningError ∈ GW := List.mem_filter.mpr ⟨List.mem_of_getElem? (i := 391) (by decide +kernel), rfl⟩
set_option maxRecDepth 20000 in
theorem gw_392 : Cond.code yX0_returningError cX0_returningError 3 (some .int) ∈ GW := List.mem_filter.mpr ⟨List.mem_of_getElem? (i := 392) rfl, rfl⟩
set_option maxRecDepth 20000 in
theorem gw_393 : Cond.methodLink RX0 122 yX0_hasOne ∈ GW := List.mem_filter.mpr ⟨List.mem_of_getElem? (i := 393) (by decide +kernel), rfl⟩
set_option maxRecDepth 20000 in
theorem gw_394 : Cond.instanceMethod yX0_hasOne ∈ GW := List.mem_filter.mpr ⟨List.mem_of_getElem? (i := 394) (by decide +kernel), rfl⟩
set_option maxRecDepth 20000 in
theorem gw_395 : Cond.selects RX0 yX0_hasOne yX0_hasOne ∈ GW := List.mem_filter.mpr ⟨List.mem_of_getElem? (i := 395) (by decide +kernel), rfl⟩
set_option maxRecDepth 20000 in
theorem gw_396 : Cond.code yX0_hasOne cX0_hasOne 2 (some .boolean) ∈ GW := List.mem_filter.mpr ⟨List.mem_of_getElem? (i := 396) rfl, rfl⟩
set_option maxRecDepth 20000 in
theorem gw_397 : Cond.methodLink RX6 62 yX0_takeBack ∈ GW := List.mem_filter.mpr ⟨List.mem_of_getElem? (i := 397) (by decide +kernel), rfl⟩
set_option maxRecDepth 20000 in
theorem gw_398 : Cond.instanceMethod yX0_takeBack ∈ GW := List.mem_filter.mpr ⟨List.mem_of_getElem? (i := 398) (by decide +kernel), rfl⟩
set_option maxRecDepth 20000 in
theorem gw_399 : Cond.selects RX0 yX0_takeBack yX0_takeBack ∈ GW := List.mem_filter.mpr ⟨List.mem_of_getElem? (i := 399) (by decide +kernel), rfl⟩
set_option maxRecDepth 20000 in
theorem gw_400 : Cond.code yX0_takeBack cX0_takeBack 4 (some .int) ∈ GW := List.mem_filter.mpr ⟨List.mem_of_getElem? (i := 400) rfl, rfl⟩
set_option maxRecDepth 20000 in
theorem gw_401 : Cond.methodLink RX0 125 yX0_feeAfter ∈ GW := List.mem_filter.mpr ⟨List.mem_of_getElem? (i := 401) (by decide +kernel), rfl⟩
set_option maxRecDepth 20000 in
theorem gw_402 : Cond.instanceMethod yX0_feeAfter ∈ GW := List.mem_filter.mpr ⟨List.mem_of_getElem? (i := 402) (by decide +kernel), rfl⟩
set_option maxRecDepth 20000 in
theorem gw_403 : Cond.selects RX0 yX0_feeAfter yX0_feeAfter ∈ GW := List.mem_filter.mpr ⟨List.mem_of_getElem? (i := 403) (by decide +kernel), rfl⟩
set_option maxRecDepth 20000 in
theorem gw_404 : Cond.code yX0_feeAfter cX0_feeAfter 7 (some .int) ∈ GW := List.mem_filter.mpr ⟨List.mem_of_getElem? (i := 404) rfl, rfl⟩
set_option maxRecDepth 20000 in
theorem gw_405 : Cond.methodLink RX0 129 yX0_inHand ∈ GW := List.mem_filter.mpr ⟨List.mem_of_getElem? (i := 405) (by decide +kernel), rfl⟩
set_option maxRecDepth 20000 in
theorem gw_406 : Cond.instanceMethod yX0_inHand ∈ GW := List.mem_filter.mpr ⟨List.mem_of_getElem? (i := 406) (by decide +kernel), rfl⟩
set_option maxRecDepth 20000 in
theorem gw_407 : Cond.selects RX0 yX0_inHand yX0_inHand ∈ GW := List.mem_filter.mpr ⟨List.mem_of_getElem? (i := 407) (by decide +kernel), rfl⟩
set_option maxRecDepth 20000 in
theorem gw_408 : Cond.code yX0_inHand cX0_inHand 2 (some .int) ∈ GW := List.mem_filter.mpr ⟨List.mem_of_getElem? (i := 408) rfl, rfl⟩
set_option maxRecDepth 20000 in
theorem gw_409 : Cond.methodLink RX0 78 yX5_nthAt ∈ GW := List.mem_filter.mpr ⟨List.mem_of_getElem? (i := 409) (by decide +kernel), rfl⟩
set_option maxRecDepth 20000 in
theorem gw_410 : Cond.instanceMethod yX5_nthAt ∈ GW := List.mem_filter.mpr ⟨List.mem_of_getElem? (i := 410) (by decide +kernel), rfl⟩
set_option maxRecDepth 20000 in
theorem gw_411 : Cond.selects RX5 yX5_nthAt yX5_nthAt ∈ GW := List.mem_filter.mpr ⟨List.mem_of_getElem? (i := 411) (by decide +kernel), rfl⟩
set_option maxRecDepth 20000 in
theorem gw_412 : Cond.code yX5_nthAt cX5_nthAt 5 (some .int) ∈ GW := List.mem_filter.mpr ⟨List.mem_of_getElem? (i := 412) rfl, rfl⟩
set_option maxRecDepth 20000 in
theorem gw_414 : Cond.static yX6_wornBy ∈ GW := List.mem_filter.mpr ⟨List.mem_of_getElem? (i := 414) (by decide +kernel), rfl⟩
set_option maxRecDepth 20000 in
theorem gw_415 : Cond.code yX6_wornBy cX6_wornBy 4 (some .int) ∈ GW := List.mem_filter.mpr ⟨List.mem_of_getElem? (i := 415) rfl, rfl⟩
set_option maxRecDepth 20000 in
theorem gw_416 : Cond.methodLink RX6 266 Lib.Math.min.name ∈ GW := List.mem_filter.mpr ⟨List.mem_of_getElem? (i := 416) (by decide +kernel), rfl⟩
set_option maxRecDepth 20000 in
theorem gw_417 : Cond.methodLink RX0 138 Lib.Math.min.name ∈ GW := List.mem_filter.mpr ⟨List.mem_of_getElem? (i := 417) (by decide +kernel), rfl⟩
set_option maxRecDepth 20000 in
theorem gw_418 : Cond.methodLink "RibbedLoansLaw" 30 yX6_hour ∈ GW := List.mem_filter.mpr ⟨List.mem_of_getElem? (i := 418) (by decide +kernel), rfl⟩
set_option maxRecDepth 20000 in
theorem gw_419 : Cond.instanceMethod yX6_hour ∈ GW := List.mem_filter.mpr ⟨List.mem_of_getElem? (i := 419) (by decide +kernel), rfl⟩
set_option maxRecDepth 20000 in
theorem gw_420 : Cond.selects RX6 yX6_hour yX6_hour ∈ GW := List.mem_filter.mpr ⟨List.mem_of_getElem? (i := 420) (by decide +kernel), rfl⟩
set_option maxRecDepth 20000 in
theorem gw_421 : Cond.code yX6_hour cX6_hour 4 (some .int) ∈ GW := List.mem_filter.mpr ⟨List.mem_of_getElem? (i := 421) rfl, rfl⟩
set_option maxRecDepth 20000 in
theorem gw_422 : Cond.methodLink RX6 65 yX0_passingError ∈ GW := List.mem_filter.mpr ⟨List.mem_of_getElem? (i := 422) (by decide +kernel), rfl⟩
set_option maxRecDepth 20000 in
theorem gw_423 : Cond.instanceMethod yX0_passingError ∈ GW := List.mem_filter.mpr ⟨List.mem_of_getElem? (i := 423) (by decide +kernel), rfl⟩
set_option maxRecDepth 20000 in
theorem gw_424 : Cond.selects RX0 yX0_passingError yX0_passingError ∈ GW := List.mem_filter.mpr ⟨List.mem_of_getElem? (i := 424) (by decide +kernel), rfl⟩
set_option maxRecDepth 20000 in
theorem gw_425 : Cond.code yX0_passingError cX0_passingError 3 (some .int) ∈ GW := List.mem_filter.mpr ⟨List.mem_of_getElem? (i := 425) rfl, rfl⟩
set_option maxRecDepth 20000 in
theorem gw_426 : Cond.methodLink RX6 68 yX0_passHour ∈ GW := List.mem_filter.mpr ⟨List.mem_of_getElem? (i := 426) (by decide +kernel), rfl⟩
set_option maxRecDepth 20000 in
theorem gw_427 : Cond.instanceMethod yX0_passHour ∈ GW := List.mem_filter.mpr ⟨List.mem_of_getElem? (i := 427) (by decide +kernel), rfl⟩
set_option maxRecDepth 20000 in
theorem gw_428 : Cond.selects RX0 yX0_passHour yX0_passHour ∈ GW := List.mem_filter.mpr ⟨List.mem_of_getElem? (i := 428) (by decide +kernel), rfl⟩
set_option maxRecDepth 20000 in
theorem gw_429 : Cond.code yX0_passHour cX0_passHour 4 (some .int) ∈ GW := List.mem_filter.mpr ⟨List.mem_of_getElem? (i := 429) rfl, rfl⟩
set_option maxRecDepth 20000 in
theorem gw_430 : Cond.methodLink RX0 143 yX0_countShower ∈ GW := List.mem_filter.mpr ⟨List.mem_of_getElem? (i := 430) (by decide +kernel), rfl⟩
set_option maxRecDepth 20000 in
theorem gw_432 : Cond.instanceMethod yX0_countShower ∈ GW := List.mem_filter.mpr ⟨List.mem_of_getElem? (i := 432) (by decide +kernel), rfl⟩
set_option maxRecDepth 20000 in
theorem gw_433 : Cond.code yX0_countShower cX0_countShower 2 none ∈ GW := List.mem_filter.mpr ⟨List.mem_of_getElem? (i := 433) rfl, rfl⟩
set_option maxRecDepth 20000 in
theorem gw_434 : Cond.methodLink RX0 146 yX0_wearDown ∈ GW := List.mem_filter.mpr ⟨List.mem_of_getElem? (i := 434) (by decide +kernel), rfl⟩
set_option maxRecDepth 20000 in
theorem gw_436 : Cond.instanceMethod yX0_wearDown ∈ GW := List.mem_filter.mpr ⟨List.mem_of_getElem? (i := 436) (by decide +kernel), rfl⟩
set_option maxRecDepth 20000 in
theorem gw_437 : Cond.code yX0_wearDown cX0_wearDown 7 (some .int) ∈ GW := List.mem_filter.mpr ⟨List.mem_of_getElem? (i := 437) rfl, rfl⟩
set_option maxRecDepth 20000 in
theorem gw_439 : Cond.methodLink RX0 149 yX0_surge ∈ GW := List.mem_filter.mpr ⟨List.mem_of_getElem? (i := 439) (by decide +kernel), rfl⟩
set_option maxRecDepth 20000 in
theorem gw_441 : Cond.instanceMethod yX0_surge ∈ GW := List.mem_filter.mpr ⟨List.mem_of_getElem? (i := 441) (by decide +kernel), rfl⟩
set_option maxRecDepth 20000 in
theorem gw_442 : Cond.code yX0_surge cX0_surge 3 none ∈ GW := List.mem_filter.mpr ⟨List.mem_of_getElem? (i := 442) rfl, rfl⟩
set_option maxRecDepth 20000 in
theorem gw_443 : Cond.methodLink "RibbedLoansLaw" 34 yX6_load ∈ GW := List.mem_filter.mpr ⟨List.mem_of_getElem? (i := 443) (by decide +kernel), rfl⟩
set_option maxRecDepth 20000 in
theorem gw_444 : Cond.instanceMethod yX6_load ∈ GW := List.mem_filter.mpr ⟨List.mem_of_getElem? (i := 444) (by decide +kernel), rfl⟩
set_option maxRecDepth 20000 in
theorem gw_445 : Cond.selects RX6 yX6_load yX6_load ∈ GW := List.mem_filter.mpr ⟨List.mem_of_getElem? (i := 445) (by decide +kernel), rfl⟩
set_option maxRecDepth 20000 in
theorem gw_446 : Cond.code yX6_load cX6_load 5 (some .int) ∈ GW := List.mem_filter.mpr ⟨List.mem_of_getElem? (i := 446) rfl, rfl⟩
set_option maxRecDepth 20000 in
theorem gw_447 : Cond.methodLink RX6 71 yX0_loadingError ∈ GW := List.mem_filter.mpr ⟨List.mem_of_getElem? (i := 447) (by decide +kernel), rfl⟩
set_option maxRecDepth 20000 in
theorem gw_448 : Cond.instanceMethod yX0_loadingError ∈ GW := List.mem_filter.mpr ⟨List.mem_of_getElem? (i := 448) (by decide +kernel), rfl⟩
set_option maxRecDepth 20000 in
theorem gw_449 : Cond.selects RX0 yX0_loadingError yX0_loadingError ∈ GW := List.mem_filter.mpr ⟨List.mem_of_getElem? (i := 449) (by decide +kernel), rfl⟩
set_option maxRecDepth 20000 in
theorem gw_450 : Cond.code yX0_loadingError cX0_loadingError 5 (some .int) ∈ GW := List.mem_filter.mpr ⟨List.mem_of_getElem? (i := 450) rfl, rfl⟩
set_option maxRecDepth 20000 in
theorem gw_451 : Cond.methodLink RX6 75 yX0_fillVan ∈ GW := List.mem_filter.mpr ⟨List.mem_of_getElem? (i := 451) (by decide +kernel), rfl⟩
set_option maxRecDepth 20000 in
theorem gw_452 : Cond.instanceMethod yX0_fillVan ∈ GW := List.mem_filter.mpr ⟨List.mem_of_getElem? (i := 452) (by decide +kernel), rfl⟩
set_option maxRecDepth 20000 in
theorem gw_453 : Cond.selects RX0 yX0_fillVan yX0_fillVan ∈ GW := List.mem_filter.mpr ⟨List.mem_of_getElem? (i := 453) (by decide +kernel), rfl⟩
set_option maxRecDepth 20000 in
theorem gw_454 : Cond.code yX0_fillVan cX0_fillVan 7 (some .int) ∈ GW := List.mem_filter.mpr ⟨List.mem_of_getElem? (i := 454) rfl, rfl⟩
set_option maxRecDepth 20000 in
theorem gw_455 : Cond.methodLink RX0 161 yX5_worstAt ∈ GW := List.mem_filter.mpr ⟨List.mem_of_getElem? (i := 455) (by decide +kernel), rfl⟩
set_option maxRecDepth 20000 in
theorem gw_456 : Cond.instanceMethod yX5_worstAt ∈ GW := List.mem_filter.mpr ⟨List.mem_of_getElem? (i := 456) (by decide +kernel), rfl⟩
set_option maxRecDepth 20000 in
theorem gw_457 : Cond.selects RX5 yX5_worstAt yX5_worstAt ∈ GW := List.mem_filter.mpr ⟨List.mem_of_getElem? (i := 457) (by decide +kernel), rfl⟩
set_option maxRecDepth 20000 in
theorem gw_458 : Cond.code yX5_worstAt cX5_worstAt 4 (some .int) ∈ GW := List.mem_filter.mpr ⟨List.mem_of_getElem? (i := 458) rfl, rfl⟩
set_option maxRecDepth 20000 in
theorem gw_459 : Cond.methodLink RX0 164 yX5_isBroken ∈ GW := List.mem_filter.mpr ⟨List.mem_of_getElem? (i := 459) (by decide +kernel), rfl⟩
set_option maxRecDepth 20000 in
theorem gw_460 : Cond.instanceMethod yX5_isBroken ∈ GW := List.mem_filter.mpr ⟨List.mem_of_getElem? (i := 460) (by decide +kernel), rfl⟩
set_option maxRecDepth 20000 in
theorem gw_461 : Cond.selects RX5 yX5_isBroken yX5_isBroken ∈ GW := List.mem_filter.mpr ⟨List.mem_of_getElem? (i := 461) (by decide +kernel), rfl⟩
set_option maxRecDepth 20000 in
theorem gw_462 : Cond.code yX5_isBroken cX5_isBroken 2 (some .boolean) ∈ GW := List.mem_filter.mpr ⟨List.mem_of_getElem? (i := 462) rfl, rfl⟩
set_option maxRecDepth 20000 in
theorem gw_463 : Cond.methodLink "RibbedLoansLaw" 39 yX6_unload ∈ GW := List.mem_filter.mpr ⟨List.mem_of_getElem? (i := 463) (by decide +kernel), rfl⟩
set_option maxRecDepth 20000 in
theorem gw_464 : Cond.instanceMethod yX6_unload ∈ GW := List.mem_filter.mpr ⟨List.mem_of_getElem? (i := 464) (by decide +kernel), rfl⟩
set_option maxRecDepth 20000 in
theorem gw_465 : Cond.selects RX6 yX6_unload yX6_unload ∈ GW := List.mem_filter.mpr ⟨List.mem_of_getElem? (i := 465) (by decide +kernel), rfl⟩
set_option maxRecDepth 20000 in
theorem gw_466 : Cond.code yX6_unload cX6_unload 5 (some .int) ∈ GW := List.mem_filter.mpr ⟨List.mem_of_getElem? (i := 466) rfl, rfl⟩
set_option maxRecDepth 20000 in
theorem gw_467 : Cond.methodLink RX6 78 yX0_unloadingError ∈ GW := List.mem_filter.mpr ⟨List.mem_of_getElem? (i := 467) (by decide +kernel), rfl⟩
set_option maxRecDepth 20000 in
theorem gw_468 : Cond.instanceMethod yX0_unloadingError ∈ GW := List.mem_filter.mpr ⟨List.mem_of_getElem? (i := 468) (by decide +kernel), rfl⟩
set_option maxRecDepth 20000 in
theorem gw_469 : Cond.selects RX0 yX0_unloadingError yX0_unloadingError ∈ GW := List.mem_filter.mpr ⟨List.mem_of_getElem? (i := 469) (by decide +kernel), rfl⟩
set_option maxRecDepth 20000 in
theorem gw_470 : Cond.code yX0_unloadingError cX0_unloadingError 4 (some .int) ∈ GW := List.mem_filter.mpr ⟨List.mem_of_getElem? (i := 470) rfl, rfl⟩
set_option maxRecDepth 20000 in
theorem gw_471 : Cond.methodLink RX0 158 yX5_wholeAt ∈ GW := List.mem_filter.mpr ⟨List.mem_of_getElem? (i := 471) (by decide +kernel), rfl⟩
set_option maxRecDepth 20000 in
theorem gw_472 : Cond.instanceMethod yX5_wholeAt ∈ GW := List.mem_filter.mpr ⟨List.mem_of_getElem? (i := 472) (by decide +kernel), rfl⟩
set_option maxRecDepth 20000 in
theorem gw_473 : Cond.selects RX5 yX5_wholeAt yX5_wholeAt ∈ GW := List.mem_filter.mpr ⟨List.mem_of_getElem? (i := 473) (by decide +kernel), rfl⟩
set_option maxRecDepth 20000 in
theorem gw_474 : Cond.code yX5_wholeAt cX5_wholeAt 2 (some .int) ∈ GW := List.mem_filter.mpr ⟨List.mem_of_getElem? (i := 474) rfl, rfl⟩
set_option maxRecDepth 20000 in
theorem gw_475 : Cond.methodLink RX5 57 yX5_brokenAt ∈ GW := List.mem_filter.mpr ⟨List.mem_of_getElem? (i := 475) (by decide +kernel), rfl⟩
set_option maxRecDepth 20000 in
theorem gw_476 : Cond.instanceMethod yX5_brokenAt ∈ GW := List.mem_filter.mpr ⟨List.mem_of_getElem? (i := 476) (by decide +kernel), rfl⟩
set_option maxRecDepth 20000 in
theorem gw_477 : Cond.selects RX5 yX5_brokenAt yX5_brokenAt ∈ GW := List.mem_filter.mpr ⟨List.mem_of_getElem? (i := 477) (by decide +kernel), rfl⟩
set_option maxRecDepth 20000 in
theorem gw_478 : Cond.code yX5_brokenAt cX5_brokenAt 4 (some .int) ∈ GW := List.mem_filter.mpr ⟨List.mem_of_getElem? (i := 478) rfl, rfl⟩
set_option maxRecDepth 20000 in
theorem gw_479 : Cond.methodLink RX5 53 yX5_isBroken ∈ GW := List.mem_filter.mpr ⟨List.mem_of_getElem? (i := 479) (by decide +kernel), rfl⟩
set_option maxRecDepth 20000 in
theorem gw_480 : Cond.methodLink RX6 81 yX0_emptyVan ∈ GW := List.mem_filter.mpr ⟨List.mem_of_getElem? (i := 480) (by decide +kernel), rfl⟩
set_option maxRecDepth 20000 in
theorem gw_481 : Cond.instanceMethod yX0_emptyVan ∈ GW := List.mem_filter.mpr ⟨List.mem_of_getElem? (i := 481) (by decide +kernel), rfl⟩
set_option maxRecDepth 20000 in
theorem gw_482 : Cond.selects RX0 yX0_emptyVan yX0_emptyVan ∈ GW := List.mem_filter.mpr ⟨List.mem_of_getElem? (i := 482) (by decide +kernel), rfl⟩
set_option maxRecDepth 20000 in
theorem gw_483 : Cond.code yX0_emptyVan cX0_emptyVan 6 (some .int) ∈ GW := List.mem_filter.mpr ⟨List.mem_of_getElem? (i := 483) rfl, rfl⟩
set_option maxRecDepth 20000 in
theorem gw_484 : Cond.methodLink "RibbedLoansLaw" 43 yX6_toWorkshop ∈ GW := List.mem_filter.mpr ⟨List.mem_of_getElem? (i := 484) (by decide +kernel), rfl⟩
set_option maxRecDepth 20000 in
theorem gw_485 : Cond.instanceMethod yX6_toWorkshop ∈ GW := List.mem_filter.mpr ⟨List.mem_of_getElem? (i := 485) (by decide +kernel), rfl⟩
set_option maxRecDepth 20000 in
theorem gw_486 : Cond.selects RX6 yX6_toWorkshop yX6_toWorkshop ∈ GW := List.mem_filter.mpr ⟨List.mem_of_getElem? (i := 486) (by decide +kernel), rfl⟩
set_option maxRecDepth 20000 in
theorem gw_487 : Cond.code yX6_toWorkshop cX6_toWorkshop 3 (some .int) ∈ GW := List.mem_filter.mpr ⟨List.mem_of_getElem? (i := 487) rfl, rfl⟩
set_option maxRecDepth 20000 in
theorem gw_488 : Cond.methodLink RX6 84 yX0_deliveringError ∈ GW := List.mem_filter.mpr ⟨List.mem_of_getElem? (i := 488) (by decide +kernel), rfl⟩
set_option maxRecDepth 20000 in
theorem gw_489 : Cond.instanceMethod yX0_deliveringError ∈ GW := List.mem_filter.mpr ⟨List.mem_of_getElem? (i := 489) (by decide +kernel), rfl⟩
set_option maxRecDepth 20000 in
theorem gw_490 : Cond.selects RX0 yX0_deliveringError yX0_deliveringError ∈ GW := List.mem_filter.mpr ⟨List.mem_of_getElem? (i := 490) (by decide +kernel), rfl⟩
set_option maxRecDepth 20000 in
theorem gw_491 : Cond.code yX0_deliveringError cX0_deliveringError 2 (some .int) ∈ GW := List.mem_filter.mpr ⟨List.mem_of_getElem? (i := 491) rfl, rfl⟩
set_option maxRecDepth 20000 in
theorem gw_492 : Cond.methodLink RX0 167 yX5_brokenAt ∈ GW := List.mem_filter.mpr ⟨List.mem_of_getElem? (i := 492) (by decide +kernel), rfl⟩
set_option maxRecDepth 20000 in
theorem gw_493 : Cond.methodLink RX6 88 yX0_deliver ∈ GW := List.mem_filter.mpr ⟨List.mem_of_getElem? (i := 493) (by decide +kernel), rfl⟩
set_option maxRecDepth 20000 in
theorem gw_494 : Cond.instanceMethod yX0_deliver ∈ GW := List.mem_filter.mpr ⟨List.mem_of_getElem? (i := 494) (by decide +kernel), rfl⟩
set_option maxRecDepth 20000 in
theorem gw_495 : Cond.selects RX0 yX0_deliver yX0_deliver ∈ GW := List.mem_filter.mpr ⟨List.mem_of_getElem? (i := 495) (by decide +kernel), rfl⟩
set_option maxRecDepth 20000 in
theorem gw_496 : Cond.code yX0_deliver cX0_deliver 4 (some .int) ∈ GW := List.mem_filter.mpr ⟨List.mem_of_getElem? (i := 496) rfl, rfl⟩
set_option maxRecDepth 20000 in
theorem gw_497 : Cond.methodLink "RibbedLoansLaw" 48 yX6_mend ∈ GW := List.mem_filter.mpr ⟨List.mem_of_getElem? (i := 497) (by decide +kernel), rfl⟩
set_option maxRecDepth 20000 in
theorem gw_498 : Cond.instanceMethod yX6_mend ∈ GW := List.mem_filter.mpr ⟨List.mem_of_getElem? (i := 498) (by decide +kernel), rfl⟩
set_option maxRecDepth 20000 in
theorem gw_499 : Cond.selects RX6 yX6_mend yX6_mend ∈ GW := List.mem_filter.mpr ⟨List.mem_of_getElem? (i := 499) (by decide +kernel), rfl⟩
set_option maxRecDepth 20000 in
theorem gw_500 : Cond.code yX6_mend cX6_mend 3 (some .int) ∈ GW := List.mem_filter.mpr ⟨List.mem_of_getElem? (i := 500) rfl, rfl⟩
set_option maxRecDepth 20000 in
theorem gw_501 : Cond.methodLink RX6 91 yX0_mendingError ∈ GW := List.mem_filter.mpr ⟨List.mem_of_getElem? (i := 501) (by decide +kernel), rfl⟩
set_option maxRecDepth 20000 in
theorem gw_502 : Cond.instanceMethod yX0_mendingError ∈ GW := List.mem_filter.mpr ⟨List.mem_of_getElem? (i := 502) (by decide +kernel), rfl⟩
set_option maxRecDepth 20000 in
theorem gw_503 : Cond.selects RX0 yX0_mendingError yX0_mendingError ∈ GW := List.mem_filter.mpr ⟨List.mem_of_getElem? (i := 503) (by decide +kernel), rfl⟩
set_option maxRecDepth 20000 in
theorem gw_504 : Cond.code yX0_mendingError cX0_mendingError 2 (some .int) ∈ GW := List.mem_filter.mpr ⟨List.mem_of_getElem? (i := 504) rfl, rfl⟩
set_option maxRecDepth 20000 in
theorem gw_505 : Cond.methodLink RX6 94 yX0_mendOne ∈ GW := List.mem_filter.mpr ⟨List.mem_of_getElem? (i := 505) (by decide +kernel), rfl⟩
set_option maxRecDepth 20000 in
theorem gw_506 : Cond.instanceMethod yX0_mendOne ∈ GW := List.mem_filter.mpr ⟨List.mem_of_getElem? (i := 506) (by decide +kernel), rfl⟩
set_option maxRecDepth 20000 in
theorem gw_507 : Cond.selects RX0 yX0_mendOne yX0_mendOne ∈ GW := List.mem_filter.mpr ⟨List.mem_of_getElem? (i := 507) (by decide +kernel), rfl⟩
set_option maxRecDepth 20000 in
theorem gw_508 : Cond.code yX0_mendOne cX0_mendOne 5 (some .int) ∈ GW := List.mem_filter.mpr ⟨List.mem_of_getElem? (i := 508) rfl, rfl⟩
set_option maxRecDepth 20000 in
theorem gw_509 : Cond.methodLink RX0 170 yX5_leastWornAt ∈ GW := List.mem_filter.mpr ⟨List.mem_of_getElem? (i := 509) (by decide +kernel), rfl⟩
set_option maxRecDepth 20000 in
theorem gw_510 : Cond.methodLink RX0 173 Lib.Math.max.name ∈ GW := List.mem_filter.mpr ⟨List.mem_of_getElem? (i := 510) (by decide +kernel), rfl⟩
set_option maxRecDepth 20000 in
theorem gw_511 : Cond.methodLink "RibbedLoansLaw" 52 yX6_level ∈ GW := List.mem_filter.mpr ⟨List.mem_of_getElem? (i := 511) (by decide +kernel), rfl⟩
set_option maxRecDepth 20000 in
theorem gw_512 : Cond.instanceMethod yX6_level ∈ GW := List.mem_filter.mpr ⟨List.mem_of_getElem? (i := 512) (by decide +kernel), rfl⟩
set_option maxRecDepth 20000 in
theorem gw_513 : Cond.selects RX6 yX6_level yX6_level ∈ GW := List.mem_filter.mpr ⟨List.mem_of_getElem? (i := 513) (by decide +kernel), rfl⟩
set_option maxRecDepth 20000 in
theorem gw_514 : Cond.code yX6_level cX6_level 1 (some .int) ∈ GW := List.mem_filter.mpr ⟨List.mem_of_getElem? (i := 514) rfl, rfl⟩
set_option maxRecDepth 20000 in
theorem gw_515 : Cond.methodLink RX6 97 yX0_evenOut ∈ GW := List.mem_filter.mpr ⟨List.mem_of_getElem? (i := 515) (by decide +kernel), rfl⟩
set_option maxRecDepth 20000 in
theorem gw_516 : Cond.instanceMethod yX0_evenOut ∈ GW := List.mem_filter.mpr ⟨List.mem_of_getElem? (i := 516) (by decide +kernel), rfl⟩
set_option maxRecDepth 20000 in
theorem gw_517 : Cond.selects RX0 yX0_evenOut yX0_evenOut ∈ GW := List.mem_filter.mpr ⟨List.mem_of_getElem? (i := 517) (by decide +kernel), rfl⟩
set_option maxRecDepth 20000 in
theorem gw_518 : Cond.code yX0_evenOut cX0_evenOut 6 (some .int) ∈ GW := List.mem_filter.mpr ⟨List.mem_of_getElem? (i := 518) rfl, rfl⟩
set_option maxRecDepth 20000 in
theorem gw_519 : Cond.constant "RibbedLoans$City" 176 (1000000 : Int32) ∈ GW := List.mem_filter.mpr ⟨List.mem_of_getElem? (i := 519) (by decide +kernel), rfl⟩
set_option maxRecDepth 20000 in
theorem gw_520 : Cond.methodLink RX0 177 yX0_fullest ∈ GW := List.mem_filter.mpr ⟨List.mem_of_getElem? (i := 520) (by decide +kernel), rfl⟩
set_option maxRecDepth 20000 in
theorem gw_522 : Cond.instanceMethod yX0_fullest ∈ GW := List.mem_filter.mpr ⟨List.mem_of_getElem? (i := 522) (by decide +kernel), rfl⟩
set_option maxRecDepth 20000 in
theorem gw_523 : Cond.code yX0_fullest cX0_fullest 3 (some .int) ∈ GW := List.mem_filter.mpr ⟨List.mem_of_getElem? (i := 523) rfl, rfl⟩
set_option maxRecDepth 20000 in
theorem gw_524 : Cond.methodLink RX0 180 yX0_emptiestWithRoom ∈ GW := List.mem_filter.mpr ⟨List.mem_of_getElem? (i := 524) (by decide +kernel), rfl⟩
set_option maxRecDepth 20000 in
theorem gw_526 : Cond.instanceMethod yX0_emptiestWithRoom ∈ GW := List.mem_filter.mpr ⟨List.mem_of_getElem? (i := 526) (by decide +kernel), rfl⟩
set_option maxRecDepth 20000 in
theorem gw_527 : Cond.code yX0_emptiestWithRoom cX0_emptiestWithRoom 4 (some .int) ∈ GW := List.mem_filter.mpr ⟨List.mem_of_getElem? (i := 527) rfl, rfl⟩
set_option maxRecDepth 20000 in
theorem gw_528 : Cond.methodLink "RibbedLoansLaw" 57 yX6_take ∈ GW := List.mem_filter.mpr ⟨List.mem_of_getElem? (i := 528) (by decide +kernel), rfl⟩
set_option maxRecDepth 20000 in
theorem gw_529 : Cond.instanceMethod yX6_take ∈ GW := List.mem_filter.mpr ⟨List.mem_of_getElem? (i := 529) (by decide +kernel), rfl⟩
set_option maxRecDepth 20000 in
theorem gw_530 : Cond.selects RX6 yX6_take yX6_take ∈ GW := List.mem_filter.mpr ⟨List.mem_of_getElem? (i := 530) (by decide +kernel), rfl⟩
set_option maxRecDepth 20000 in
theorem gw_531 : Cond.code yX6_take cX6_take 2 (some .int) ∈ GW := List.mem_filter.mpr ⟨List.mem_of_getElem? (i := 531) rfl, rfl⟩
set_option maxRecDepth 20000 in
theorem gw_532 : Cond.methodLink RX6 101 yX6_outside ∈ GW := List.mem_filter.mpr ⟨List.mem_of_getElem? (i := 532) (by decide +kernel), rfl⟩
set_option maxRecDepth 20000 in
theorem gw_533 : Cond.methodLink RX6 105 yX3_keep ∈ GW := List.mem_filter.mpr ⟨List.mem_of_getElem? (i := 533) (by decide +kernel), rfl⟩
set_option maxRecDepth 20000 in
theorem gw_534 : Cond.instanceMethod yX3_keep ∈ GW := List.mem_filter.mpr ⟨List.mem_of_getElem? (i := 534) (by decide +kernel), rfl⟩
set_option maxRecDepth 20000 in
theorem gw_535 : Cond.selects RX3 yX3_keep yX3_keep ∈ GW := List.mem_filter.mpr ⟨List.mem_of_getElem? (i := 535) (by decide +kernel), rfl⟩
set_option maxRecDepth 20000 in
theorem gw_536 : Cond.code yX3_keep cX3_keep 2 none ∈ GW := List.mem_filter.mpr ⟨List.mem_of_getElem? (i := 536) rfl, rfl⟩
set_option maxRecDepth 20000 in
theorem gw_537 : Cond.methodLink RX3 33 yX3_snapshot ∈ GW := List.mem_filter.mpr ⟨List.mem_of_getElem? (i := 537) (by decide +kernel), rfl⟩
set_option maxRecDepth 20000 in
theorem gw_539 : Cond.instanceMethod yX3_snapshot ∈ GW := List.mem_filter.mpr ⟨List.mem_of_getElem? (i := 539) (by decide +kernel), rfl⟩
set_option maxRecDepth 20000 in
theorem gw_540 : Cond.code yX3_snapshot cX3_snapshot 2 (some (.object "RibbedLoans$City")) ∈ GW := List.mem_filter.mpr ⟨List.mem_of_getElem? (i := 540) rfl, rfl⟩
set_option maxRecDepth 20000 in
theorem gw_541 : Cond.methodLink "RibbedLoansLaw" 61 yX6_restore ∈ GW := List.mem_filter.mpr ⟨List.mem_of_getElem? (i := 541) (by decide +kernel), rfl⟩
set_option maxRecDepth 20000 in
theorem gw_542 : Cond.instanceMethod yX6_restore ∈ GW := List.mem_filter.mpr ⟨List.mem_of_getElem? (i := 542) (by decide +kernel), rfl⟩
set_option maxRecDepth 20000 in
theorem gw_543 : Cond.selects RX6 yX6_restore yX6_restore ∈ GW := List.mem_filter.mpr ⟨List.mem_of_getElem? (i := 543) (by decide +kernel), rfl⟩
set_option maxRecDepth 20000 in
theorem gw_544 : Cond.code yX6_restore cX6_restore 2 (some .int) ∈ GW := List.mem_filter.mpr ⟨List.mem_of_getElem? (i := 544) rfl, rfl⟩
set_option maxRecDepth 20000 in
theorem gw_545 : Cond.methodLink RX6 113 yX3_isKept ∈ GW := List.mem_filter.mpr ⟨List.mem_of_getElem? (i := 545) (by decide +kernel), rfl⟩
set_option maxRecDepth 20000 in
theorem gw_546 : Cond.instanceMethod yX3_isKept ∈ GW := List.mem_filter.mpr ⟨List.mem_of_getElem? (i := 546) (by decide +kernel), rfl⟩
set_option maxRecDepth 20000 in
theorem gw_547 : Cond.selects RX3 yX3_isKept yX3_isKept ∈ GW := List.mem_filter.mpr ⟨List.mem_of_getElem? (i := 547) (by decide +kernel), rfl⟩
set_option maxRecDepth 20000 in
theorem gw_548 : Cond.code yX3_isKept cX3_isKept 2 (some .boolean) ∈ GW := List.mem_filter.mpr ⟨List.mem_of_getElem? (i := 548) rfl, rfl⟩
set_option maxRecDepth 20000 in
theorem gw_549 : Cond.methodLink RX6 117 yX3_bringUp ∈ GW := List.mem_filter.mpr ⟨List.mem_of_getElem? (i := 549) (by decide +kernel), rfl⟩
set_option maxRecDepth 20000 in
theorem gw_550 : Cond.instanceMethod yX3_bringUp ∈ GW := List.mem_filter.mpr ⟨List.mem_of_getElem? (i := 550) (by decide +kernel), rfl⟩
set_option maxRecDepth 20000 in
theorem gw_551 : Cond.selects RX3 yX3_bringUp yX3_bringUp ∈ GW := List.mem_filter.mpr ⟨List.mem_of_getElem? (i := 551) (by decide +kernel), rfl⟩
set_option maxRecDepth 20000 in
theorem gw_552 : Cond.code yX3_bringUp cX3_bringUp 2 none ∈ GW := List.mem_filter.mpr ⟨List.mem_of_getElem? (i := 552) rfl, rfl⟩
set_option maxRecDepth 20000 in
theorem gw_553 : Cond.methodLink "RibbedLoansLaw" 65 yX6_undo ∈ GW := List.mem_filter.mpr ⟨List.mem_of_getElem? (i := 553) (by decide +kernel), rfl⟩
set_option maxRecDepth 20000 in
theorem gw_554 : Cond.instanceMethod yX6_undo ∈ GW := List.mem_filter.mpr ⟨List.mem_of_getElem? (i := 554) (by decide +kernel), rfl⟩
set_option maxRecDepth 20000 in
theorem gw_555 : Cond.selects RX6 yX6_undo yX6_undo ∈ GW := List.mem_filter.mpr ⟨List.mem_of_getElem? (i := 555) (by decide +kernel), rfl⟩
set_option maxRecDepth 20000 in
theorem gw_556 : Cond.code yX6_undo cX6_undo 1 (some .int) ∈ GW := List.mem_filter.mpr ⟨List.mem_of_getElem? (i := 556) rfl, rfl⟩
set_option maxRecDepth 20000 in
theorem gw_557 : Cond.methodLink RX6 123 yX1_moveLatestTo ∈ GW := List.mem_filter.mpr ⟨List.mem_of_getElem? (i := 557) (by decide +kernel), rfl⟩
set_option maxRecDepth 20000 in
theorem gw_558 : Cond.instanceMethod yX1_moveLatestTo ∈ GW := List.mem_filter.mpr ⟨List.mem_of_getElem? (i := 558) (by decide +kernel), rfl⟩
set_option maxRecDepth 20000 in
theorem gw_559 : Cond.selects RX1 yX1_moveLatestTo yX1_moveLatestTo ∈ GW := List.mem_filter.mpr ⟨List.mem_of_getElem? (i := 559) (by decide +kernel), rfl⟩
set_option maxRecDepth 20000 in
theorem gw_560 : Cond.code yX1_moveLatestTo cX1_moveLatestTo 3 none ∈ GW := List.mem_filter.mpr ⟨List.mem_of_getElem? (i := 560) rfl, rfl⟩
set_option maxRecDepth 20000 in
theorem gw_561 : Cond.methodLink "RibbedLoansLaw" 69 yX6_append ∈ GW := List.mem_filter.mpr ⟨List.mem_of_getElem? (i := 561) (by decide +kernel), rfl⟩
set_option maxRecDepth 20000 in
theorem gw_562 : Cond.instanceMethod yX6_append ∈ GW := List.mem_filter.mpr ⟨List.mem_of_getElem? (i := 562) (by decide +kernel), rfl⟩
set_option maxRecDepth 20000 in
theorem gw_563 : Cond.selects RX6 yX6_append yX6_append ∈ GW := List.mem_filter.mpr ⟨List.mem_of_getElem? (i := 563) (by decide +kernel), rfl⟩
set_option maxRecDepth 20000 in
theorem gw_564 : Cond.code yX6_append cX6_append 2 (some .int) ∈ GW := List.mem_filter.mpr ⟨List.mem_of_getElem? (i := 564) rfl, rfl⟩
set_option maxRecDepth 20000 in
theorem gw_565 : Cond.methodLink RX6 129 yX4_add ∈ GW := List.mem_filter.mpr ⟨List.mem_of_getElem? (i := 565) (by decide +kernel), rfl⟩
set_option maxRecDepth 20000 in
theorem gw_566 : Cond.instanceMethod yX4_add ∈ GW := List.mem_filter.mpr ⟨List.mem_of_getElem? (i := 566) (by decide +kernel), rfl⟩
set_option maxRecDepth 20000 in
theorem gw_567 : Cond.selects RX4 yX4_add yX4_add ∈ GW := List.mem_filter.mpr ⟨List.mem_of_getElem? (i := 567) (by decide +kernel), rfl⟩
set_option maxRecDepth 20000 in
theorem gw_568 : Cond.code yX4_add cX4_add 2 none ∈ GW := List.mem_filter.mpr ⟨List.mem_of_getElem? (i := 568) rfl, rfl⟩
set_option maxRecDepth 20000 in
theorem gw_569 : Cond.methodLink "RibbedLoansLaw" 73 yX6_clearText ∈ GW := List.mem_filter.mpr ⟨List.mem_of_getElem? (i := 569) (by decide +kernel), rfl⟩
set_option maxRecDepth 20000 in
theorem gw_570 : Cond.instanceMethod yX6_clearText ∈ GW := List.mem_filter.mpr ⟨List.mem_of_getElem? (i := 570) (by decide +kernel), rfl⟩
set_option maxRecDepth 20000 in
theorem gw_571 : Cond.selects RX6 yX6_clearText yX6_clearText ∈ GW := List.mem_filter.mpr ⟨List.mem_of_getElem? (i := 571) (by decide +kernel), rfl⟩
set_option maxRecDepth 20000 in
theorem gw_572 : Cond.code yX6_clearText cX6_clearText 2 (some .int) ∈ GW := List.mem_filter.mpr ⟨List.mem_of_getElem? (i := 572) rfl, rfl⟩
set_option maxRecDepth 20000 in
theorem gw_573 : Cond.methodLink "RibbedLoansLaw" 77 yX6_carryOut ∈ GW := List.mem_filter.mpr ⟨List.mem_of_getElem? (i := 573) (by decide +kernel), rfl⟩
set_option maxRecDepth 20000 in
theorem gw_574 : Cond.instanceMethod yX6_carryOut ∈ GW := List.mem_filter.mpr ⟨List.mem_of_getElem? (i := 574) (by decide +kernel), rfl⟩
set_option maxRecDepth 20000 in
theorem gw_575 : Cond.selects RX6 yX6_carryOut yX6_carryOut ∈ GW := List.mem_filter.mpr ⟨List.mem_of_getElem? (i := 575) (by decide +kernel), rfl⟩
set_option maxRecDepth 20000 in
theorem gw_576 : Cond.code yX6_carryOut cX6_carryOut 3 (some .int) ∈ GW := List.mem_filter.mpr ⟨List.mem_of_getElem? (i := 576) rfl, rfl⟩
set_option maxRecDepth 20000 in
theorem gw_577 : Cond.methodLink RX6 132 yX4_fault ∈ GW := List.mem_filter.mpr ⟨List.mem_of_getElem? (i := 577) (by decide +kernel), rfl⟩
set_option maxRecDepth 20000 in
theorem gw_578 : Cond.instanceMethod yX4_fault ∈ GW := List.mem_filter.mpr ⟨List.mem_of_getElem? (i := 578) (by decide +kernel), rfl⟩
set_option maxRecDepth 20000 in
theorem gw_579 : Cond.selects RX4 yX4_fault yX4_fault ∈ GW := List.mem_filter.mpr ⟨List.mem_of_getElem? (i := 579) (by decide +kernel), rfl⟩
set_option maxRecDepth 20000 in
theorem gw_580 : Cond.code yX4_fault cX4_fault 2 (some .int) ∈ GW := List.mem_filter.mpr ⟨List.mem_of_getElem? (i := 580) rfl, rfl⟩
set_option maxRecDepth 20000 in
theorem gw_581 : Cond.methodLink RX4 19 yX4_rewind ∈ GW := List.mem_filter.mpr ⟨List.mem_of_getElem? (i := 581) (by decide +kernel), rfl⟩
set_option maxRecDepth 20000 in
theorem gw_582 : Cond.instanceMethod yX4_rewind ∈ GW := List.mem_filter.mpr ⟨List.mem_of_getElem? (i := 582) (by decide +kernel), rfl⟩
set_option maxRecDepth 20000 in
theorem gw_583 : Cond.selects RX4 yX4_rewind yX4_rewind ∈ GW := List.mem_filter.mpr ⟨List.mem_of_getElem? (i := 583) (by decide +kernel), rfl⟩
set_option maxRecDepth 20000 in
theorem gw_584 : Cond.code yX4_rewind cX4_rewind 1 none ∈ GW := List.mem_filter.mpr ⟨List.mem_of_getElem? (i := 584) rfl, rfl⟩
set_option maxRecDepth 20000 in
theorem gw_585 : Cond.methodLink RX4 22 yX4_readOrder ∈ GW := List.mem_filter.mpr ⟨List.mem_of_getElem? (i := 585) (by decide +kernel), rfl⟩
set_option maxRecDepth 20000 in
theorem gw_586 : Cond.instanceMethod yX4_readOrder ∈ GW := List.mem_filter.mpr ⟨List.mem_of_getElem? (i := 586) (by decide +kernel), rfl⟩
set_option maxRecDepth 20000 in
theorem gw_587 : Cond.selects RX4 yX4_readOrder yX4_readOrder ∈ GW := List.mem_filter.mpr ⟨List.mem_of_getElem? (i := 587) (by decide +kernel), rfl⟩
set_option maxRecDepth 20000 in
theorem gw_588 : Cond.code yX4_readOrder cX4_readOrder 1 (some .boolean) ∈ GW := List.mem_filter.mpr ⟨List.mem_of_getElem? (i := 588) rfl, rfl⟩
set_option maxRecDepth 20000 in
theorem gw_589 : Cond.methodLink RX4 33 yX4_peek ∈ GW := List.mem_filter.mpr ⟨List.mem_of_getElem? (i := 589) (by decide +kernel), rfl⟩
set_option maxRecDepth 20000 in
theorem gw_591 : Cond.instanceMethod yX4_peek ∈ GW := List.mem_filter.mpr ⟨List.mem_of_getElem? (i := 591) (by decide +kernel), rfl⟩
set_option maxRecDepth 20000 in
theorem gw_592 : Cond.code yX4_peek cX4_peek 2 (some .int) ∈ GW := List.mem_filter.mpr ⟨List.mem_of_getElem? (i := 592) rfl, rfl⟩
set_option maxRecDepth 20000 in
theorem gw_593 : Cond.methodLink RX4 40 yX4_readNumbers ∈ GW := List.mem_filter.mpr ⟨List.mem_of_getElem? (i := 593) (by decide +kernel), rfl⟩
set_option maxRecDepth 20000 in
theorem gw_595 : Cond.instanceMethod yX4_readNumbers ∈ GW := List.mem_filter.mpr ⟨List.mem_of_getElem? (i := 595) (by decide +kernel), rfl⟩
set_option maxRecDepth 20000 in
theorem gw_596 : Cond.code yX4_readNumbers cX4_readNumbers 2 (some .boolean) ∈ GW := List.mem_filter.mpr ⟨List.mem_of_getElem? (i := 596) rfl, rfl⟩
set_option maxRecDepth 20000 in
theorem gw_597 : Cond.methodLink RX4 43 yX4_readNumber ∈ GW := List.mem_filter.mpr ⟨List.mem_of_getElem? (i := 597) (by decide +kernel), rfl⟩
set_option maxRecDepth 20000 in
theorem gw_599 : Cond.instanceMethod yX4_readNumber ∈ GW := List.mem_filter.mpr ⟨List.mem_of_getElem? (i := 599) (by decide +kernel), rfl⟩
set_option maxRecDepth 20000 in
theorem gw_600 : Cond.code yX4_readNumber cX4_readNumber 3 (some .int) ∈ GW := List.mem_filter.mpr ⟨List.mem_of_getElem? (i := 600) rfl, rfl⟩
set_option maxRecDepth 20000 in
theorem gw_601 : Cond.methodLink RX4 52 yX4_readDigit ∈ GW := List.mem_filter.mpr ⟨List.mem_of_getElem? (i := 601) (by decide +kernel), rfl⟩
set_option maxRecDepth 20000 in
theorem gw_603 : Cond.instanceMethod yX4_readDigit ∈ GW := List.mem_filter.mpr ⟨List.mem_of_getElem? (i := 603) (by decide +kernel), rfl⟩
set_option maxRecDepth 20000 in
theorem gw_604 : Cond.code yX4_readDigit cX4_readDigit 2 (some .int) ∈ GW := List.mem_filter.mpr ⟨List.mem_of_getElem? (i := 604) rfl, rfl⟩
set_option maxRecDepth 20000 in
theorem gw_606 : Cond.methodLink RX4 29 yX4_accept ∈ GW := List.mem_filter.mpr ⟨List.mem_of_getElem? (i := 606) (by decide +kernel), rfl⟩
set_option maxRecDepth 20000 in
theorem gw_607 : Cond.instanceMethod yX4_accept ∈ GW := List.mem_filter.mpr ⟨List.mem_of_getElem? (i := 607) (by decide +kernel), rfl⟩
set_option maxRecDepth 20000 in
theorem gw_608 : Cond.selects RX4 yX4_accept yX4_accept ∈ GW := List.mem_filter.mpr ⟨List.mem_of_getElem? (i := 608) (by decide +kernel), rfl⟩
set_option maxRecDepth 20000 in
theorem gw_609 : Cond.code yX4_accept cX4_accept 2 (some .boolean) ∈ GW := List.mem_filter.mpr ⟨List.mem_of_getElem? (i := 609) rfl, rfl⟩
set_option maxRecDepth 20000 in
theorem gw_610 : Cond.methodLink RX6 135 yX4_rewind ∈ GW := List.mem_filter.mpr ⟨List.mem_of_getElem? (i := 610) (by decide +kernel), rfl⟩
set_option maxRecDepth 20000 in
theorem gw_611 : Cond.methodLink RX6 138 yX4_readOrder ∈ GW := List.mem_filter.mpr ⟨List.mem_of_getElem? (i := 611) (by decide +kernel), rfl⟩
set_option maxRecDepth 20000 in
theorem gw_612 : Cond.methodLink RX6 142 yX6_obey ∈ GW := List.mem_filter.mpr ⟨List.mem_of_getElem? (i := 612) (by decide +kernel), rfl⟩
set_option maxRecDepth 20000 in
theorem gw_614 : Cond.instanceMethod yX6_obey ∈ GW := List.mem_filter.mpr ⟨List.mem_of_getElem? (i := 614) (by decide +kernel), rfl⟩
set_option maxRecDepth 20000 in
theorem gw_615 : Cond.code yX6_obey cX6_obey 5 (some .int) ∈ GW := List.mem_filter.mpr ⟨List.mem_of_getElem? (i := 615) rfl, rfl⟩
set_option maxRecDepth 20000 in
theorem gw_616 : Cond.methodLink RX6 145 yX4_accept ∈ GW := List.mem_filter.mpr ⟨List.mem_of_getElem? (i := 616) (by decide +kernel), rfl⟩
set_option maxRecDepth 20000 in
theorem gw_617 : Cond.methodLink "RibbedLoansLaw" 81 yX6_count ∈ GW := List.mem_filter.mpr ⟨List.mem_of_getElem? (i := 617) (by decide +kernel), rfl⟩
set_option maxRecDepth 20000 in
theorem gw_618 : Cond.instanceMethod yX6_count ∈ GW := List.mem_filter.mpr ⟨List.mem_of_getElem? (i := 618) (by decide +kernel), rfl⟩
set_option maxRecDepth 20000 in
theorem gw_619 : Cond.selects RX6 yX6_count yX6_count ∈ GW := List.mem_filter.mpr ⟨List.mem_of_getElem? (i := 619) (by decide +kernel), rfl⟩
set_option maxRecDepth 20000 in
theorem gw_620 : Cond.code yX6_count cX6_count 4 (some .int) ∈ GW := List.mem_filter.mpr ⟨List.mem_of_getElem? (i := 620) rfl, rfl⟩
set_option maxRecDepth 20000 in
theorem gw_621 : Cond.methodLink RX6 167 yX5_numberOfKind ∈ GW := List.mem_filter.mpr ⟨List.mem_of_getElem? (i := 621) (by decide +kernel), rfl⟩
set_option maxRecDepth 20000 in
theorem gw_622 : Cond.methodLink RX6 170 yX5_numberBroken ∈ GW := List.mem_filter.mpr ⟨List.mem_of_getElem? (i := 622) (by decide +kernel), rfl⟩
set_option maxRecDepth 20000 in
theorem gw_623 : Cond.instanceMethod yX5_numberBroken ∈ GW := List.mem_filter.mpr ⟨List.mem_of_getElem? (i := 623) (by decide +kernel), rfl⟩
set_option maxRecDepth 20000 in
theorem gw_624 : Cond.selects RX5 yX5_numberBroken yX5_numberBroken ∈ GW := List.mem_filter.mpr ⟨List.mem_of_getElem? (i := 624) (by decide +kernel), rfl⟩
set_option maxRecDepth 20000 in
theorem gw_625 : Cond.code yX5_numberBroken cX5_numberBroken 3 (some .int) ∈ GW := List.mem_filter.mpr ⟨List.mem_of_getElem? (i := 625) rfl, rfl⟩
set_option maxRecDepth 20000 in
theorem gw_626 : Cond.methodLink RX6 180 yX2_sum ∈ GW := List.mem_filter.mpr ⟨List.mem_of_getElem? (i := 626) (by decide +kernel), rfl⟩
set_option maxRecDepth 20000 in
theorem gw_627 : Cond.instanceMethod yX2_sum ∈ GW := List.mem_filter.mpr ⟨List.mem_of_getElem? (i := 627) (by decide +kernel), rfl⟩
set_option maxRecDepth 20000 in
theorem gw_628 : Cond.selects RX2 yX2_sum yX2_sum ∈ GW := List.mem_filter.mpr ⟨List.mem_of_getElem? (i := 628) (by decide +kernel), rfl⟩
set_option maxRecDepth 20000 in
theorem gw_629 : Cond.code yX2_sum cX2_sum 6 (some .int) ∈ GW := List.mem_filter.mpr ⟨List.mem_of_getElem? (i := 629) rfl, rfl⟩
set_option maxRecDepth 20000 in
theorem gw_630 : Cond.methodLink RX6 200 yX3_numberKept ∈ GW := List.mem_filter.mpr ⟨List.mem_of_getElem? (i := 630) (by decide +kernel), rfl⟩
set_option maxRecDepth 20000 in
theorem gw_631 : Cond.instanceMethod yX3_numberKept ∈ GW := List.mem_filter.mpr ⟨List.mem_of_getElem? (i := 631) (by decide +kernel), rfl⟩
set_option maxRecDepth 20000 in
theorem gw_632 : Cond.selects RX3 yX3_numberKept yX3_numberKept ∈ GW := List.mem_filter.mpr ⟨List.mem_of_getElem? (i := 632) (by decide +kernel), rfl⟩
set_option maxRecDepth 20000 in
theorem gw_633 : Cond.code yX3_numberKept cX3_numberKept 1 (some .int) ∈ GW := List.mem_filter.mpr ⟨List.mem_of_getElem? (i := 633) rfl, rfl⟩
set_option maxRecDepth 20000 in
theorem gw_634 : Cond.methodLink "RibbedLoansLaw" 85 yX6_umbrella ∈ GW := List.mem_filter.mpr ⟨List.mem_of_getElem? (i := 634) (by decide +kernel), rfl⟩
set_option maxRecDepth 20000 in
theorem gw_635 : Cond.instanceMethod yX6_umbrella ∈ GW := List.mem_filter.mpr ⟨List.mem_of_getElem? (i := 635) (by decide +kernel), rfl⟩
set_option maxRecDepth 20000 in
theorem gw_636 : Cond.selects RX6 yX6_umbrella yX6_umbrella ∈ GW := List.mem_filter.mpr ⟨List.mem_of_getElem? (i := 636) (by decide +kernel), rfl⟩
set_option maxRecDepth 20000 in
theorem gw_637 : Cond.code yX6_umbrella cX6_umbrella 5 (some .int) ∈ GW := List.mem_filter.mpr ⟨List.mem_of_getElem? (i := 637) rfl, rfl⟩
set_option maxRecDepth 20000 in
theorem gw_638 : Cond.methodLink RX6 206 yX2_at ∈ GW := List.mem_filter.mpr ⟨List.mem_of_getElem? (i := 638) (by decide +kernel), rfl⟩
set_option maxRecDepth 20000 in
theorem gw_639 : Cond.methodLink RX6 209 yX6_kindOf ∈ GW := List.mem_filter.mpr ⟨List.mem_of_getElem? (i := 639) (by decide +kernel), rfl⟩
set_option maxRecDepth 20000 in
theorem gw_640 : Cond.methodLink RX6 212 yX6_ownerOf ∈ GW := List.mem_filter.mpr ⟨List.mem_of_getElem? (i := 640) (by decide +kernel), rfl⟩
set_option maxRecDepth 20000 in
theorem gw_641 : Cond.static yX6_ownerOf ∈ GW := List.mem_filter.mpr ⟨List.mem_of_getElem? (i := 641) (by decide +kernel), rfl⟩
set_option maxRecDepth 20000 in
theorem gw_642 : Cond.code yX6_ownerOf cX6_ownerOf 1 (some .int) ∈ GW := List.mem_filter.mpr ⟨List.mem_of_getElem? (i := 642) rfl, rfl⟩
set_option maxRecDepth 20000 in
theorem gw_643 : Cond.methodLink RX6 218 yX5_isBroken ∈ GW := List.mem_filter.mpr ⟨List.mem_of_getElem? (i := 643) (by decide +kernel), rfl⟩
set_option maxRecDepth 20000 in
theorem gw_644 : Cond.methodLink "RibbedLoansLaw" 89 yX6_stand ∈ GW := List.mem_filter.mpr ⟨List.mem_of_getElem? (i := 644) (by decide +kernel), rfl⟩
set_option maxRecDepth 20000 in
theorem gw_645 : Cond.instanceMethod yX6_stand ∈ GW := List.mem_filter.mpr ⟨List.mem_of_getElem? (i := 645) (by decide +kernel), rfl⟩
set_option maxRecDepth 20000 in
theorem gw_646 : Cond.selects RX6 yX6_stand yX6_stand ∈ GW := List.mem_filter.mpr ⟨List.mem_of_getElem? (i := 646) (by decide +kernel), rfl⟩
set_option maxRecDepth 20000 in
theorem gw_647 : Cond.code yX6_stand cX6_stand 4 (some .int) ∈ GW := List.mem_filter.mpr ⟨List.mem_of_getElem? (i := 647) rfl, rfl⟩
set_option maxRecDepth 20000 in
theorem gw_648 : Cond.methodLink RX6 227 yX5_numberAt ∈ GW := List.mem_filter.mpr ⟨List.mem_of_getElem? (i := 648) (by decide +kernel), rfl⟩
set_option maxRecDepth 20000 in
theorem gw_649 : Cond.methodLink RX6 230 yX5_brokenAt ∈ GW := List.mem_filter.mpr ⟨List.mem_of_getElem? (i := 649) (by decide +kernel), rfl⟩
set_option maxRecDepth 20000 in
theorem gw_650 : Cond.methodLink RX6 233 yX5_bestAt ∈ GW := List.mem_filter.mpr ⟨List.mem_of_getElem? (i := 650) (by decide +kernel), rfl⟩
set_option maxRecDepth 20000 in
theorem gw_651 : Cond.methodLink RX6 236 yX5_worstAt ∈ GW := List.mem_filter.mpr ⟨List.mem_of_getElem? (i := 651) (by decide +kernel), rfl⟩
set_option maxRecDepth 20000 in
theorem gw_652 : Cond.methodLink RX6 239 yX5_meanWearAt ∈ GW := List.mem_filter.mpr ⟨List.mem_of_getElem? (i := 652) (by decide +kernel), rfl⟩
set_option maxRecDepth 20000 in
theorem gw_653 : Cond.instanceMethod yX5_meanWearAt ∈ GW := List.mem_filter.mpr ⟨List.mem_of_getElem? (i := 653) (by decide +kernel), rfl⟩
set_option maxRecDepth 20000 in
theorem gw_654 : Cond.selects RX5 yX5_meanWearAt yX5_meanWearAt ∈ GW := List.mem_filter.mpr ⟨List.mem_of_getElem? (i := 654) (by decide +kernel), rfl⟩
set_option maxRecDepth 20000 in
theorem gw_655 : Cond.code yX5_meanWearAt cX5_meanWearAt 5 (some .int) ∈ GW := List.mem_filter.mpr ⟨List.mem_of_getElem? (i := 655) rfl, rfl⟩
set_option maxRecDepth 20000 in
theorem gw_656 : Cond.methodLink "RibbedLoansLaw" 93 yX6_person ∈ GW := List.mem_filter.mpr ⟨List.mem_of_getElem? (i := 656) (by decide +kernel), rfl⟩
set_option maxRecDepth 20000 in
theorem gw_657 : Cond.instanceMethod yX6_person ∈ GW := List.mem_filter.mpr ⟨List.mem_of_getElem? (i := 657) (by decide +kernel), rfl⟩
set_option maxRecDepth 20000 in
theorem gw_658 : Cond.selects RX6 yX6_person yX6_person ∈ GW := List.mem_filter.mpr ⟨List.mem_of_getElem? (i := 658) (by decide +kernel), rfl⟩
set_option maxRecDepth 20000 in
theorem gw_659 : Cond.code yX6_person cX6_person 5 (some .int) ∈ GW := List.mem_filter.mpr ⟨List.mem_of_getElem? (i := 659) rfl, rfl⟩
set_option maxRecDepth 20000 in
theorem gw_660 : Cond.methodLink RX6 242 yX0_inHand ∈ GW := List.mem_filter.mpr ⟨List.mem_of_getElem? (i := 660) (by decide +kernel), rfl⟩
set_option maxRecDepth 20000 in
theorem gw_661 : Cond.methodLink "RibbedLoansLaw" 97 yX6_inVan ∈ GW := List.mem_filter.mpr ⟨List.mem_of_getElem? (i := 661) (by decide +kernel), rfl⟩
set_option maxRecDepth 20000 in
theorem gw_662 : Cond.instanceMethod yX6_inVan ∈ GW := List.mem_filter.mpr ⟨List.mem_of_getElem? (i := 662) (by decide +kernel), rfl⟩
set_option maxRecDepth 20000 in
theorem gw_663 : Cond.selects RX6 yX6_inVan yX6_inVan ∈ GW := List.mem_filter.mpr ⟨List.mem_of_getElem? (i := 663) (by decide +kernel), rfl⟩
set_option maxRecDepth 20000 in
theorem gw_664 : Cond.code yX6_inVan cX6_inVan 3 (some .int) ∈ GW := List.mem_filter.mpr ⟨List.mem_of_getElem? (i := 664) rfl, rfl⟩
set_option maxRecDepth 20000 in
theorem gw_665 : Cond.methodLink RX6 251 yX5_nthAt ∈ GW := List.mem_filter.mpr ⟨List.mem_of_getElem? (i := 665) (by decide +kernel), rfl⟩
set_option maxRecDepth 20000 in
theorem gw_666 : Cond.methodLink "RibbedLoansLaw" 101 yX6_feeIn ∈ GW := List.mem_filter.mpr ⟨List.mem_of_getElem? (i := 666) (by decide +kernel), rfl⟩
set_option maxRecDepth 20000 in
theorem gw_667 : Cond.instanceMethod yX6_feeIn ∈ GW := List.mem_filter.mpr ⟨List.mem_of_getElem? (i := 667) (by decide +kernel), rfl⟩
set_option maxRecDepth 20000 in
theorem gw_668 : Cond.selects RX6 yX6_feeIn yX6_feeIn ∈ GW := List.mem_filter.mpr ⟨List.mem_of_getElem? (i := 668) (by decide +kernel), rfl⟩
set_option maxRecDepth 20000 in
theorem gw_669 : Cond.code yX6_feeIn cX6_feeIn 4 (some .int) ∈ GW := List.mem_filter.mpr ⟨List.mem_of_getElem? (i := 669) rfl, rfl⟩
set_option maxRecDepth 20000 in
theorem gw_670 : Cond.methodLink RX6 254 yX0_hasOne ∈ GW := List.mem_filter.mpr ⟨List.mem_of_getElem? (i := 670) (by decide +kernel), rfl⟩
set_option maxRecDepth 20000 in
theorem gw_671 : Cond.methodLink RX6 257 yX0_feeAfter ∈ GW := List.mem_filter.mpr ⟨List.mem_of_getElem? (i := 671) (by decide +kernel), rfl⟩
set_option maxRecDepth 20000 in
theorem gw_672 : Cond.methodLink "RibbedLoansLaw" 105 yX6_breaksIn ∈ GW := List.mem_filter.mpr ⟨List.mem_of_getElem? (i := 672) (by decide +kernel), rfl⟩
set_option maxRecDepth 20000 in
theorem gw_673 : Cond.instanceMethod yX6_breaksIn ∈ GW := List.mem_filter.mpr ⟨List.mem_of_getElem? (i := 673) (by decide +kernel), rfl⟩
set_option maxRecDepth 20000 in
theorem gw_674 : Cond.selects RX6 yX6_breaksIn yX6_breaksIn ∈ GW := List.mem_filter.mpr ⟨List.mem_of_getElem? (i := 674) (by decide +kernel), rfl⟩
set_option maxRecDepth 20000 in
theorem gw_675 : Cond.code yX6_breaksIn cX6_breaksIn 4 (some .int) ∈ GW := List.mem_filter.mpr ⟨List.mem_of_getElem? (i := 675) rfl, rfl⟩
set_option maxRecDepth 20000 in
theorem gw_676 : Cond.methodLink RX6 260 yX0_hoursToBreak ∈ GW := List.mem_filter.mpr ⟨List.mem_of_getElem? (i := 676) (by decide +kernel), rfl⟩
set_option maxRecDepth 20000 in
theorem gw_677 : Cond.instanceMethod yX0_hoursToBreak ∈ GW := List.mem_filter.mpr ⟨List.mem_of_getElem? (i := 677) (by decide +kernel), rfl⟩
set_option maxRecDepth 20000 in
theorem gw_678 : Cond.selects RX0 yX0_hoursToBreak yX0_hoursToBreak ∈ GW := List.mem_filter.mpr ⟨List.mem_of_getElem? (i := 678) (by decide +kernel), rfl⟩
set_option maxRecDepth 20000 in
theorem gw_679 : Cond.code yX0_hoursToBreak cX0_hoursToBreak 6 (some .int) ∈ GW := List.mem_filter.mpr ⟨List.mem_of_getElem? (i := 679) rfl, rfl⟩
set_option maxRecDepth 20000 in
theorem gw_680 : Cond.methodLink "RibbedLoansLaw" 109 yX6_emptied ∈ GW := List.mem_filter.mpr ⟨List.mem_of_getElem? (i := 680) (by decide +kernel), rfl⟩
set_option maxRecDepth 20000 in
theorem gw_681 : Cond.instanceMethod yX6_emptied ∈ GW := List.mem_filter.mpr ⟨List.mem_of_getElem? (i := 681) (by decide +kernel), rfl⟩
set_option maxRecDepth 20000 in
theorem gw_682 : Cond.selects RX6 yX6_emptied yX6_emptied ∈ GW := List.mem_filter.mpr ⟨List.mem_of_getElem? (i := 682) (by decide +kernel), rfl⟩
set_option maxRecDepth 20000 in
theorem gw_683 : Cond.code yX6_emptied cX6_emptied 3 (some .int) ∈ GW := List.mem_filter.mpr ⟨List.mem_of_getElem? (i := 683) rfl, rfl⟩
set_option maxRecDepth 20000 in
theorem gw_684 : Cond.methodLink RX6 263 yX0_lackAt ∈ GW := List.mem_filter.mpr ⟨List.mem_of_getElem? (i := 684) (by decide +kernel), rfl⟩
set_option maxRecDepth 20000 in
theorem gw_685 : Cond.instanceMethod yX0_lackAt ∈ GW := List.mem_filter.mpr ⟨List.mem_of_getElem? (i := 685) (by decide +kernel), rfl⟩
set_option maxRecDepth 20000 in
theorem gw_686 : Cond.selects RX0 yX0_lackAt yX0_lackAt ∈ GW := List.mem_filter.mpr ⟨List.mem_of_getElem? (i := 686) (by decide +kernel), rfl⟩
set_option maxRecDepth 20000 in
theorem gw_687 : Cond.code yX0_lackAt cX0_lackAt 4 (some .int) ∈ GW := List.mem_filter.mpr ⟨List.mem_of_getElem? (i := 687) rfl, rfl⟩
set_option maxRecDepth 20000 in
theorem gw_688 : Cond.methodLink "RibbedLoansLaw" 113 yX6_shortest ∈ GW := List.mem_filter.mpr ⟨List.mem_of_getElem? (i := 688) (by decide +kernel), rfl⟩
set_option maxRecDepth 20000 in
theorem gw_689 : Cond.instanceMethod yX6_shortest ∈ GW := List.mem_filter.mpr ⟨List.mem_of_getElem? (i := 689) (by decide +kernel), rfl⟩
set_option maxRecDepth 20000 in
theorem gw_690 : Cond.selects RX6 yX6_shortest yX6_shortest ∈ GW := List.mem_filter.mpr ⟨List.mem_of_getElem? (i := 690) (by decide +kernel), rfl⟩
set_option maxRecDepth 20000 in
theorem gw_691 : Cond.code yX6_shortest cX6_shortest 6 (some .int) ∈ GW := List.mem_filter.mpr ⟨List.mem_of_getElem? (i := 691) rfl, rfl⟩
set_option maxRecDepth 20000 in
theorem gw_692 : Cond.classLink "RibbedLoansLaw" 10 RX7 ∈ GW := List.mem_filter.mpr ⟨List.mem_of_getElem? (i := 692) (by decide +kernel), rfl⟩
set_option maxRecDepth 20000 in
theorem gw_693 : Cond.instantiable RX7 11 ∈ GW := List.mem_filter.mpr ⟨List.mem_of_getElem? (i := 693) (by decide +kernel), rfl⟩
set_option maxRecDepth 20000 in
theorem gw_694 : Cond.methodLink "RibbedLoansLaw" 12 yX7_init ∈ GW := List.mem_filter.mpr ⟨List.mem_of_getElem? (i := 694) (by decide +kernel), rfl⟩
set_option maxRecDepth 20000 in
theorem gw_695 : Cond.instanceMethod yX7_init ∈ GW := List.mem_filter.mpr ⟨List.mem_of_getElem? (i := 695) (by decide +kernel), rfl⟩
set_option maxRecDepth 20000 in
theorem gw_696 : Cond.code yX7_init cX7_init 2 none ∈ GW := List.mem_filter.mpr ⟨List.mem_of_getElem? (i := 696) rfl, rfl⟩
set_option maxRecDepth 20000 in
theorem gw_697 : Cond.methodLink RX7 1 objectInit ∈ GW := List.mem_filter.mpr ⟨List.mem_of_getElem? (i := 697) (by decide +kernel), rfl⟩
set_option maxRecDepth 20000 in
theorem gw_698 : Cond.fieldLink RX7 7 RX7 "p" "[I" ∈ GW := List.mem_filter.mpr ⟨List.mem_of_getElem? (i := 698) (by decide +kernel), rfl⟩
set_option maxRecDepth 20000 in
theorem gw_699 : Cond.fieldLink RX7 13 RX7 "saved" "[I" ∈ GW := List.mem_filter.mpr ⟨List.mem_of_getElem? (i := 699) (by decide +kernel), rfl⟩
set_option maxRecDepth 20000 in
theorem gw_700 : Cond.fieldLink RX7 16 RX7 "aside" "[I" ∈ GW := List.mem_filter.mpr ⟨List.mem_of_getElem? (i := 700) (by decide +kernel), rfl⟩
set_option maxRecDepth 20000 in
theorem gw_701 : Cond.fieldLink RX7 26 RX7 "states" "I" ∈ GW := List.mem_filter.mpr ⟨List.mem_of_getElem? (i := 701) (by decide +kernel), rfl⟩
set_option maxRecDepth 20000 in
theorem gw_702 : Cond.fieldLink RX7 19 RX7 "text" "[I" ∈ GW := List.mem_filter.mpr ⟨List.mem_of_getElem? (i := 702) (by decide +kernel), rfl⟩
set_option maxRecDepth 20000 in
theorem gw_703 : Cond.fieldLink RX7 116 RX7 "length" "I" ∈ GW := List.mem_filter.mpr ⟨List.mem_of_getElem? (i := 703) (by decide +kernel), rfl⟩
set_option maxRecDepth 20000 in
theorem gw_704 : Cond.fieldLink RX7 119 RX7 "at" "I" ∈ GW := List.mem_filter.mpr ⟨List.mem_of_getElem? (i := 704) (by decide +kernel), rfl⟩
set_option maxRecDepth 20000 in
theorem gw_705 : Cond.fieldLink RX7 128 RX7 "letter" "I" ∈ GW := List.mem_filter.mpr ⟨List.mem_of_getElem? (i := 705) (by decide +kernel), rfl⟩
set_option maxRecDepth 20000 in
theorem gw_706 : Cond.fieldLink RX7 135 RX7 "one" "I" ∈ GW := List.mem_filter.mpr ⟨List.mem_of_getElem? (i := 706) (by decide +kernel), rfl⟩
set_option maxRecDepth 20000 in
theorem gw_707 : Cond.fieldLink RX7 140 RX7 "two" "I" ∈ GW := List.mem_filter.mpr ⟨List.mem_of_getElem? (i := 707) (by decide +kernel), rfl⟩
set_option maxRecDepth 20000 in
theorem gw_708 : Cond.fieldLink RX7 125 RX7 "number" "I" ∈ GW := List.mem_filter.mpr ⟨List.mem_of_getElem? (i := 708) (by decide +kernel), rfl⟩
set_option maxRecDepth 20000 in
theorem gw_732 : Cond.methodLink "RibbedLoansLaw" 17 yX7_buy ∈ GW := List.mem_filter.mpr ⟨List.mem_of_getElem? (i := 732) (by decide +kernel), rfl⟩
set_option maxRecDepth 20000 in
theorem gw_733 : Cond.instanceMethod yX7_buy ∈ GW := List.mem_filter.mpr ⟨List.mem_of_getElem? (i := 733) (by decide +kernel), rfl⟩
set_option maxRecDepth 20000 in
theorem gw_734 : Cond.selects RX7 yX7_buy yX7_buy ∈ GW := List.mem_filter.mpr ⟨List.mem_of_getElem? (i := 734) (by decide +kernel), rfl⟩
set_option maxRecDepth 20000 in
theorem gw_735 : Cond.code yX7_buy cX7_buy 5 (some .int) ∈ GW := List.mem_filter.mpr ⟨List.mem_of_getElem? (i := 735) rfl, rfl⟩
set_option maxRecDepth 20000 in
theorem gw_736 : Cond.methodLink RX7 45 yX7_isStand ∈ GW := List.mem_filter.mpr ⟨List.mem_of_getElem? (i := 736) (by decide +kernel), rfl⟩
set_option maxRecDepth 20000 in
theorem gw_737 : Cond.static yX7_isStand ∈ GW := List.mem_filter.mpr ⟨List.mem_of_getElem? (i := 737) (by decide +kernel), rfl⟩
set_option maxRecDepth 20000 in
theorem gw_738 : Cond.code yX7_isStand cX7_isStand 1 (some .boolean) ∈ GW := List.mem_filter.mpr ⟨List.mem_of_getElem? (i := 738) rfl, rfl⟩
set_option maxRecDepth 20000 in
theorem gw_739 : Cond.methodLink RX7 22 yX7_in ∈ GW := List.mem_filter.mpr ⟨List.mem_of_getElem? (i := 739) (by decide +kernel), rfl⟩
set_option maxRecDepth 20000 in
theorem gw_740 : Cond.static yX7_in ∈ GW := List.mem_filter.mpr ⟨List.mem_of_getElem? (i := 740) (by decide +kernel), rfl⟩
set_option maxRecDepth 20000 in
theorem gw_741 : Cond.code yX7_in cX7_in 3 (some .boolean) ∈ GW := List.mem_filter.mpr ⟨List.mem_of_getElem? (i := 741) rfl, rfl⟩
set_option maxRecDepth 20000 in
theorem gw_742 : Cond.methodLink RX7 48 yX7_canSpend ∈ GW := List.mem_filter.mpr ⟨List.mem_of_getElem? (i := 742) (by decide +kernel), rfl⟩
set_option maxRecDepth 20000 in
theorem gw_744 : Cond.instanceMethod yX7_canSpend ∈ GW := List.mem_filter.mpr ⟨List.mem_of_getElem? (i := 744) (by decide +kernel), rfl⟩
set_option maxRecDepth 20000 in
theorem gw_745 : Cond.code yX7_canSpend cX7_canSpend 2 (some .boolean) ∈ GW := List.mem_filter.mpr ⟨List.mem_of_getElem? (i := 745) rfl, rfl⟩
set_option maxRecDepth 20000 in
theorem gw_746 : Cond.methodLink RX7 41 yX7_manyIn ∈ GW := List.mem_filter.mpr ⟨List.mem_of_getElem? (i := 746) (by decide +kernel), rfl⟩
set_option maxRecDepth 20000 in
theorem gw_748 : Cond.instanceMethod yX7_manyIn ∈ GW := List.mem_filter.mpr ⟨List.mem_of_getElem? (i := 748) (by decide +kernel), rfl⟩
set_option maxRecDepth 20000 in
theorem gw_749 : Cond.code yX7_manyIn cX7_manyIn 4 (some .int) ∈ GW := List.mem_filter.mpr ⟨List.mem_of_getElem? (i := 749) rfl, rfl⟩
set_option maxRecDepth 20000 in
theorem gw_750 : Cond.methodLink RX7 51 yX7_roomOf ∈ GW := List.mem_filter.mpr ⟨List.mem_of_getElem? (i := 750) (by decide +kernel), rfl⟩
set_option maxRecDepth 20000 in
theorem gw_752 : Cond.instanceMethod yX7_roomOf ∈ GW := List.mem_filter.mpr ⟨List.mem_of_getElem? (i := 752) (by decide +kernel), rfl⟩
set_option maxRecDepth 20000 in
theorem gw_753 : Cond.code yX7_roomOf cX7_roomOf 2 (some .int) ∈ GW := List.mem_filter.mpr ⟨List.mem_of_getElem? (i := 753) rfl, rfl⟩
set_option maxRecDepth 20000 in
theorem gw_754 : Cond.methodLink RX7 37 yX7_manyAt ∈ GW := List.mem_filter.mpr ⟨List.mem_of_getElem? (i := 754) (by decide +kernel), rfl⟩
set_option maxRecDepth 20000 in
theorem gw_756 : Cond.instanceMethod yX7_manyAt ∈ GW := List.mem_filter.mpr ⟨List.mem_of_getElem? (i := 756) (by decide +kernel), rfl⟩
set_option maxRecDepth 20000 in
theorem gw_757 : Cond.code yX7_manyAt cX7_manyAt 5 (some .int) ∈ GW := List.mem_filter.mpr ⟨List.mem_of_getElem? (i := 757) rfl, rfl⟩
set_option maxRecDepth 20000 in
theorem gw_758 : Cond.methodLink RX7 30 yX7_isAt ∈ GW := List.mem_filter.mpr ⟨List.mem_of_getElem? (i := 758) (by decide +kernel), rfl⟩
set_option maxRecDepth 20000 in
theorem gw_760 : Cond.instanceMethod yX7_isAt ∈ GW := List.mem_filter.mpr ⟨List.mem_of_getElem? (i := 760) (by decide +kernel), rfl⟩
set_option maxRecDepth 20000 in
theorem gw_761 : Cond.code yX7_isAt cX7_isAt 4 (some .boolean) ∈ GW := List.mem_filter.mpr ⟨List.mem_of_getElem? (i := 761) rfl, rfl⟩
set_option maxRecDepth 20000 in
theorem gw_762 : Cond.methodLink RX7 54 yX7_save ∈ GW := List.mem_filter.mpr ⟨List.mem_of_getElem? (i := 762) (by decide +kernel), rfl⟩
set_option maxRecDepth 20000 in
theorem gw_764 : Cond.instanceMethod yX7_save ∈ GW := List.mem_filter.mpr ⟨List.mem_of_getElem? (i := 764) (by decide +kernel), rfl⟩
set_option maxRecDepth 20000 in
theorem gw_765 : Cond.code yX7_save cX7_save 2 none ∈ GW := List.mem_filter.mpr ⟨List.mem_of_getElem? (i := 765) rfl, rfl⟩
set_option maxRecDepth 20000 in
theorem gw_766 : Cond.methodLink RX7 57 yX7_goes ∈ GW := List.mem_filter.mpr ⟨List.mem_of_getElem? (i := 766) (by decide +kernel), rfl⟩
set_option maxRecDepth 20000 in
theorem gw_768 : Cond.instanceMethod yX7_goes ∈ GW := List.mem_filter.mpr ⟨List.mem_of_getElem? (i := 768) (by decide +kernel), rfl⟩
set_option maxRecDepth 20000 in
theorem gw_769 : Cond.code yX7_goes cX7_goes 4 none ∈ GW := List.mem_filter.mpr ⟨List.mem_of_getElem? (i := 769) rfl, rfl⟩
set_option maxRecDepth 20000 in
theorem gw_770 : Cond.methodLink RX7 61 yX7_spends ∈ GW := List.mem_filter.mpr ⟨List.mem_of_getElem? (i := 770) (by decide +kernel), rfl⟩
set_option maxRecDepth 20000 in
theorem gw_772 : Cond.instanceMethod yX7_spends ∈ GW := List.mem_filter.mpr ⟨List.mem_of_getElem? (i := 772) (by decide +kernel), rfl⟩
set_option maxRecDepth 20000 in
theorem gw_773 : Cond.code yX7_spends cX7_spends 2 none ∈ GW := List.mem_filter.mpr ⟨List.mem_of_getElem? (i := 773) rfl, rfl⟩
set_option maxRecDepth 20000 in
theorem gw_774 : Cond.methodLink "RibbedLoansLaw" 21 yX7_set ∈ GW := List.mem_filter.mpr ⟨List.mem_of_getElem? (i := 774) (by decide +kernel), rfl⟩
set_option maxRecDepth 20000 in
theorem gw_775 : Cond.instanceMethod yX7_set ∈ GW := List.mem_filter.mpr ⟨List.mem_of_getElem? (i := 775) (by decide +kernel), rfl⟩
set_option maxRecDepth 20000 in
theorem gw_776 : Cond.selects RX7 yX7_set yX7_set ∈ GW := List.mem_filter.mpr ⟨List.mem_of_getElem? (i := 776) (by decide +kernel), rfl⟩
set_option maxRecDepth 20000 in
theorem gw_777 : Cond.code yX7_set cX7_set 5 (some .int) ∈ GW := List.mem_filter.mpr ⟨List.mem_of_getElem? (i := 777) rfl, rfl⟩
set_option maxRecDepth 20000 in
theorem gw_778 : Cond.methodLink "RibbedLoansLaw" 25 yX7_borrow ∈ GW := List.mem_filter.mpr ⟨List.mem_of_getElem? (i := 778) (by decide +kernel), rfl⟩
set_option maxRecDepth 20000 in
theorem gw_779 : Cond.instanceMethod yX7_borrow ∈ GW := List.mem_filter.mpr ⟨List.mem_of_getElem? (i := 779) (by decide +kernel), rfl⟩
set_option maxRecDepth 20000 in
theorem gw_780 : Cond.selects RX7 yX7_borrow yX7_borrow ∈ GW := List.mem_filter.mpr ⟨List.mem_of_getElem? (i := 780) (by decide +kernel), rfl⟩
set_option maxRecDepth 20000 in
theorem gw_781 : Cond.code yX7_borrow cX7_borrow 4 (some .int) ∈ GW := List.mem_filter.mpr ⟨List.mem_of_getElem? (i := 781) rfl, rfl⟩
set_option maxRecDepth 20000 in
theorem gw_782 : Cond.methodLink RX7 74 yX7_whyBorrow ∈ GW := List.mem_filter.mpr ⟨List.mem_of_getElem? (i := 782) (by decide +kernel), rfl⟩
set_option maxRecDepth 20000 in
theorem gw_784 : Cond.instanceMethod yX7_whyBorrow ∈ GW := List.mem_filter.mpr ⟨List.mem_of_getElem? (i := 784) (by decide +kernel), rfl⟩
set_option maxRecDepth 20000 in
theorem gw_785 : Cond.code yX7_whyBorrow cX7_whyBorrow 3 (some .int) ∈ GW := List.mem_filter.mpr ⟨List.mem_of_getElem? (i := 785) rfl, rfl⟩
set_option maxRecDepth 20000 in
theorem gw_786 : Cond.methodLink RX7 65 yX7_isPerson ∈ GW := List.mem_filter.mpr ⟨List.mem_of_getElem? (i := 786) (by decide +kernel), rfl⟩
set_option maxRecDepth 20000 in
theorem gw_787 : Cond.static yX7_isPerson ∈ GW := List.mem_filter.mpr ⟨List.mem_of_getElem? (i := 787) (by decide +kernel), rfl⟩
set_option maxRecDepth 20000 in
theorem gw_788 : Cond.code yX7_isPerson cX7_isPerson 1 (some .boolean) ∈ GW := List.mem_filter.mpr ⟨List.mem_of_getElem? (i := 788) rfl, rfl⟩
set_option maxRecDepth 20000 in
theorem gw_789 : Cond.methodLink RX7 68 yX7_canBorrow ∈ GW := List.mem_filter.mpr ⟨List.mem_of_getElem? (i := 789) (by decide +kernel), rfl⟩
set_option maxRecDepth 20000 in
theorem gw_791 : Cond.instanceMethod yX7_canBorrow ∈ GW := List.mem_filter.mpr ⟨List.mem_of_getElem? (i := 791) (by decide +kernel), rfl⟩
set_option maxRecDepth 20000 in
theorem gw_792 : Cond.code yX7_canBorrow cX7_canBorrow 2 (some .boolean) ∈ GW := List.mem_filter.mpr ⟨List.mem_of_getElem? (i := 792) rfl, rfl⟩
set_option maxRecDepth 20000 in
theorem gw_793 : Cond.methodLink RX7 71 yX7_bestOf ∈ GW := List.mem_filter.mpr ⟨List.mem_of_getElem? (i := 793) (by decide +kernel), rfl⟩
set_option maxRecDepth 20000 in
theorem gw_795 : Cond.instanceMethod yX7_bestOf ∈ GW := List.mem_filter.mpr ⟨List.mem_of_getElem? (i := 795) (by decide +kernel), rfl⟩
set_option maxRecDepth 20000 in
theorem gw_796 : Cond.code yX7_bestOf cX7_bestOf 5 (some .int) ∈ GW := List.mem_filter.mpr ⟨List.mem_of_getElem? (i := 796) rfl, rfl⟩
set_option maxRecDepth 20000 in
theorem gw_797 : Cond.methodLink RX7 33 yX7_isBroken ∈ GW := List.mem_filter.mpr ⟨List.mem_of_getElem? (i := 797) (by decide +kernel), rfl⟩
set_option maxRecDepth 20000 in
theorem gw_799 : Cond.instanceMethod yX7_isBroken ∈ GW := List.mem_filter.mpr ⟨List.mem_of_getElem? (i := 799) (by decide +kernel), rfl⟩
set_option maxRecDepth 20000 in
theorem gw_800 : Cond.code yX7_isBroken cX7_isBroken 2 (some .boolean) ∈ GW := List.mem_filter.mpr ⟨List.mem_of_getElem? (i := 800) rfl, rfl⟩
set_option maxRecDepth 20000 in
theorem gw_801 : Cond.methodLink RX7 77 yX7_borrows ∈ GW := List.mem_filter.mpr ⟨List.mem_of_getElem? (i := 801) (by decide +kernel), rfl⟩
set_option maxRecDepth 20000 in
theorem gw_803 : Cond.instanceMethod yX7_borrows ∈ GW := List.mem_filter.mpr ⟨List.mem_of_getElem? (i := 803) (by decide +kernel), rfl⟩
set_option maxRecDepth 20000 in
theorem gw_804 : Cond.code yX7_borrows cX7_borrows 4 (some .int) ∈ GW := List.mem_filter.mpr ⟨List.mem_of_getElem? (i := 804) rfl, rfl⟩
set_option maxRecDepth 20000 in
theorem gw_805 : Cond.methodLink "RibbedLoansLaw" 29 yX7_bringBack ∈ GW := List.mem_filter.mpr ⟨List.mem_of_getElem? (i := 805) (by decide +kernel), rfl⟩
set_option maxRecDepth 20000 in
theorem gw_806 : Cond.instanceMethod yX7_bringBack ∈ GW := List.mem_filter.mpr ⟨List.mem_of_getElem? (i := 806) (by decide +kernel), rfl⟩
set_option maxRecDepth 20000 in
theorem gw_807 : Cond.selects RX7 yX7_bringBack yX7_bringBack ∈ GW := List.mem_filter.mpr ⟨List.mem_of_getElem? (i := 807) (by decide +kernel), rfl⟩
set_option maxRecDepth 20000 in
theorem gw_808 : Cond.code yX7_bringBack cX7_bringBack 4 (some .int) ∈ GW := List.mem_filter.mpr ⟨List.mem_of_getElem? (i := 808) rfl, rfl⟩
set_option maxRecDepth 20000 in
theorem gw_809 : Cond.methodLink RX7 84 yX7_whyBring ∈ GW := List.mem_filter.mpr ⟨List.mem_of_getElem? (i := 809) (by decide +kernel), rfl⟩
set_option maxRecDepth 20000 in
theorem gw_811 : Cond.instanceMethod yX7_whyBring ∈ GW := List.mem_filter.mpr ⟨List.mem_of_getElem? (i := 811) (by decide +kernel), rfl⟩
set_option maxRecDepth 20000 in
theorem gw_812 : Cond.code yX7_whyBring cX7_whyBring 3 (some .int) ∈ GW := List.mem_filter.mpr ⟨List.mem_of_getElem? (i := 812) rfl, rfl⟩
set_option maxRecDepth 20000 in
theorem gw_813 : Cond.methodLink RX7 87 yX7_brings ∈ GW := List.mem_filter.mpr ⟨List.mem_of_getElem? (i := 813) (by decide +kernel), rfl⟩
set_option maxRecDepth 20000 in
theorem gw_815 : Cond.instanceMethod yX7_brings ∈ GW := List.mem_filter.mpr ⟨List.mem_of_getElem? (i := 815) (by decide +kernel), rfl⟩
set_option maxRecDepth 20000 in
theorem gw_816 : Cond.code yX7_brings cX7_brings 4 (some .int) ∈ GW := List.mem_filter.mpr ⟨List.mem_of_getElem? (i := 816) rfl, rfl⟩
set_option maxRecDepth 20000 in
theorem gw_817 : Cond.methodLink RX7 80 yX7_fee ∈ GW := List.mem_filter.mpr ⟨List.mem_of_getElem? (i := 817) (by decide +kernel), rfl⟩
set_option maxRecDepth 20000 in
theorem gw_819 : Cond.instanceMethod yX7_fee ∈ GW := List.mem_filter.mpr ⟨List.mem_of_getElem? (i := 819) (by decide +kernel), rfl⟩
set_option maxRecDepth 20000 in
theorem gw_820 : Cond.code yX7_fee cX7_fee 4 (some .int) ∈ GW := List.mem_filter.mpr ⟨List.mem_of_getElem? (i := 820) rfl, rfl⟩
set_option maxRecDepth 20000 in
theorem gw_821 : Cond.methodLink "RibbedLoansLaw" 33 yX7_hour ∈ GW := List.mem_filter.mpr ⟨List.mem_of_getElem? (i := 821) (by decide +kernel), rfl⟩
set_option maxRecDepth 20000 in
theorem gw_822 : Cond.instanceMethod yX7_hour ∈ GW := List.mem_filter.mpr ⟨List.mem_of_getElem? (i := 822) (by decide +kernel), rfl⟩
set_option maxRecDepth 20000 in
theorem gw_823 : Cond.selects RX7 yX7_hour yX7_hour ∈ GW := List.mem_filter.mpr ⟨List.mem_of_getElem? (i := 823) (by decide +kernel), rfl⟩
set_option maxRecDepth 20000 in
theorem gw_824 : Cond.code yX7_hour cX7_hour 4 (some .int) ∈ GW := List.mem_filter.mpr ⟨List.mem_of_getElem? (i := 824) rfl, rfl⟩
set_option maxRecDepth 20000 in
theorem gw_825 : Cond.methodLink RX7 94 yX7_whyHour ∈ GW := List.mem_filter.mpr ⟨List.mem_of_getElem? (i := 825) (by decide +kernel), rfl⟩
set_option maxRecDepth 20000 in
theorem gw_827 : Cond.instanceMethod yX7_whyHour ∈ GW := List.mem_filter.mpr ⟨List.mem_of_getElem? (i := 827) (by decide +kernel), rfl⟩
set_option maxRecDepth 20000 in
theorem gw_828 : Cond.code yX7_whyHour cX7_whyHour 3 (some .int) ∈ GW := List.mem_filter.mpr ⟨List.mem_of_getElem? (i := 828) rfl, rfl⟩
set_option maxRecDepth 20000 in
theorem gw_829 : Cond.methodLink RX7 97 yX7_passes ∈ GW := List.mem_filter.mpr ⟨List.mem_of_getElem? (i := 829) (by decide +kernel), rfl⟩
set_option maxRecDepth 20000 in
theorem gw_831 : Cond.instanceMethod yX7_passes ∈ GW := List.mem_filter.mpr ⟨List.mem_of_getElem? (i := 831) (by decide +kernel), rfl⟩
set_option maxRecDepth 20000 in
theorem gw_832 : Cond.code yX7_passes cX7_passes 8 (some .int) ∈ GW := List.mem_filter.mpr ⟨List.mem_of_getElem? (i := 832) rfl, rfl⟩
set_option maxRecDepth 20000 in
theorem gw_833 : Cond.methodLink RX7 90 yX7_worn ∈ GW := List.mem_filter.mpr ⟨List.mem_of_getElem? (i := 833) (by decide +kernel), rfl⟩
set_option maxRecDepth 20000 in
theorem gw_834 : Cond.static yX7_worn ∈ GW := List.mem_filter.mpr ⟨List.mem_of_getElem? (i := 834) (by decide +kernel), rfl⟩
set_option maxRecDepth 20000 in
theorem gw_835 : Cond.code yX7_worn cX7_worn 4 (some .int) ∈ GW := List.mem_filter.mpr ⟨List.mem_of_getElem? (i := 835) rfl, rfl⟩
set_option maxRecDepth 20000 in
theorem gw_836 : Cond.methodLink "RibbedLoansLaw" 38 yX7_load ∈ GW := List.mem_filter.mpr ⟨List.mem_of_getElem? (i := 836) (by decide +kernel), rfl⟩
set_option maxRecDepth 20000 in
theorem gw_837 : Cond.instanceMethod yX7_load ∈ GW := List.mem_filter.mpr ⟨List.mem_of_getElem? (i := 837) (by decide +kernel), rfl⟩
set_option maxRecDepth 20000 in
theorem gw_838 : Cond.selects RX7 yX7_load yX7_load ∈ GW := List.mem_filter.mpr ⟨List.mem_of_getElem? (i := 838) (by decide +kernel), rfl⟩
set_option maxRecDepth 20000 in
theorem gw_839 : Cond.code yX7_load cX7_load 7 (some .int) ∈ GW := List.mem_filter.mpr ⟨List.mem_of_getElem? (i := 839) rfl, rfl⟩
set_option maxRecDepth 20000 in
theorem gw_840 : Cond.methodLink RX7 100 yX7_isLoad ∈ GW := List.mem_filter.mpr ⟨List.mem_of_getElem? (i := 840) (by decide +kernel), rfl⟩
set_option maxRecDepth 20000 in
theorem gw_841 : Cond.static yX7_isLoad ∈ GW := List.mem_filter.mpr ⟨List.mem_of_getElem? (i := 841) (by decide +kernel), rfl⟩
set_option maxRecDepth 20000 in
theorem gw_842 : Cond.code yX7_isLoad cX7_isLoad 3 (some .boolean) ∈ GW := List.mem_filter.mpr ⟨List.mem_of_getElem? (i := 842) rfl, rfl⟩
set_option maxRecDepth 20000 in
theorem gw_843 : Cond.methodLink RX7 103 yX7_worstOf ∈ GW := List.mem_filter.mpr ⟨List.mem_of_getElem? (i := 843) (by decide +kernel), rfl⟩
set_option maxRecDepth 20000 in
theorem gw_845 : Cond.instanceMethod yX7_worstOf ∈ GW := List.mem_filter.mpr ⟨List.mem_of_getElem? (i := 845) (by decide +kernel), rfl⟩
set_option maxRecDepth 20000 in
theorem gw_846 : Cond.code yX7_worstOf cX7_worstOf 5 (some .int) ∈ GW := List.mem_filter.mpr ⟨List.mem_of_getElem? (i := 846) rfl, rfl⟩
set_option maxRecDepth 20000 in
theorem gw_847 : Cond.methodLink "RibbedLoansLaw" 42 yX7_unload ∈ GW := List.mem_filter.mpr ⟨List.mem_of_getElem? (i := 847) (by decide +kernel), rfl⟩
set_option maxRecDepth 20000 in
theorem gw_848 : Cond.instanceMethod yX7_unload ∈ GW := List.mem_filter.mpr ⟨List.mem_of_getElem? (i := 848) (by decide +kernel), rfl⟩
set_option maxRecDepth 20000 in
theorem gw_849 : Cond.selects RX7 yX7_unload yX7_unload ∈ GW := List.mem_filter.mpr ⟨List.mem_of_getElem? (i := 849) (by decide +kernel), rfl⟩
set_option maxRecDepth 20000 in
theorem gw_850 : Cond.code yX7_unload cX7_unload 6 (some .int) ∈ GW := List.mem_filter.mpr ⟨List.mem_of_getElem? (i := 850) rfl, rfl⟩
set_option maxRecDepth 20000 in
theorem gw_851 : Cond.methodLink RX7 106 yX7_brokenAt ∈ GW := List.mem_filter.mpr ⟨List.mem_of_getElem? (i := 851) (by decide +kernel), rfl⟩
set_option maxRecDepth 20000 in
theorem gw_853 : Cond.instanceMethod yX7_brokenAt ∈ GW := List.mem_filter.mpr ⟨List.mem_of_getElem? (i := 853) (by decide +kernel), rfl⟩
set_option maxRecDepth 20000 in
theorem gw_854 : Cond.code yX7_brokenAt cX7_brokenAt 5 (some .int) ∈ GW := List.mem_filter.mpr ⟨List.mem_of_getElem? (i := 854) rfl, rfl⟩
set_option maxRecDepth 20000 in
theorem gw_855 : Cond.methodLink "RibbedLoansLaw" 47 yX7_toWorkshop ∈ GW := List.mem_filter.mpr ⟨List.mem_of_getElem? (i := 855) (by decide +kernel), rfl⟩
set_option maxRecDepth 20000 in
theorem gw_856 : Cond.instanceMethod yX7_toWorkshop ∈ GW := List.mem_filter.mpr ⟨List.mem_of_getElem? (i := 856) (by decide +kernel), rfl⟩
set_option maxRecDepth 20000 in
theorem gw_857 : Cond.selects RX7 yX7_toWorkshop yX7_toWorkshop ∈ GW := List.mem_filter.mpr ⟨List.mem_of_getElem? (i := 857) (by decide +kernel), rfl⟩
set_option maxRecDepth 20000 in
theorem gw_858 : Cond.code yX7_toWorkshop cX7_toWorkshop 4 (some .int) ∈ GW := List.mem_filter.mpr ⟨List.mem_of_getElem? (i := 858) rfl, rfl⟩
set_option maxRecDepth 20000 in
theorem gw_859 : Cond.methodLink "RibbedLoansLaw" 51 yX7_mend ∈ GW := List.mem_filter.mpr ⟨List.mem_of_getElem? (i := 859) (by decide +kernel), rfl⟩
set_option maxRecDepth 20000 in
theorem gw_860 : Cond.instanceMethod yX7_mend ∈ GW := List.mem_filter.mpr ⟨List.mem_of_getElem? (i := 860) (by decide +kernel), rfl⟩
set_option maxRecDepth 20000 in
theorem gw_861 : Cond.selects RX7 yX7_mend yX7_mend ∈ GW := List.mem_filter.mpr ⟨List.mem_of_getElem? (i := 861) (by decide +kernel), rfl⟩
set_option maxRecDepth 20000 in
theorem gw_862 : Cond.code yX7_mend cX7_mend 6 (some .int) ∈ GW := List.mem_filter.mpr ⟨List.mem_of_getElem? (i := 862) rfl, rfl⟩
set_option maxRecDepth 20000 in
theorem gw_863 : Cond.methodLink RX7 109 yX7_leastInShop ∈ GW := List.mem_filter.mpr ⟨List.mem_of_getElem? (i := 863) (by decide +kernel), rfl⟩
set_option maxRecDepth 20000 in
theorem gw_865 : Cond.instanceMethod yX7_leastInShop ∈ GW := List.mem_filter.mpr ⟨List.mem_of_getElem? (i := 865) (by decide +kernel), rfl⟩
set_option maxRecDepth 20000 in
theorem gw_866 : Cond.code yX7_leastInShop cX7_leastInShop 5 (some .int) ∈ GW := List.mem_filter.mpr ⟨List.mem_of_getElem? (i := 866) rfl, rfl⟩
set_option maxRecDepth 20000 in
theorem gw_867 : Cond.methodLink "RibbedLoansLaw" 56 yX7_level ∈ GW := List.mem_filter.mpr ⟨List.mem_of_getElem? (i := 867) (by decide +kernel), rfl⟩
set_option maxRecDepth 20000 in
theorem gw_868 : Cond.instanceMethod yX7_level ∈ GW := List.mem_filter.mpr ⟨List.mem_of_getElem? (i := 868) (by decide +kernel), rfl⟩
set_option maxRecDepth 20000 in
theorem gw_869 : Cond.selects RX7 yX7_level yX7_level ∈ GW := List.mem_filter.mpr ⟨List.mem_of_getElem? (i := 869) (by decide +kernel), rfl⟩
set_option maxRecDepth 20000 in
theorem gw_870 : Cond.code yX7_level cX7_level 1 (some .int) ∈ GW := List.mem_filter.mpr ⟨List.mem_of_getElem? (i := 870) rfl, rfl⟩
set_option maxRecDepth 20000 in
theorem gw_871 : Cond.methodLink RX7 112 yX7_levels ∈ GW := List.mem_filter.mpr ⟨List.mem_of_getElem? (i := 871) (by decide +kernel), rfl⟩
set_option maxRecDepth 20000 in
theorem gw_873 : Cond.instanceMethod yX7_levels ∈ GW := List.mem_filter.mpr ⟨List.mem_of_getElem? (i := 873) (by decide +kernel), rfl⟩
set_option maxRecDepth 20000 in
theorem gw_874 : Cond.code yX7_levels cX7_levels 7 (some .int) ∈ GW := List.mem_filter.mpr ⟨List.mem_of_getElem? (i := 874) rfl, rfl⟩
set_option maxRecDepth 20000 in
theorem gw_875 : Cond.methodLink "RibbedLoansLaw" 60 yX7_take ∈ GW := List.mem_filter.mpr ⟨List.mem_of_getElem? (i := 875) (by decide +kernel), rfl⟩
set_option maxRecDepth 20000 in
theorem gw_876 : Cond.instanceMethod yX7_take ∈ GW := List.mem_filter.mpr ⟨List.mem_of_getElem? (i := 876) (by decide +kernel), rfl⟩
set_option maxRecDepth 20000 in
theorem gw_877 : Cond.selects RX7 yX7_take yX7_take ∈ GW := List.mem_filter.mpr ⟨List.mem_of_getElem? (i := 877) (by decide +kernel), rfl⟩
set_option maxRecDepth 20000 in
theorem gw_878 : Cond.code yX7_take cX7_take 4 (some .int) ∈ GW := List.mem_filter.mpr ⟨List.mem_of_getElem? (i := 878) rfl, rfl⟩
set_option maxRecDepth 20000 in
theorem gw_879 : Cond.methodLink "RibbedLoansLaw" 64 yX7_restore ∈ GW := List.mem_filter.mpr ⟨List.mem_of_getElem? (i := 879) (by decide +kernel), rfl⟩
set_option maxRecDepth 20000 in
theorem gw_880 : Cond.instanceMethod yX7_restore ∈ GW := List.mem_filter.mpr ⟨List.mem_of_getElem? (i := 880) (by decide +kernel), rfl⟩
set_option maxRecDepth 20000 in
theorem gw_881 : Cond.selects RX7 yX7_restore yX7_restore ∈ GW := List.mem_filter.mpr ⟨List.mem_of_getElem? (i := 881) (by decide +kernel), rfl⟩
set_option maxRecDepth 20000 in
theorem gw_882 : Cond.code yX7_restore cX7_restore 4 (some .int) ∈ GW := List.mem_filter.mpr ⟨List.mem_of_getElem? (i := 882) rfl, rfl⟩
set_option maxRecDepth 20000 in
theorem gw_883 : Cond.methodLink "RibbedLoansLaw" 68 yX7_undo ∈ GW := List.mem_filter.mpr ⟨List.mem_of_getElem? (i := 883) (by decide +kernel), rfl⟩
set_option maxRecDepth 20000 in
theorem gw_884 : Cond.instanceMethod yX7_undo ∈ GW := List.mem_filter.mpr ⟨List.mem_of_getElem? (i := 884) (by decide +kernel), rfl⟩
set_option maxRecDepth 20000 in
theorem gw_885 : Cond.selects RX7 yX7_undo yX7_undo ∈ GW := List.mem_filter.mpr ⟨List.mem_of_getElem? (i := 885) (by decide +kernel), rfl⟩
set_option maxRecDepth 20000 in
theorem gw_886 : Cond.code yX7_undo cX7_undo 2 (some .int) ∈ GW := List.mem_filter.mpr ⟨List.mem_of_getElem? (i := 886) rfl, rfl⟩
set_option maxRecDepth 20000 in
theorem gw_887 : Cond.methodLink "RibbedLoansLaw" 72 yX7_append ∈ GW := List.mem_filter.mpr ⟨List.mem_of_getElem? (i := 887) (by decide +kernel), rfl⟩
set_option maxRecDepth 20000 in
theorem gw_888 : Cond.instanceMethod yX7_append ∈ GW := List.mem_filter.mpr ⟨List.mem_of_getElem? (i := 888) (by decide +kernel), rfl⟩
set_option maxRecDepth 20000 in
theorem gw_889 : Cond.selects RX7 yX7_append yX7_append ∈ GW := List.mem_filter.mpr ⟨List.mem_of_getElem? (i := 889) (by decide +kernel), rfl⟩
set_option maxRecDepth 20000 in
theorem gw_890 : Cond.code yX7_append cX7_append 2 (some .int) ∈ GW := List.mem_filter.mpr ⟨List.mem_of_getElem? (i := 890) rfl, rfl⟩
set_option maxRecDepth 20000 in
theorem gw_891 : Cond.methodLink "RibbedLoansLaw" 76 yX7_clearText ∈ GW := List.mem_filter.mpr ⟨List.mem_of_getElem? (i := 891) (by decide +kernel), rfl⟩
set_option maxRecDepth 20000 in
theorem gw_892 : Cond.instanceMethod yX7_clearText ∈ GW := List.mem_filter.mpr ⟨List.mem_of_getElem? (i := 892) (by decide +kernel), rfl⟩
set_option maxRecDepth 20000 in
theorem gw_893 : Cond.selects RX7 yX7_clearText yX7_clearText ∈ GW := List.mem_filter.mpr ⟨List.mem_of_getElem? (i := 893) (by decide +kernel), rfl⟩
set_option maxRecDepth 20000 in
theorem gw_894 : Cond.code yX7_clearText cX7_clearText 2 (some .int) ∈ GW := List.mem_filter.mpr ⟨List.mem_of_getElem? (i := 894) rfl, rfl⟩
set_option maxRecDepth 20000 in
theorem gw_895 : Cond.methodLink "RibbedLoansLaw" 80 yX7_carryOut ∈ GW := List.mem_filter.mpr ⟨List.mem_of_getElem? (i := 895) (by decide +kernel), rfl⟩
set_option maxRecDepth 20000 in
theorem gw_896 : Cond.instanceMethod yX7_carryOut ∈ GW := List.mem_filter.mpr ⟨List.mem_of_getElem? (i := 896) (by decide +kernel), rfl⟩
set_option maxRecDepth 20000 in
theorem gw_897 : Cond.selects RX7 yX7_carryOut yX7_carryOut ∈ GW := List.mem_filter.mpr ⟨List.mem_of_getElem? (i := 897) (by decide +kernel), rfl⟩
set_option maxRecDepth 20000 in
theorem gw_898 : Cond.code yX7_carryOut cX7_carryOut 4 (some .int) ∈ GW := List.mem_filter.mpr ⟨List.mem_of_getElem? (i := 898) rfl, rfl⟩
set_option maxRecDepth 20000 in
theorem gw_899 : Cond.methodLink RX7 146 yX7_faultOf ∈ GW := List.mem_filter.mpr ⟨List.mem_of_getElem? (i := 899) (by decide +kernel), rfl⟩
set_option maxRecDepth 20000 in
theorem gw_901 : Cond.instanceMethod yX7_faultOf ∈ GW := List.mem_filter.mpr ⟨List.mem_of_getElem? (i := 901) (by decide +kernel), rfl⟩
set_option maxRecDepth 20000 in
theorem gw_902 : Cond.code yX7_faultOf cX7_faultOf 2 (some .int) ∈ GW := List.mem_filter.mpr ⟨List.mem_of_getElem? (i := 902) rfl, rfl⟩
set_option maxRecDepth 20000 in
theorem gw_903 : Cond.methodLink RX7 143 yX7_readOrder ∈ GW := List.mem_filter.mpr ⟨List.mem_of_getElem? (i := 903) (by decide +kernel), rfl⟩
set_option maxRecDepth 20000 in
theorem gw_905 : Cond.instanceMethod yX7_readOrder ∈ GW := List.mem_filter.mpr ⟨List.mem_of_getElem? (i := 905) (by decide +kernel), rfl⟩
set_option maxRecDepth 20000 in
theorem gw_906 : Cond.code yX7_readOrder cX7_readOrder 1 (some .boolean) ∈ GW := List.mem_filter.mpr ⟨List.mem_of_getElem? (i := 906) rfl, rfl⟩
set_option maxRecDepth 20000 in
theorem gw_907 : Cond.methodLink RX7 122 yX7_here ∈ GW := List.mem_filter.mpr ⟨List.mem_of_getElem? (i := 907) (by decide +kernel), rfl⟩
set_option maxRecDepth 20000 in
theorem gw_909 : Cond.instanceMethod yX7_here ∈ GW := List.mem_filter.mpr ⟨List.mem_of_getElem? (i := 909) (by decide +kernel), rfl⟩
set_option maxRecDepth 20000 in
theorem gw_910 : Cond.code yX7_here cX7_here 1 (some .int) ∈ GW := List.mem_filter.mpr ⟨List.mem_of_getElem? (i := 910) rfl, rfl⟩
set_option maxRecDepth 20000 in
theorem gw_911 : Cond.methodLink RX7 131 yX7_readNumber ∈ GW := List.mem_filter.mpr ⟨List.mem_of_getElem? (i := 911) (by decide +kernel), rfl⟩
set_option maxRecDepth 20000 in
theorem gw_913 : Cond.instanceMethod yX7_readNumber ∈ GW := List.mem_filter.mpr ⟨List.mem_of_getElem? (i := 913) (by decide +kernel), rfl⟩
set_option maxRecDepth 20000 in
theorem gw_914 : Cond.code yX7_readNumber cX7_readNumber 1 (some .boolean) ∈ GW := List.mem_filter.mpr ⟨List.mem_of_getElem? (i := 914) rfl, rfl⟩
set_option maxRecDepth 20000 in
theorem gw_915 : Cond.methodLink RX7 138 yX7_passes_ ∈ GW := List.mem_filter.mpr ⟨List.mem_of_getElem? (i := 915) (by decide +kernel), rfl⟩
set_option maxRecDepth 20000 in
theorem gw_917 : Cond.instanceMethod yX7_passes_ ∈ GW := List.mem_filter.mpr ⟨List.mem_of_getElem? (i := 917) (by decide +kernel), rfl⟩
set_option maxRecDepth 20000 in
theorem gw_918 : Cond.code yX7_passes_ cX7_passes_ 3 (some .boolean) ∈ GW := List.mem_filter.mpr ⟨List.mem_of_getElem? (i := 918) rfl, rfl⟩
set_option maxRecDepth 20000 in
theorem gw_919 : Cond.methodLink RX7 149 yX7_does ∈ GW := List.mem_filter.mpr ⟨List.mem_of_getElem? (i := 919) (by decide +kernel), rfl⟩
set_option maxRecDepth 20000 in
theorem gw_921 : Cond.instanceMethod yX7_does ∈ GW := List.mem_filter.mpr ⟨List.mem_of_getElem? (i := 921) (by decide +kernel), rfl⟩
set_option maxRecDepth 20000 in
theorem gw_922 : Cond.code yX7_does cX7_does 3 (some .boolean) ∈ GW := List.mem_filter.mpr ⟨List.mem_of_getElem? (i := 922) rfl, rfl⟩
set_option maxRecDepth 20000 in
theorem gw_923 : Cond.methodLink "RibbedLoansLaw" 84 yX7_count ∈ GW := List.mem_filter.mpr ⟨List.mem_of_getElem? (i := 923) (by decide +kernel), rfl⟩
set_option maxRecDepth 20000 in
theorem gw_924 : Cond.instanceMethod yX7_count ∈ GW := List.mem_filter.mpr ⟨List.mem_of_getElem? (i := 924) (by decide +kernel), rfl⟩
set_option maxRecDepth 20000 in
theorem gw_925 : Cond.selects RX7 yX7_count yX7_count ∈ GW := List.mem_filter.mpr ⟨List.mem_of_getElem? (i := 925) (by decide +kernel), rfl⟩
set_option maxRecDepth 20000 in
theorem gw_926 : Cond.code yX7_count cX7_count 2 (some .int) ∈ GW := List.mem_filter.mpr ⟨List.mem_of_getElem? (i := 926) rfl, rfl⟩
set_option maxRecDepth 20000 in
theorem gw_927 : Cond.methodLink RX7 152 yX7_brokenOnes ∈ GW := List.mem_filter.mpr ⟨List.mem_of_getElem? (i := 927) (by decide +kernel), rfl⟩
set_option maxRecDepth 20000 in
theorem gw_929 : Cond.instanceMethod yX7_brokenOnes ∈ GW := List.mem_filter.mpr ⟨List.mem_of_getElem? (i := 929) (by decide +kernel), rfl⟩
set_option maxRecDepth 20000 in
theorem gw_930 : Cond.code yX7_brokenOnes cX7_brokenOnes 3 (some .int) ∈ GW := List.mem_filter.mpr ⟨List.mem_of_getElem? (i := 930) rfl, rfl⟩
set_option maxRecDepth 20000 in
theorem gw_931 : Cond.methodLink RX7 155 yX7_coinsOfPersons ∈ GW := List.mem_filter.mpr ⟨List.mem_of_getElem? (i := 931) (by decide +kernel), rfl⟩
set_option maxRecDepth 20000 in
theorem gw_933 : Cond.instanceMethod yX7_coinsOfPersons ∈ GW := List.mem_filter.mpr ⟨List.mem_of_getElem? (i := 933) (by decide +kernel), rfl⟩
set_option maxRecDepth 20000 in
theorem gw_934 : Cond.code yX7_coinsOfPersons cX7_coinsOfPersons 3 (some .int) ∈ GW := List.mem_filter.mpr ⟨List.mem_of_getElem? (i := 934) rfl, rfl⟩
set_option maxRecDepth 20000 in
theorem gw_935 : Cond.methodLink "RibbedLoansLaw" 88 yX7_umbrella ∈ GW := List.mem_filter.mpr ⟨List.mem_of_getElem? (i := 935) (by decide +kernel), rfl⟩
set_option maxRecDepth 20000 in
theorem gw_936 : Cond.instanceMethod yX7_umbrella ∈ GW := List.mem_filter.mpr ⟨List.mem_of_getElem? (i := 936) (by decide +kernel), rfl⟩
set_option maxRecDepth 20000 in
theorem gw_937 : Cond.selects RX7 yX7_umbrella yX7_umbrella ∈ GW := List.mem_filter.mpr ⟨List.mem_of_getElem? (i := 937) (by decide +kernel), rfl⟩
set_option maxRecDepth 20000 in
theorem gw_938 : Cond.code yX7_umbrella cX7_umbrella 3 (some .int) ∈ GW := List.mem_filter.mpr ⟨List.mem_of_getElem? (i := 938) rfl, rfl⟩
set_option maxRecDepth 20000 in
theorem gw_939 : Cond.methodLink "RibbedLoansLaw" 92 yX7_stand ∈ GW := List.mem_filter.mpr ⟨List.mem_of_getElem? (i := 939) (by decide +kernel), rfl⟩
set_option maxRecDepth 20000 in
theorem gw_940 : Cond.instanceMethod yX7_stand ∈ GW := List.mem_filter.mpr ⟨List.mem_of_getElem? (i := 940) (by decide +kernel), rfl⟩
set_option maxRecDepth 20000 in
theorem gw_941 : Cond.selects RX7 yX7_stand yX7_stand ∈ GW := List.mem_filter.mpr ⟨List.mem_of_getElem? (i := 941) (by decide +kernel), rfl⟩
set_option maxRecDepth 20000 in
theorem gw_942 : Cond.code yX7_stand cX7_stand 3 (some .int) ∈ GW := List.mem_filter.mpr ⟨List.mem_of_getElem? (i := 942) rfl, rfl⟩
set_option maxRecDepth 20000 in
theorem gw_943 : Cond.methodLink RX7 158 yX7_told ∈ GW := List.mem_filter.mpr ⟨List.mem_of_getElem? (i := 943) (by decide +kernel), rfl⟩
set_option maxRecDepth 20000 in
theorem gw_944 : Cond.static yX7_told ∈ GW := List.mem_filter.mpr ⟨List.mem_of_getElem? (i := 944) (by decide +kernel), rfl⟩
set_option maxRecDepth 20000 in
theorem gw_945 : Cond.code yX7_told cX7_told 1 (some .int) ∈ GW := List.mem_filter.mpr ⟨List.mem_of_getElem? (i := 945) rfl, rfl⟩
set_option maxRecDepth 20000 in
theorem gw_946 : Cond.methodLink RX7 161 yX7_meanOf ∈ GW := List.mem_filter.mpr ⟨List.mem_of_getElem? (i := 946) (by decide +kernel), rfl⟩
set_option maxRecDepth 20000 in
theorem gw_948 : Cond.instanceMethod yX7_meanOf ∈ GW := List.mem_filter.mpr ⟨List.mem_of_getElem? (i := 948) (by decide +kernel), rfl⟩
set_option maxRecDepth 20000 in
theorem gw_949 : Cond.code yX7_meanOf cX7_meanOf 4 (some .int) ∈ GW := List.mem_filter.mpr ⟨List.mem_of_getElem? (i := 949) rfl, rfl⟩
set_option maxRecDepth 20000 in
theorem gw_950 : Cond.methodLink "RibbedLoansLaw" 96 yX7_person ∈ GW := List.mem_filter.mpr ⟨List.mem_of_getElem? (i := 950) (by decide +kernel), rfl⟩
set_option maxRecDepth 20000 in
theorem gw_951 : Cond.instanceMethod yX7_person ∈ GW := List.mem_filter.mpr ⟨List.mem_of_getElem? (i := 951) (by decide +kernel), rfl⟩
set_option maxRecDepth 20000 in
theorem gw_952 : Cond.selects RX7 yX7_person yX7_person ∈ GW := List.mem_filter.mpr ⟨List.mem_of_getElem? (i := 952) (by decide +kernel), rfl⟩
set_option maxRecDepth 20000 in
theorem gw_953 : Cond.code yX7_person cX7_person 3 (some .int) ∈ GW := List.mem_filter.mpr ⟨List.mem_of_getElem? (i := 953) rfl, rfl⟩
set_option maxRecDepth 20000 in
theorem gw_954 : Cond.methodLink "RibbedLoansLaw" 100 yX7_inVan ∈ GW := List.mem_filter.mpr ⟨List.mem_of_getElem? (i := 954) (by decide +kernel), rfl⟩
set_option maxRecDepth 20000 in
theorem gw_955 : Cond.instanceMethod yX7_inVan ∈ GW := List.mem_filter.mpr ⟨List.mem_of_getElem? (i := 955) (by decide +kernel), rfl⟩
set_option maxRecDepth 20000 in
theorem gw_956 : Cond.selects RX7 yX7_inVan yX7_inVan ∈ GW := List.mem_filter.mpr ⟨List.mem_of_getElem? (i := 956) (by decide +kernel), rfl⟩
set_option maxRecDepth 20000 in
theorem gw_957 : Cond.code yX7_inVan cX7_inVan 5 (some .int) ∈ GW := List.mem_filter.mpr ⟨List.mem_of_getElem? (i := 957) rfl, rfl⟩
set_option maxRecDepth 20000 in
theorem gw_958 : Cond.methodLink "RibbedLoansLaw" 104 yX7_feeIn ∈ GW := List.mem_filter.mpr ⟨List.mem_of_getElem? (i := 958) (by decide +kernel), rfl⟩
set_option maxRecDepth 20000 in
theorem gw_959 : Cond.instanceMethod yX7_feeIn ∈ GW := List.mem_filter.mpr ⟨List.mem_of_getElem? (i := 959) (by decide +kernel), rfl⟩
set_option maxRecDepth 20000 in
theorem gw_960 : Cond.selects RX7 yX7_feeIn yX7_feeIn ∈ GW := List.mem_filter.mpr ⟨List.mem_of_getElem? (i := 960) (by decide +kernel), rfl⟩
set_option maxRecDepth 20000 in
theorem gw_961 : Cond.code yX7_feeIn cX7_feeIn 8 (some .int) ∈ GW := List.mem_filter.mpr ⟨List.mem_of_getElem? (i := 961) rfl, rfl⟩
set_option maxRecDepth 20000 in
theorem gw_962 : Cond.methodLink "RibbedLoansLaw" 108 yX7_breaksIn ∈ GW := List.mem_filter.mpr ⟨List.mem_of_getElem? (i := 962) (by decide +kernel), rfl⟩
set_option maxRecDepth 20000 in
theorem gw_963 : Cond.instanceMethod yX7_breaksIn ∈ GW := List.mem_filter.mpr ⟨List.mem_of_getElem? (i := 963) (by decide +kernel), rfl⟩
set_option maxRecDepth 20000 in
theorem gw_964 : Cond.selects RX7 yX7_breaksIn yX7_breaksIn ∈ GW := List.mem_filter.mpr ⟨List.mem_of_getElem? (i := 964) (by decide +kernel), rfl⟩
set_option maxRecDepth 20000 in
theorem gw_965 : Cond.code yX7_breaksIn cX7_breaksIn 7 (some .int) ∈ GW := List.mem_filter.mpr ⟨List.mem_of_getElem? (i := 965) rfl, rfl⟩
set_option maxRecDepth 20000 in
theorem gw_966 : Cond.methodLink "RibbedLoansLaw" 112 yX7_emptied ∈ GW := List.mem_filter.mpr ⟨List.mem_of_getElem? (i := 966) (by decide +kernel), rfl⟩
set_option maxRecDepth 20000 in
theorem gw_967 : Cond.instanceMethod yX7_emptied ∈ GW := List.mem_filter.mpr ⟨List.mem_of_getElem? (i := 967) (by decide +kernel), rfl⟩
set_option maxRecDepth 20000 in
theorem gw_968 : Cond.selects RX7 yX7_emptied yX7_emptied ∈ GW := List.mem_filter.mpr ⟨List.mem_of_getElem? (i := 968) (by decide +kernel), rfl⟩
set_option maxRecDepth 20000 in
theorem gw_969 : Cond.code yX7_emptied cX7_emptied 4 (some .int) ∈ GW := List.mem_filter.mpr ⟨List.mem_of_getElem? (i := 969) rfl, rfl⟩
set_option maxRecDepth 20000 in
theorem gw_970 : Cond.methodLink "RibbedLoansLaw" 116 yX7_shortest ∈ GW := List.mem_filter.mpr ⟨List.mem_of_getElem? (i := 970) (by decide +kernel), rfl⟩
set_option maxRecDepth 20000 in
theorem gw_971 : Cond.instanceMethod yX7_shortest ∈ GW := List.mem_filter.mpr ⟨List.mem_of_getElem? (i := 971) (by decide +kernel), rfl⟩
set_option maxRecDepth 20000 in
theorem gw_972 : Cond.selects RX7 yX7_shortest yX7_shortest ∈ GW := List.mem_filter.mpr ⟨List.mem_of_getElem? (i := 972) (by decide +kernel), rfl⟩
set_option maxRecDepth 20000 in
theorem gw_973 : Cond.code yX7_shortest cX7_shortest 7 (some .int) ∈ GW := List.mem_filter.mpr ⟨List.mem_of_getElem? (i := 973) rfl, rfl⟩
set_option maxRecDepth 20000 in
theorem gw_974 : Cond.methodLink RX7 164 yX7_wanting ∈ GW := List.mem_filter.mpr ⟨List.mem_of_getElem? (i := 974) (by decide +kernel), rfl⟩
set_option maxRecDepth 20000 in
theorem gw_976 : Cond.instanceMethod yX7_wanting ∈ GW := List.mem_filter.mpr ⟨List.mem_of_getElem? (i := 976) (by decide +kernel), rfl⟩
set_option maxRecDepth 20000 in
theorem gw_977 : Cond.code yX7_wanting cX7_wanting 4 (some .int) ∈ GW := List.mem_filter.mpr ⟨List.mem_of_getElem? (i := 977) rfl, rfl⟩
def NWL : List Cond := [Cond.methodLinkNest RX6 11 yX3_init RX6, Cond.methodLinkNest RX0 11 yX5_init RX6, Cond.fieldLinkNest RX6 203 RX5 "spots" "LRibbedLoans$Row;" RX6, Cond.fieldLinkNest RX0 152 RX5 "spots" "LRibbedLoans$Row;" RX6, Cond.fieldLinkNest RX0 132 RX5 "wears" "LRibbedLoans$Row;" RX6, Cond.fieldLinkNest RX6 215 RX5 "wears" "LRibbedLoans$Row;" RX6, Cond.fieldLinkNest RX0 116 RX5 "lendings" "LRibbedLoans$Row;" RX6, Cond.fieldLinkNest RX6 221 RX5 "lendings" "LRibbedLoans$Row;" RX6, Cond.fieldLinkNest RX0 90 RX5 "number" "I" RX6, Cond.fieldLinkNest RX6 162 RX5 "number" "I" RX6, Cond.fieldLinkNest RX6 158 RX0 "umbrellas" "LRibbedLoans$Umbrellas;" RX6, Cond.fieldLinkNest RX6 224 RX0 "rooms" "LRibbedLoans$Row;" RX6, Cond.fieldLinkNest RX6 176 RX0 "purses" "LRibbedLoans$Row;" RX6, Cond.fieldLinkNest RX6 245 RX0 "showers" "LRibbedLoans$Row;" RX6, Cond.fieldLinkNest RX6 248 RX0 "homes" "LRibbedLoans$Row;" RX6, Cond.fieldLinkNest RX6 188 RX0 "paid" "LRibbedLoans$Row;" RX6, Cond.fieldLinkNest RX6 109 RX0 "hours" "I" RX6, Cond.fieldLinkNest RX6 173 RX0 "house" "I" RX6, Cond.fieldLinkNest RX6 185 RX0 "spent" "I" RX6, Cond.fieldLinkNest RX6 191 RX0 "loans" "I" RX6, Cond.fieldLinkNest RX6 194 RX0 "surges" "I" RX6, Cond.fieldLinkNest RX6 197 RX0 "rate" "I" RX6, Cond.fieldLinkNest RX6 30 RX3 "city" "LRibbedLoans$City;" RX6, Cond.methodLinkNest RX1 17 yX3_init RX6, Cond.fieldLinkNest RX6 120 RX1 "size" "I" RX6, Cond.methodLinkNest RX6 25 yX4_init RX6, Cond.fieldLinkNest RX6 126 RX4 "length" "I" RX6, Cond.fieldLinkNest RX6 155 RX4 "verb" "I" RX6, Cond.fieldLinkNest RX6 149 RX4 "first" "I" RX6, Cond.fieldLinkNest RX6 152 RX4 "second" "I" RX6, Cond.methodLinkNest RX0 82 yX6_outside RX6, Cond.methodLinkNest RX5 47 yX6_kindOf RX6, Cond.methodLinkNest RX0 135 yX6_wornBy RX6, Cond.methodLinkNest RX0 155 yX6_kindOf RX6, Cond.methodLinkNest RX4 55 yX6_outside RX6]
theorem nwl_tbl : ∀ w ∈ NWL, w ∈ lw_tbl := by decide +kernel
theorem nwl_kind : ∀ w ∈ NWL, (∃ a i b n d h, w = Cond.fieldLinkNest a i b n d h) ∨ (∃ a i x h, w = Cond.methodLinkNest a i x h) := List.forall_mem_cons.mpr ⟨Or.inr ⟨_, _, _, _, rfl⟩, List.forall_mem_cons.mpr ⟨Or.inr ⟨_, _, _, _, rfl⟩, List.forall_mem_cons.mpr ⟨Or.inl ⟨_, _, _, _, _, _, rfl⟩, List.forall_mem_cons.mpr ⟨Or.inl ⟨_, _, _, _, _, _, rfl⟩, List.forall_mem_cons.mpr ⟨Or.inl ⟨_, _, _, _, _, _, rfl⟩, List.forall_mem_cons.mpr ⟨Or.inl ⟨_, _, _, _, _, _, rfl⟩, List.forall_mem_cons.mpr ⟨Or.inl ⟨_, _, _, _, _, _, rfl⟩, List.forall_mem_cons.mpr ⟨Or.inl ⟨_, _, _, _, _, _, rfl⟩, List.forall_mem_cons.mpr ⟨Or.inl ⟨_, _, _, _, _, _, rfl⟩, List.forall_mem_cons.mpr ⟨Or.inl ⟨_, _, _, _, _, _, rfl⟩, List.forall_mem_cons.mpr ⟨Or.inl ⟨_, _, _, _, _, _, rfl⟩, List.forall_mem_cons.mpr ⟨Or.inl ⟨_, _, _, _, _, _, rfl⟩, List.forall_mem_cons.mpr ⟨Or.inl ⟨_, _, _, _, _, _, rfl⟩, List.forall_mem_cons.mpr ⟨Or.inl ⟨_, _, _, _, _, _, rfl⟩, List.forall_mem_cons.mpr ⟨Or.inl ⟨_, _, _, _, _, _, rfl⟩, List.forall_mem_cons.mpr ⟨Or.inl ⟨_, _, _, _, _, _, rfl⟩, List.forall_mem_cons.mpr ⟨Or.inl ⟨_, _, _, _, _, _, rfl⟩, List.forall_mem_cons.mpr ⟨Or.inl ⟨_, _, _, _, _, _, rfl⟩, List.forall_mem_cons.mpr ⟨Or.inl ⟨_, _, _, _, _, _, rfl⟩, List.forall_mem_cons.mpr ⟨Or.inl ⟨_, _, _, _, _, _, rfl⟩, List.forall_mem_cons.mpr ⟨Or.inl ⟨_, _, _, _, _, _, rfl⟩, List.forall_mem_cons.mpr ⟨Or.inl ⟨_, _, _, _, _, _, rfl⟩, List.forall_mem_cons.mpr ⟨Or.inl ⟨_, _, _, _, _, _, rfl⟩, List.forall_mem_cons.mpr ⟨Or.inr ⟨_, _, _, _, rfl⟩, List.forall_mem_cons.mpr ⟨Or.inl ⟨_, _, _, _, _, _, rfl⟩, List.forall_mem_cons.mpr ⟨Or.inr ⟨_, _, _, _, rfl⟩, List.forall_mem_cons.mpr ⟨Or.inl ⟨_, _, _, _, _, _, rfl⟩, List.forall_mem_cons.mpr ⟨Or.inl ⟨_, _, _, _, _, _, rfl⟩, List.forall_mem_cons.mpr ⟨Or.inl ⟨_, _, _, _, _, _, rfl⟩, List.forall_mem_cons.mpr ⟨Or.inl ⟨_, _, _, _, _, _, rfl⟩, List.forall_mem_cons.mpr ⟨Or.inr ⟨_, _, _, _, rfl⟩, List.forall_mem_cons.mpr ⟨Or.inr ⟨_, _, _, _, rfl⟩, List.forall_mem_cons.mpr ⟨Or.inr ⟨_, _, _, _, rfl⟩, List.forall_mem_cons.mpr ⟨Or.inr ⟨_, _, _, _, rfl⟩, List.forall_mem_cons.mpr ⟨Or.inr ⟨_, _, _, _, rfl⟩, fun _ h => absurd h List.not_mem_nil⟩⟩⟩⟩⟩⟩⟩⟩⟩⟩⟩⟩⟩⟩⟩⟩⟩⟩⟩⟩⟩⟩⟩⟩⟩⟩⟩⟩⟩⟩⟩⟩⟩⟩⟩
theorem inX0 : ∀ w ∈ u_ws RX0 TX0 12, w ∈ GW := by decide +kernel
theorem inX1 : ∀ w ∈ u_ws RX1 TX1 3, w ∈ GW := by decide +kernel
theorem inX2 : ∀ w ∈ u_ws RX2 TX2 1, w ∈ GW := by decide +kernel
theorem inX3 : ∀ w ∈ u_ws RX3 TX3 5, w ∈ GW := by decide +kernel
theorem inX4 : ∀ w ∈ u_ws RX4 TX4 6, w ∈ GW := by decide +kernel
theorem inX5 : ∀ w ∈ u_ws RX5 TX5 5, w ∈ GW := by decide +kernel
theorem inX6 : ∀ w ∈ u_ws RX6 TX6 3, w ∈ GW := by decide +kernel
theorem inX7 : ∀ w ∈ u_ws RX7 TX7 11, w ∈ GW := by decide +kernel
