def RX0 : String := "RibbedLoans$City"
def TX0 : u_T := fun k => match k with
  | 0 => ("RibbedLoans$City", "umbrellas", "LRibbedLoans$Umbrellas;", true)
  | 1 => ("RibbedLoans$City", "rooms", "LRibbedLoans$Row;", true)
  | 2 => ("RibbedLoans$City", "purses", "LRibbedLoans$Row;", true)
  | 3 => ("RibbedLoans$City", "showers", "LRibbedLoans$Row;", true)
  | 4 => ("RibbedLoans$City", "homes", "LRibbedLoans$Row;", true)
  | 5 => ("RibbedLoans$City", "paid", "LRibbedLoans$Row;", true)
  | 6 => ("RibbedLoans$City", "hours", "I", false)
  | 7 => ("RibbedLoans$City", "house", "I", false)
  | 8 => ("RibbedLoans$City", "spent", "I", false)
  | 9 => ("RibbedLoans$City", "loans", "I", false)
  | 10 => ("RibbedLoans$City", "surges", "I", false)
  | _ => ("RibbedLoans$City", "rate", "I", false)
def tyX0 : Nat → FieldType := fun k => match k with
  | 0 => .object "RibbedLoans$Umbrellas"
  | 1 => .object "RibbedLoans$Row"
  | 2 => .object "RibbedLoans$Row"
  | 3 => .object "RibbedLoans$Row"
  | 4 => .object "RibbedLoans$Row"
  | 5 => .object "RibbedLoans$Row"
  | 6 => .int
  | 7 => .int
  | 8 => .int
  | 9 => .int
  | 10 => .int
  | _ => .int
theorem nmX0 : ∀ a, a < 12 → ∀ b, b < 12 → a ≠ b → (TX0 a).2.1 ≠ (TX0 b).2.1 := by decide +kernel
theorem tyX0_ok : ∀ k, k < 12 → parseFieldDescriptor (TX0 k).2.2.1 = some (tyX0 k) := by decide +kernel
abbrev cX0_init : ByteArray := prog_2_method_1_code
def yX0_init : MethodName := ⟨RX0, "<init>", "()V"⟩
abbrev cX0_copyFrom : ByteArray := prog_2_method_2_code
def yX0_copyFrom : MethodName := ⟨RX0, "copyFrom", "(LRibbedLoans$City;)V"⟩
abbrev cX0_spendable : ByteArray := prog_2_method_3_code
def yX0_spendable : MethodName := ⟨RX0, "spendable", "()I"⟩
abbrev cX0_spend : ByteArray := prog_2_method_4_code
def yX0_spend : MethodName := ⟨RX0, "spend", "(I)V"⟩
abbrev cX0_freeAt : ByteArray := prog_2_method_5_code
def yX0_freeAt : MethodName := ⟨RX0, "freeAt", "(I)I"⟩
abbrev cX0_hasOne : ByteArray := prog_2_method_6_code
def yX0_hasOne : MethodName := ⟨RX0, "hasOne", "(I)Z"⟩
abbrev cX0_inHand : ByteArray := prog_2_method_7_code
def yX0_inHand : MethodName := ⟨RX0, "inHand", "(I)I"⟩
abbrev cX0_buyingError : ByteArray := prog_2_method_8_code
def yX0_buyingError : MethodName := ⟨RX0, "buyingError", "(II)I"⟩
abbrev cX0_purchase : ByteArray := prog_2_method_9_code
def yX0_purchase : MethodName := ⟨RX0, "purchase", "(II)I"⟩
abbrev cX0_settingError : ByteArray := prog_2_method_10_code
def yX0_settingError : MethodName := ⟨RX0, "settingError", "(II)I"⟩
abbrev cX0_change : ByteArray := prog_2_method_11_code
def yX0_change : MethodName := ⟨RX0, "change", "(II)I"⟩
abbrev cX0_lendingError : ByteArray := prog_2_method_12_code
def yX0_lendingError : MethodName := ⟨RX0, "lendingError", "(II)I"⟩
abbrev cX0_wouldBorrow : ByteArray := prog_2_method_13_code
def yX0_wouldBorrow : MethodName := ⟨RX0, "wouldBorrow", "(I)Z"⟩
abbrev cX0_lend : ByteArray := prog_2_method_14_code
def yX0_lend : MethodName := ⟨RX0, "lend", "(II)I"⟩
abbrev cX0_handOut : ByteArray := prog_2_method_15_code
def yX0_handOut : MethodName := ⟨RX0, "handOut", "(II)V"⟩
abbrev cX0_returningError : ByteArray := prog_2_method_16_code
def yX0_returningError : MethodName := ⟨RX0, "returningError", "(II)I"⟩
abbrev cX0_takeBack : ByteArray := prog_2_method_17_code
def yX0_takeBack : MethodName := ⟨RX0, "takeBack", "(II)I"⟩
abbrev cX0_feeAfter : ByteArray := prog_2_method_18_code
def yX0_feeAfter : MethodName := ⟨RX0, "feeAfter", "(III)I"⟩
abbrev cX0_hoursToBreak : ByteArray := prog_2_method_19_code
def yX0_hoursToBreak : MethodName := ⟨RX0, "hoursToBreak", "(III)I"⟩
abbrev cX0_passingError : ByteArray := prog_2_method_20_code
def yX0_passingError : MethodName := ⟨RX0, "passingError", "(II)I"⟩
abbrev cX0_passHour : ByteArray := prog_2_method_21_code
def yX0_passHour : MethodName := ⟨RX0, "passHour", "(II)I"⟩
abbrev cX0_countShower : ByteArray := prog_2_method_22_code
def yX0_countShower : MethodName := ⟨RX0, "countShower", "()V"⟩
abbrev cX0_wearDown : ByteArray := prog_2_method_23_code
def yX0_wearDown : MethodName := ⟨RX0, "wearDown", "(II)I"⟩
abbrev cX0_surge : ByteArray := prog_2_method_24_code
def yX0_surge : MethodName := ⟨RX0, "surge", "()V"⟩
abbrev cX0_lackAt : ByteArray := prog_2_method_25_code
def yX0_lackAt : MethodName := ⟨RX0, "lackAt", "(I)I"⟩
abbrev cX0_loadingError : ByteArray := prog_2_method_26_code
def yX0_loadingError : MethodName := ⟨RX0, "loadingError", "(III)I"⟩
abbrev cX0_fillVan : ByteArray := prog_2_method_27_code
def yX0_fillVan : MethodName := ⟨RX0, "fillVan", "(III)I"⟩
abbrev cX0_unloadingError : ByteArray := prog_2_method_28_code
def yX0_unloadingError : MethodName := ⟨RX0, "unloadingError", "(III)I"⟩
abbrev cX0_emptyVan : ByteArray := prog_2_method_29_code
def yX0_emptyVan : MethodName := ⟨RX0, "emptyVan", "(III)I"⟩
abbrev cX0_deliveringError : ByteArray := prog_2_method_30_code
def yX0_deliveringError : MethodName := ⟨RX0, "deliveringError", "(I)I"⟩
abbrev cX0_deliver : ByteArray := prog_2_method_31_code
def yX0_deliver : MethodName := ⟨RX0, "deliver", "(I)I"⟩
abbrev cX0_mendingError : ByteArray := prog_2_method_32_code
def yX0_mendingError : MethodName := ⟨RX0, "mendingError", "(I)I"⟩
abbrev cX0_mendOne : ByteArray := prog_2_method_33_code
def yX0_mendOne : MethodName := ⟨RX0, "mendOne", "(I)I"⟩
abbrev cX0_evenOut : ByteArray := prog_2_method_34_code
def yX0_evenOut : MethodName := ⟨RX0, "evenOut", "()I"⟩
abbrev cX0_fullest : ByteArray := prog_2_method_35_code
def yX0_fullest : MethodName := ⟨RX0, "fullest", "()I"⟩
abbrev cX0_emptiestWithRoom : ByteArray := prog_2_method_36_code
def yX0_emptiestWithRoom : MethodName := ⟨RX0, "emptiestWithRoom", "()I"⟩
def RX1 : String := "RibbedLoans$History"
def TX1 : u_T := fun k => match k with
  | 0 => ("RibbedLoans$History", "ring", "[LRibbedLoans$State;", true)
  | 1 => ("RibbedLoans$History", "next", "I", false)
  | _ => ("RibbedLoans$History", "size", "I", false)
def tyX1 : Nat → FieldType := fun k => match k with
  | 0 => .array (.object "RibbedLoans$State")
  | 1 => .int
  | _ => .int
theorem nmX1 : ∀ a, a < 3 → ∀ b, b < 3 → a ≠ b → (TX1 a).2.1 ≠ (TX1 b).2.1 := by decide +kernel
theorem tyX1_ok : ∀ k, k < 3 → parseFieldDescriptor (TX1 k).2.2.1 = some (tyX1 k) := by decide +kernel
abbrev cX1_init : ByteArray := prog_3_method_1_code
def yX1_init : MethodName := ⟨RX1, "<init>", "()V"⟩
abbrev cX1_record : ByteArray := prog_3_method_2_code
def yX1_record : MethodName := ⟨RX1, "record", "(LRibbedLoans$State;)V"⟩
abbrev cX1_moveLatestTo : ByteArray := prog_3_method_3_code
def yX1_moveLatestTo : MethodName := ⟨RX1, "moveLatestTo", "(LRibbedLoans$State;)V"⟩
def RX2 : String := "RibbedLoans$Row"
def TX2 : u_T := fun k => match k with
  | _ => ("RibbedLoans$Row", "cells", "[I", true)
def tyX2 : Nat → FieldType := fun k => match k with
  | _ => .array .int
theorem nmX2 : ∀ a, a < 1 → ∀ b, b < 1 → a ≠ b → (TX2 a).2.1 ≠ (TX2 b).2.1 := by decide +kernel
theorem tyX2_ok : ∀ k, k < 1 → parseFieldDescriptor (TX2 k).2.2.1 = some (tyX2 k) := by decide +kernel
abbrev cX2_init : ByteArray := prog_4_method_1_code
def yX2_init : MethodName := ⟨RX2, "<init>", "(II)V"⟩
abbrev cX2_at : ByteArray := prog_4_method_2_code
def yX2_at : MethodName := ⟨RX2, "at", "(I)I"⟩
abbrev cX2_put : ByteArray := prog_4_method_3_code
def yX2_put : MethodName := ⟨RX2, "put", "(II)V"⟩
abbrev cX2_add : ByteArray := prog_4_method_4_code
def yX2_add : MethodName := ⟨RX2, "add", "(II)V"⟩
abbrev cX2_sum : ByteArray := prog_4_method_5_code
def yX2_sum : MethodName := ⟨RX2, "sum", "()I"⟩
abbrev cX2_copyFrom : ByteArray := prog_4_method_6_code
def yX2_copyFrom : MethodName := ⟨RX2, "copyFrom", "(LRibbedLoans$Row;)V"⟩
def RX3 : String := "RibbedLoans$State"
def TX3 : u_T := fun k => match k with
  | 0 => ("RibbedLoans$State", "city", "LRibbedLoans$City;", true)
  | 1 => ("RibbedLoans$State", "snapshot0", "LRibbedLoans$City;", true)
  | 2 => ("RibbedLoans$State", "snapshot1", "LRibbedLoans$City;", true)
  | 3 => ("RibbedLoans$State", "kept0", "Z", false)
  | _ => ("RibbedLoans$State", "kept1", "Z", false)
def tyX3 : Nat → FieldType := fun k => match k with
  | 0 => .object "RibbedLoans$City"
  | 1 => .object "RibbedLoans$City"
  | 2 => .object "RibbedLoans$City"
  | 3 => .boolean
  | _ => .boolean
theorem nmX3 : ∀ a, a < 5 → ∀ b, b < 5 → a ≠ b → (TX3 a).2.1 ≠ (TX3 b).2.1 := by decide +kernel
theorem tyX3_ok : ∀ k, k < 5 → parseFieldDescriptor (TX3 k).2.2.1 = some (tyX3 k) := by decide +kernel
abbrev cX3_init : ByteArray := prog_5_method_1_code
def yX3_init : MethodName := ⟨RX3, "<init>", "()V"⟩
abbrev cX3_copyFrom : ByteArray := prog_5_method_2_code
def yX3_copyFrom : MethodName := ⟨RX3, "copyFrom", "(LRibbedLoans$State;)V"⟩
abbrev cX3_snapshot : ByteArray := prog_5_method_3_code
def yX3_snapshot : MethodName := ⟨RX3, "snapshot", "(I)LRibbedLoans$City;"⟩
abbrev cX3_isKept : ByteArray := prog_5_method_4_code
def yX3_isKept : MethodName := ⟨RX3, "isKept", "(I)Z"⟩
abbrev cX3_numberKept : ByteArray := prog_5_method_5_code
def yX3_numberKept : MethodName := ⟨RX3, "numberKept", "()I"⟩
abbrev cX3_keep : ByteArray := prog_5_method_6_code
def yX3_keep : MethodName := ⟨RX3, "keep", "(I)V"⟩
abbrev cX3_bringUp : ByteArray := prog_5_method_7_code
def yX3_bringUp : MethodName := ⟨RX3, "bringUp", "(I)V"⟩
def RX4 : String := "RibbedLoans$Text"
def TX4 : u_T := fun k => match k with
  | 0 => ("RibbedLoans$Text", "characters", "[C", true)
  | 1 => ("RibbedLoans$Text", "length", "I", false)
  | 2 => ("RibbedLoans$Text", "cursor", "I", false)
  | 3 => ("RibbedLoans$Text", "verb", "I", false)
  | 4 => ("RibbedLoans$Text", "first", "I", false)
  | _ => ("RibbedLoans$Text", "second", "I", false)
def tyX4 : Nat → FieldType := fun k => match k with
  | 0 => .array .char
  | 1 => .int
  | 2 => .int
  | 3 => .int
  | 4 => .int
  | _ => .int
theorem nmX4 : ∀ a, a < 6 → ∀ b, b < 6 → a ≠ b → (TX4 a).2.1 ≠ (TX4 b).2.1 := by decide +kernel
theorem tyX4_ok : ∀ k, k < 6 → parseFieldDescriptor (TX4 k).2.2.1 = some (tyX4 k) := by decide +kernel
abbrev cX4_init : ByteArray := prog_6_method_1_code
def yX4_init : MethodName := ⟨RX4, "<init>", "()V"⟩
def RX5 : String := "RibbedLoans$Umbrellas"
def TX5 : u_T := fun k => match k with
  | 0 => ("RibbedLoans$Umbrellas", "spots", "LRibbedLoans$Row;", true)
  | 1 => ("RibbedLoans$Umbrellas", "wears", "LRibbedLoans$Row;", true)
  | 2 => ("RibbedLoans$Umbrellas", "lendings", "LRibbedLoans$Row;", true)
  | 3 => ("RibbedLoans$Umbrellas", "tally", "LRibbedLoans$Row;", true)
  | _ => ("RibbedLoans$Umbrellas", "number", "I", false)
def tyX5 : Nat → FieldType := fun k => match k with
  | 0 => .object "RibbedLoans$Row"
  | 1 => .object "RibbedLoans$Row"
  | 2 => .object "RibbedLoans$Row"
  | 3 => .object "RibbedLoans$Row"
  | _ => .int
theorem nmX5 : ∀ a, a < 5 → ∀ b, b < 5 → a ≠ b → (TX5 a).2.1 ≠ (TX5 b).2.1 := by decide +kernel
theorem tyX5_ok : ∀ k, k < 5 → parseFieldDescriptor (TX5 k).2.2.1 = some (tyX5 k) := by decide +kernel
abbrev cX5_init : ByteArray := prog_7_method_1_code
def yX5_init : MethodName := ⟨RX5, "<init>", "()V"⟩
abbrev cX5_copyFrom : ByteArray := prog_7_method_2_code
def yX5_copyFrom : MethodName := ⟨RX5, "copyFrom", "(LRibbedLoans$Umbrellas;)V"⟩
abbrev cX5_addNew : ByteArray := prog_7_method_3_code
def yX5_addNew : MethodName := ⟨RX5, "addNew", "(I)V"⟩
abbrev cX5_move : ByteArray := prog_7_method_4_code
def yX5_move : MethodName := ⟨RX5, "move", "(II)V"⟩
abbrev cX5_isBroken : ByteArray := prog_7_method_5_code
def yX5_isBroken : MethodName := ⟨RX5, "isBroken", "(I)Z"⟩
abbrev cX5_numberAt : ByteArray := prog_7_method_6_code
def yX5_numberAt : MethodName := ⟨RX5, "numberAt", "(I)I"⟩
abbrev cX5_numberOfKind : ByteArray := prog_7_method_7_code
def yX5_numberOfKind : MethodName := ⟨RX5, "numberOfKind", "(I)I"⟩
abbrev cX5_numberBroken : ByteArray := prog_7_method_8_code
def yX5_numberBroken : MethodName := ⟨RX5, "numberBroken", "()I"⟩
abbrev cX5_brokenAt : ByteArray := prog_7_method_9_code
def yX5_brokenAt : MethodName := ⟨RX5, "brokenAt", "(I)I"⟩
abbrev cX5_wholeAt : ByteArray := prog_7_method_10_code
def yX5_wholeAt : MethodName := ⟨RX5, "wholeAt", "(I)I"⟩
abbrev cX5_nthAt : ByteArray := prog_7_method_11_code
def yX5_nthAt : MethodName := ⟨RX5, "nthAt", "(II)I"⟩
abbrev cX5_leastWornAt : ByteArray := prog_7_method_12_code
def yX5_leastWornAt : MethodName := ⟨RX5, "leastWornAt", "(III)I"⟩
abbrev cX5_bestAt : ByteArray := prog_7_method_13_code
def yX5_bestAt : MethodName := ⟨RX5, "bestAt", "(I)I"⟩
abbrev cX5_worstAt : ByteArray := prog_7_method_14_code
def yX5_worstAt : MethodName := ⟨RX5, "worstAt", "(I)I"⟩
abbrev cX5_meanWearAt : ByteArray := prog_7_method_15_code
def yX5_meanWearAt : MethodName := ⟨RX5, "meanWearAt", "(I)I"⟩
def RX6 : String := "RibbedLoans"
def TX6 : u_T := fun k => match k with
  | 0 => ("RibbedLoans", "now", "LRibbedLoans$State;", true)
  | 1 => ("RibbedLoans", "history", "LRibbedLoans$History;", true)
  | _ => ("RibbedLoans", "text", "LRibbedLoans$Text;", true)
def tyX6 : Nat → FieldType := fun k => match k with
  | 0 => .object "RibbedLoans$State"
  | 1 => .object "RibbedLoans$History"
  | _ => .object "RibbedLoans$Text"
theorem nmX6 : ∀ a, a < 3 → ∀ b, b < 3 → a ≠ b → (TX6 a).2.1 ≠ (TX6 b).2.1 := by decide +kernel
theorem tyX6_ok : ∀ k, k < 3 → parseFieldDescriptor (TX6 k).2.2.1 = some (tyX6 k) := by decide +kernel
abbrev cX6_init : ByteArray := prog_1_method_1_code
def yX6_init : MethodName := ⟨RX6, "<init>", "()V"⟩
abbrev cX6_buy : ByteArray := prog_1_method_2_code
def yX6_buy : MethodName := ⟨RX6, "buy", "(II)I"⟩
abbrev cX6_set : ByteArray := prog_1_method_3_code
def yX6_set : MethodName := ⟨RX6, "set", "(II)I"⟩
abbrev cX6_borrow : ByteArray := prog_1_method_4_code
def yX6_borrow : MethodName := ⟨RX6, "borrow", "(II)I"⟩
abbrev cX6_bringBack : ByteArray := prog_1_method_5_code
def yX6_bringBack : MethodName := ⟨RX6, "bringBack", "(II)I"⟩
abbrev cX6_hour : ByteArray := prog_1_method_6_code
def yX6_hour : MethodName := ⟨RX6, "hour", "(II)I"⟩
abbrev cX6_load : ByteArray := prog_1_method_7_code
def yX6_load : MethodName := ⟨RX6, "load", "(III)I"⟩
abbrev cX6_unload : ByteArray := prog_1_method_8_code
def yX6_unload : MethodName := ⟨RX6, "unload", "(III)I"⟩
abbrev cX6_toWorkshop : ByteArray := prog_1_method_9_code
def yX6_toWorkshop : MethodName := ⟨RX6, "toWorkshop", "(I)I"⟩
abbrev cX6_mend : ByteArray := prog_1_method_10_code
def yX6_mend : MethodName := ⟨RX6, "mend", "(I)I"⟩
abbrev cX6_level : ByteArray := prog_1_method_11_code
def yX6_level : MethodName := ⟨RX6, "level", "()I"⟩
abbrev cX6_take : ByteArray := prog_1_method_12_code
def yX6_take : MethodName := ⟨RX6, "take", "(I)I"⟩
abbrev cX6_restore : ByteArray := prog_1_method_13_code
def yX6_restore : MethodName := ⟨RX6, "restore", "(I)I"⟩
abbrev cX6_undo : ByteArray := prog_1_method_14_code
def yX6_undo : MethodName := ⟨RX6, "undo", "()I"⟩
abbrev cX6_count : ByteArray := prog_1_method_19_code
def yX6_count : MethodName := ⟨RX6, "count", "(I)I"⟩
abbrev cX6_umbrella : ByteArray := prog_1_method_20_code
def yX6_umbrella : MethodName := ⟨RX6, "umbrella", "(II)I"⟩
abbrev cX6_stand : ByteArray := prog_1_method_21_code
def yX6_stand : MethodName := ⟨RX6, "stand", "(II)I"⟩
abbrev cX6_person : ByteArray := prog_1_method_22_code
def yX6_person : MethodName := ⟨RX6, "person", "(II)I"⟩
abbrev cX6_inVan : ByteArray := prog_1_method_23_code
def yX6_inVan : MethodName := ⟨RX6, "inVan", "(II)I"⟩
abbrev cX6_feeIn : ByteArray := prog_1_method_24_code
def yX6_feeIn : MethodName := ⟨RX6, "feeIn", "(III)I"⟩
abbrev cX6_breaksIn : ByteArray := prog_1_method_25_code
def yX6_breaksIn : MethodName := ⟨RX6, "breaksIn", "(III)I"⟩
abbrev cX6_emptied : ByteArray := prog_1_method_26_code
def yX6_emptied : MethodName := ⟨RX6, "emptied", "()I"⟩
abbrev cX6_outside : ByteArray := prog_1_method_28_code
def yX6_outside : MethodName := ⟨RX6, "outside", "(III)Z"⟩
abbrev cX6_kindOf : ByteArray := prog_1_method_29_code
def yX6_kindOf : MethodName := ⟨RX6, "kindOf", "(I)I"⟩
abbrev cX6_ownerOf : ByteArray := prog_1_method_30_code
def yX6_ownerOf : MethodName := ⟨RX6, "ownerOf", "(I)I"⟩
abbrev cX6_wornBy : ByteArray := prog_1_method_31_code
def yX6_wornBy : MethodName := ⟨RX6, "wornBy", "(III)I"⟩
def RX7 : String := "RibbedLoansModel"
def TX7 : u_T := fun k => match k with
  | _ => ("", "", "", false)
def tyX7 : Nat → FieldType := fun k => match k with
  | _ => .int
theorem nmX7 : ∀ a, a < 0 → ∀ b, b < 0 → a ≠ b → (TX7 a).2.1 ≠ (TX7 b).2.1 := by decide +kernel
theorem tyX7_ok : ∀ k, k < 0 → parseFieldDescriptor (TX7 k).2.2.1 = some (tyX7 k) := by decide +kernel
def RJ9 : String := "java/lang/Math"
abbrev cJ9_max_7cf53 : ByteArray := prog_10_method_65_code
def yJ9_max_7cf53 : MethodName := ⟨RJ9, "max", "(II)I"⟩
abbrev cJ9_min_7cf53 : ByteArray := prog_10_method_69_code
def yJ9_min_7cf53 : MethodName := ⟨RJ9, "min", "(II)I"⟩
def RJ10 : String := "java/lang/System"
def RJ7 : String := "java/util/Arrays"
abbrev cJ7_fill_53178 : ByteArray := prog_12_method_103_code
def yJ7_fill_53178 : MethodName := ⟨RJ7, "fill", "([II)V"⟩
def RL : String := "RibbedLoansLaw"
abbrev cL_lot : ByteArray := method_2_code
def yL_lot : MethodName := ⟨RL, "lot", "([II)I"⟩
abbrev cL_low : ByteArray := method_3_code
def yL_low : MethodName := ⟨RL, "low", "(II)I"⟩
abbrev cL_places : ByteArray := method_4_code
def yL_places : MethodName := ⟨RL, "places", "(LRibbedLoans;)Z"⟩
abbrev cL_coins : ByteArray := method_5_code
def yL_coins : MethodName := ⟨RL, "coins", "(LRibbedLoans;)Z"⟩
abbrev cL_hour : ByteArray := method_6_code
def yL_hour : MethodName := ⟨RL, "hour", "(LRibbedLoans;II)Z"⟩
abbrev cL_acts : ByteArray := method_7_code
def yL_acts : MethodName := ⟨RL, "acts", "(LRibbedLoans;II)Z"⟩
abbrev cL_law : ByteArray := code
def yL_law : MethodName := ⟨RL, "law", "([I)Z"⟩
abbrev vwCl : List vw_C := [(RX0, TX0, 12), (RX1, TX1, 3), (RX2, TX2, 1), (RX3, TX3, 5), (RX4, TX4, 6), (RX5, TX5, 5), (RX6, TX6, 3)]
def GW : List Cond := lw_tbl.filter goodWord
def mws (y : MethodName) (cc : ByteArray) (ml : Nat) (ret : Option FieldType) : List Cond := .code y cc ml ret :: GW
theorem gw_0 : Cond.selects RX0 yX0_spendable yX0_spendable ∈ GW := List.mem_filter.mpr ⟨List.mem_of_getElem? (i := 0) (by decide +kernel), rfl⟩
theorem gw_1 : Cond.selects RX0 yX0_freeAt yX0_freeAt ∈ GW := List.mem_filter.mpr ⟨List.mem_of_getElem? (i := 1) (by decide +kernel), rfl⟩
theorem gw_2 : Cond.selects RX0 yX0_spend yX0_spend ∈ GW := List.mem_filter.mpr ⟨List.mem_of_getElem? (i := 2) (by decide +kernel), rfl⟩
theorem gw_3 : Cond.selects RX3 yX3_snapshot yX3_snapshot ∈ GW := List.mem_filter.mpr ⟨List.mem_of_getElem? (i := 3) (by decide +kernel), rfl⟩
theorem gw_4 : Cond.selects RX0 yX0_wouldBorrow yX0_wouldBorrow ∈ GW := List.mem_filter.mpr ⟨List.mem_of_getElem? (i := 4) (by decide +kernel), rfl⟩
theorem gw_5 : Cond.selects RX0 yX0_handOut yX0_handOut ∈ GW := List.mem_filter.mpr ⟨List.mem_of_getElem? (i := 5) (by decide +kernel), rfl⟩
theorem gw_6 : Cond.selects RX0 yX0_countShower yX0_countShower ∈ GW := List.mem_filter.mpr ⟨List.mem_of_getElem? (i := 6) (by decide +kernel), rfl⟩
theorem gw_7 : Cond.selects RX0 yX0_wearDown yX0_wearDown ∈ GW := List.mem_filter.mpr ⟨List.mem_of_getElem? (i := 7) (by decide +kernel), rfl⟩
theorem gw_8 : Cond.selects RX0 yX0_surge yX0_surge ∈ GW := List.mem_filter.mpr ⟨List.mem_of_getElem? (i := 8) (by decide +kernel), rfl⟩
theorem gw_9 : Cond.selects RX0 yX0_fullest yX0_fullest ∈ GW := List.mem_filter.mpr ⟨List.mem_of_getElem? (i := 9) (by decide +kernel), rfl⟩
theorem gw_10 : Cond.selects RX0 yX0_emptiestWithRoom yX0_emptiestWithRoom ∈ GW := List.mem_filter.mpr ⟨List.mem_of_getElem? (i := 10) (by decide +kernel), rfl⟩
theorem gw_11 : Cond.initialized "RibbedLoansLaw" ∈ GW := List.mem_filter.mpr ⟨List.mem_of_getElem? (i := 11) (by decide +kernel), rfl⟩
theorem gw_12 : Cond.initialized RX6 ∈ GW := List.mem_filter.mpr ⟨List.mem_of_getElem? (i := 12) (by decide +kernel), rfl⟩
theorem gw_13 : Cond.initialized RX3 ∈ GW := List.mem_filter.mpr ⟨List.mem_of_getElem? (i := 13) (by decide +kernel), rfl⟩
theorem gw_14 : Cond.initialized RX0 ∈ GW := List.mem_filter.mpr ⟨List.mem_of_getElem? (i := 14) (by decide +kernel), rfl⟩
theorem gw_15 : Cond.initialized RX5 ∈ GW := List.mem_filter.mpr ⟨List.mem_of_getElem? (i := 15) (by decide +kernel), rfl⟩
theorem gw_16 : Cond.initialized RX2 ∈ GW := List.mem_filter.mpr ⟨List.mem_of_getElem? (i := 16) (by decide +kernel), rfl⟩
theorem gw_17 : Cond.initialized "java/lang/Math" ∈ GW := List.mem_filter.mpr ⟨List.mem_of_getElem? (i := 17) (by decide +kernel), rfl⟩
theorem gw_18 : Cond.initialized RJ7 ∈ GW := List.mem_filter.mpr ⟨List.mem_of_getElem? (i := 18) (by decide +kernel), rfl⟩
theorem gw_19 : Cond.initialized RX1 ∈ GW := List.mem_filter.mpr ⟨List.mem_of_getElem? (i := 19) (by decide +kernel), rfl⟩
theorem gw_20 : Cond.initialized RX4 ∈ GW := List.mem_filter.mpr ⟨List.mem_of_getElem? (i := 20) (by decide +kernel), rfl⟩
theorem gw_21 : Cond.initialized "java/lang/System" ∈ GW := List.mem_filter.mpr ⟨List.mem_of_getElem? (i := 21) (by decide +kernel), rfl⟩
theorem gw_22 : Cond.classLink "RibbedLoansLaw" 10 RX6 ∈ GW := List.mem_filter.mpr ⟨List.mem_of_getElem? (i := 22) (by decide +kernel), rfl⟩
theorem gw_23 : Cond.instantiable RX6 3 ∈ GW := List.mem_filter.mpr ⟨List.mem_of_getElem? (i := 23) (by decide +kernel), rfl⟩
theorem gw_24 : Cond.methodLink "RibbedLoansLaw" 86 yX6_init ∈ GW := List.mem_filter.mpr ⟨List.mem_of_getElem? (i := 24) (by decide +kernel), rfl⟩
theorem gw_25 : Cond.instanceMethod yX6_init ∈ GW := List.mem_filter.mpr ⟨List.mem_of_getElem? (i := 25) (by decide +kernel), rfl⟩
theorem gw_26 : Cond.code yX6_init cX6_init 1 none ∈ GW := List.mem_filter.mpr ⟨List.mem_of_getElem? (i := 26) rfl, rfl⟩
theorem gw_27 : Cond.methodLink RX6 3 objectInit ∈ GW := List.mem_filter.mpr ⟨List.mem_of_getElem? (i := 27) (by decide +kernel), rfl⟩
theorem gw_28 : Cond.instanceMethod objectInit ∈ GW := List.mem_filter.mpr ⟨List.mem_of_getElem? (i := 28) (by decide +kernel), rfl⟩
theorem gw_29 : Cond.code objectInit ⟨#[0xb1]⟩ 1 none ∈ GW := List.mem_filter.mpr ⟨List.mem_of_getElem? (i := 29) rfl, rfl⟩
theorem gw_30 : Cond.classLink RX6 9 RX3 ∈ GW := List.mem_filter.mpr ⟨List.mem_of_getElem? (i := 30) (by decide +kernel), rfl⟩
theorem gw_31 : Cond.instantiable RX3 5 ∈ GW := List.mem_filter.mpr ⟨List.mem_of_getElem? (i := 31) (by decide +kernel), rfl⟩
theorem gw_33 : Cond.instanceMethod yX3_init ∈ GW := List.mem_filter.mpr ⟨List.mem_of_getElem? (i := 33) (by decide +kernel), rfl⟩
theorem gw_34 : Cond.code yX3_init cX3_init 1 none ∈ GW := List.mem_filter.mpr ⟨List.mem_of_getElem? (i := 34) rfl, rfl⟩
theorem gw_35 : Cond.methodLink RX3 1 objectInit ∈ GW := List.mem_filter.mpr ⟨List.mem_of_getElem? (i := 35) (by decide +kernel), rfl⟩
theorem gw_36 : Cond.classLink RX3 7 RX0 ∈ GW := List.mem_filter.mpr ⟨List.mem_of_getElem? (i := 36) (by decide +kernel), rfl⟩
theorem gw_37 : Cond.instantiable RX0 12 ∈ GW := List.mem_filter.mpr ⟨List.mem_of_getElem? (i := 37) (by decide +kernel), rfl⟩
theorem gw_38 : Cond.methodLink RX3 9 yX0_init ∈ GW := List.mem_filter.mpr ⟨List.mem_of_getElem? (i := 38) (by decide +kernel), rfl⟩
theorem gw_39 : Cond.instanceMethod yX0_init ∈ GW := List.mem_filter.mpr ⟨List.mem_of_getElem? (i := 39) (by decide +kernel), rfl⟩
theorem gw_40 : Cond.code yX0_init cX0_init 2 none ∈ GW := List.mem_filter.mpr ⟨List.mem_of_getElem? (i := 40) rfl, rfl⟩
theorem gw_41 : Cond.methodLink RX0 3 objectInit ∈ GW := List.mem_filter.mpr ⟨List.mem_of_getElem? (i := 41) (by decide +kernel), rfl⟩
theorem gw_42 : Cond.classLink RX0 9 RX5 ∈ GW := List.mem_filter.mpr ⟨List.mem_of_getElem? (i := 42) (by decide +kernel), rfl⟩
theorem gw_43 : Cond.instantiable RX5 5 ∈ GW := List.mem_filter.mpr ⟨List.mem_of_getElem? (i := 43) (by decide +kernel), rfl⟩
theorem gw_45 : Cond.instanceMethod yX5_init ∈ GW := List.mem_filter.mpr ⟨List.mem_of_getElem? (i := 45) (by decide +kernel), rfl⟩
theorem gw_46 : Cond.code yX5_init cX5_init 1 none ∈ GW := List.mem_filter.mpr ⟨List.mem_of_getElem? (i := 46) rfl, rfl⟩
theorem gw_47 : Cond.methodLink RX5 3 objectInit ∈ GW := List.mem_filter.mpr ⟨List.mem_of_getElem? (i := 47) (by decide +kernel), rfl⟩
theorem gw_48 : Cond.classLink RX5 9 RX2 ∈ GW := List.mem_filter.mpr ⟨List.mem_of_getElem? (i := 48) (by decide +kernel), rfl⟩
theorem gw_49 : Cond.instantiable RX2 1 ∈ GW := List.mem_filter.mpr ⟨List.mem_of_getElem? (i := 49) (by decide +kernel), rfl⟩
theorem gw_50 : Cond.methodLink RX5 11 yX2_init ∈ GW := List.mem_filter.mpr ⟨List.mem_of_getElem? (i := 50) (by decide +kernel), rfl⟩
theorem gw_51 : Cond.instanceMethod yX2_init ∈ GW := List.mem_filter.mpr ⟨List.mem_of_getElem? (i := 51) (by decide +kernel), rfl⟩
theorem gw_52 : Cond.code yX2_init cX2_init 3 none ∈ GW := List.mem_filter.mpr ⟨List.mem_of_getElem? (i := 52) rfl, rfl⟩
theorem gw_53 : Cond.methodLink RX2 1 objectInit ∈ GW := List.mem_filter.mpr ⟨List.mem_of_getElem? (i := 53) (by decide +kernel), rfl⟩
theorem gw_54 : Cond.methodLink RX2 7 Lib.Math.max.name ∈ GW := List.mem_filter.mpr ⟨List.mem_of_getElem? (i := 54) (by decide +kernel), rfl⟩
theorem gw_55 : Cond.static Lib.Math.max.name ∈ GW := List.mem_filter.mpr ⟨List.mem_of_getElem? (i := 55) (by decide +kernel), rfl⟩
theorem gw_56 : Cond.code Lib.Math.max.name Lib.Math.max.code 2 (some .int) ∈ GW := List.mem_filter.mpr ⟨List.mem_of_getElem? (i := 56) rfl, rfl⟩
theorem gw_57 : Cond.methodLink RX2 19 yJ7_fill_53178 ∈ GW := List.mem_filter.mpr ⟨List.mem_of_getElem? (i := 57) (by decide +kernel), rfl⟩
theorem gw_58 : Cond.static yJ7_fill_53178 ∈ GW := List.mem_filter.mpr ⟨List.mem_of_getElem? (i := 58) (by decide +kernel), rfl⟩
theorem gw_59 : Cond.code yJ7_fill_53178 cJ7_fill_53178 4 none ∈ GW := List.mem_filter.mpr ⟨List.mem_of_getElem? (i := 59) rfl, rfl⟩
theorem gw_60 : Cond.fieldLink RX2 13 RX2 "cells" "[I" ∈ GW := List.mem_filter.mpr ⟨List.mem_of_getElem? (i := 60) (by decide +kernel), rfl⟩
theorem gw_64 : Cond.arrayClass .int ∈ GW := List.mem_filter.mpr ⟨List.mem_of_getElem? (i := 64) (by decide +kernel), rfl⟩
theorem gw_65 : Cond.fieldLink RX5 14 RX5 "spots" "LRibbedLoans$Row;" ∈ GW := List.mem_filter.mpr ⟨List.mem_of_getElem? (i := 65) (by decide +kernel), rfl⟩
theorem gw_68 : Cond.fieldLink RX5 20 RX5 "wears" "LRibbedLoans$Row;" ∈ GW := List.mem_filter.mpr ⟨List.mem_of_getElem? (i := 68) (by decide +kernel), rfl⟩
theorem gw_71 : Cond.fieldLink RX5 23 RX5 "lendings" "LRibbedLoans$Row;" ∈ GW := List.mem_filter.mpr ⟨List.mem_of_getElem? (i := 71) (by decide +kernel), rfl⟩
theorem gw_74 : Cond.fieldLink RX5 26 RX5 "tally" "LRibbedLoans$Row;" ∈ GW := List.mem_filter.mpr ⟨List.mem_of_getElem? (i := 74) (by decide +kernel), rfl⟩
theorem gw_75 : Cond.fieldLink RX5 33 RX5 "number" "I" ∈ GW := List.mem_filter.mpr ⟨List.mem_of_getElem? (i := 75) (by decide +kernel), rfl⟩
theorem gw_89 : Cond.classLink RX0 18 RX2 ∈ GW := List.mem_filter.mpr ⟨List.mem_of_getElem? (i := 89) (by decide +kernel), rfl⟩
theorem gw_90 : Cond.methodLink RX0 20 yX2_init ∈ GW := List.mem_filter.mpr ⟨List.mem_of_getElem? (i := 90) (by decide +kernel), rfl⟩
theorem gw_91 : Cond.methodLink RX0 46 yX2_put ∈ GW := List.mem_filter.mpr ⟨List.mem_of_getElem? (i := 91) (by decide +kernel), rfl⟩
theorem gw_92 : Cond.instanceMethod yX2_put ∈ GW := List.mem_filter.mpr ⟨List.mem_of_getElem? (i := 92) (by decide +kernel), rfl⟩
theorem gw_93 : Cond.selects RX2 yX2_put yX2_put ∈ GW := List.mem_filter.mpr ⟨List.mem_of_getElem? (i := 93) (by decide +kernel), rfl⟩
theorem gw_94 : Cond.code yX2_put cX2_put 3 none ∈ GW := List.mem_filter.mpr ⟨List.mem_of_getElem? (i := 94) rfl, rfl⟩
theorem gw_95 : Cond.fieldLink RX0 12 RX0 "umbrellas" "LRibbedLoans$Umbrellas;" ∈ GW := List.mem_filter.mpr ⟨List.mem_of_getElem? (i := 95) (by decide +kernel), rfl⟩
theorem gw_97 : Cond.fieldLink RX0 23 RX0 "rooms" "LRibbedLoans$Row;" ∈ GW := List.mem_filter.mpr ⟨List.mem_of_getElem? (i := 97) (by decide +kernel), rfl⟩
theorem gw_99 : Cond.fieldLink RX0 27 RX0 "purses" "LRibbedLoans$Row;" ∈ GW := List.mem_filter.mpr ⟨List.mem_of_getElem? (i := 99) (by decide +kernel), rfl⟩
theorem gw_101 : Cond.fieldLink RX0 30 RX0 "showers" "LRibbedLoans$Row;" ∈ GW := List.mem_filter.mpr ⟨List.mem_of_getElem? (i := 101) (by decide +kernel), rfl⟩
theorem gw_103 : Cond.fieldLink RX0 33 RX0 "homes" "LRibbedLoans$Row;" ∈ GW := List.mem_filter.mpr ⟨List.mem_of_getElem? (i := 103) (by decide +kernel), rfl⟩
theorem gw_105 : Cond.fieldLink RX0 36 RX0 "paid" "LRibbedLoans$Row;" ∈ GW := List.mem_filter.mpr ⟨List.mem_of_getElem? (i := 105) (by decide +kernel), rfl⟩
theorem gw_107 : Cond.fieldLink RX0 56 RX0 "hours" "I" ∈ GW := List.mem_filter.mpr ⟨List.mem_of_getElem? (i := 107) (by decide +kernel), rfl⟩
theorem gw_109 : Cond.fieldLink RX0 39 RX0 "house" "I" ∈ GW := List.mem_filter.mpr ⟨List.mem_of_getElem? (i := 109) (by decide +kernel), rfl⟩
theorem gw_111 : Cond.fieldLink RX0 59 RX0 "spent" "I" ∈ GW := List.mem_filter.mpr ⟨List.mem_of_getElem? (i := 111) (by decide +kernel), rfl⟩
theorem gw_113 : Cond.fieldLink RX0 62 RX0 "loans" "I" ∈ GW := List.mem_filter.mpr ⟨List.mem_of_getElem? (i := 113) (by decide +kernel), rfl⟩
theorem gw_115 : Cond.fieldLink RX0 65 RX0 "surges" "I" ∈ GW := List.mem_filter.mpr ⟨List.mem_of_getElem? (i := 115) (by decide +kernel), rfl⟩
theorem gw_117 : Cond.fieldLink RX0 43 RX0 "rate" "I" ∈ GW := List.mem_filter.mpr ⟨List.mem_of_getElem? (i := 117) (by decide +kernel), rfl⟩
theorem gw_144 : Cond.fieldLink RX3 10 RX3 "city" "LRibbedLoans$City;" ∈ GW := List.mem_filter.mpr ⟨List.mem_of_getElem? (i := 144) (by decide +kernel), rfl⟩
theorem gw_146 : Cond.fieldLink RX3 16 RX3 "snapshot0" "LRibbedLoans$City;" ∈ GW := List.mem_filter.mpr ⟨List.mem_of_getElem? (i := 146) (by decide +kernel), rfl⟩
theorem gw_147 : Cond.fieldLink RX3 19 RX3 "snapshot1" "LRibbedLoans$City;" ∈ GW := List.mem_filter.mpr ⟨List.mem_of_getElem? (i := 147) (by decide +kernel), rfl⟩
theorem gw_148 : Cond.fieldLink RX3 26 RX3 "kept0" "Z" ∈ GW := List.mem_filter.mpr ⟨List.mem_of_getElem? (i := 148) (by decide +kernel), rfl⟩
theorem gw_149 : Cond.fieldLink RX3 30 RX3 "kept1" "Z" ∈ GW := List.mem_filter.mpr ⟨List.mem_of_getElem? (i := 149) (by decide +kernel), rfl⟩
theorem gw_161 : Cond.classLink RX6 16 RX1 ∈ GW := List.mem_filter.mpr ⟨List.mem_of_getElem? (i := 161) (by decide +kernel), rfl⟩
theorem gw_162 : Cond.instantiable RX1 3 ∈ GW := List.mem_filter.mpr ⟨List.mem_of_getElem? (i := 162) (by decide +kernel), rfl⟩
theorem gw_163 : Cond.methodLink RX6 18 yX1_init ∈ GW := List.mem_filter.mpr ⟨List.mem_of_getElem? (i := 163) (by decide +kernel), rfl⟩
theorem gw_164 : Cond.instanceMethod yX1_init ∈ GW := List.mem_filter.mpr ⟨List.mem_of_getElem? (i := 164) (by decide +kernel), rfl⟩
theorem gw_165 : Cond.code yX1_init cX1_init 2 none ∈ GW := List.mem_filter.mpr ⟨List.mem_of_getElem? (i := 165) rfl, rfl⟩
theorem gw_166 : Cond.methodLink RX1 3 objectInit ∈ GW := List.mem_filter.mpr ⟨List.mem_of_getElem? (i := 166) (by decide +kernel), rfl⟩
theorem gw_167 : Cond.classLink RX1 9 RX3 ∈ GW := List.mem_filter.mpr ⟨List.mem_of_getElem? (i := 167) (by decide +kernel), rfl⟩
theorem gw_170 : Cond.fieldLink RX1 11 RX1 "ring" "[LRibbedLoans$State;" ∈ GW := List.mem_filter.mpr ⟨List.mem_of_getElem? (i := 170) (by decide +kernel), rfl⟩
theorem gw_171 : Cond.fieldLink RX1 18 RX1 "next" "I" ∈ GW := List.mem_filter.mpr ⟨List.mem_of_getElem? (i := 171) (by decide +kernel), rfl⟩
theorem gw_172 : Cond.fieldLink RX1 26 RX1 "size" "I" ∈ GW := List.mem_filter.mpr ⟨List.mem_of_getElem? (i := 172) (by decide +kernel), rfl⟩
theorem gw_181 : Cond.classLink RX6 23 RX4 ∈ GW := List.mem_filter.mpr ⟨List.mem_of_getElem? (i := 181) (by decide +kernel), rfl⟩
theorem gw_182 : Cond.instantiable RX4 6 ∈ GW := List.mem_filter.mpr ⟨List.mem_of_getElem? (i := 182) (by decide +kernel), rfl⟩
theorem gw_184 : Cond.instanceMethod yX4_init ∈ GW := List.mem_filter.mpr ⟨List.mem_of_getElem? (i := 184) (by decide +kernel), rfl⟩
theorem gw_185 : Cond.code yX4_init cX4_init 1 none ∈ GW := List.mem_filter.mpr ⟨List.mem_of_getElem? (i := 185) rfl, rfl⟩
theorem gw_186 : Cond.methodLink RX4 3 objectInit ∈ GW := List.mem_filter.mpr ⟨List.mem_of_getElem? (i := 186) (by decide +kernel), rfl⟩
theorem gw_187 : Cond.fieldLink RX4 9 RX4 "characters" "[C" ∈ GW := List.mem_filter.mpr ⟨List.mem_of_getElem? (i := 187) (by decide +kernel), rfl⟩
theorem gw_202 : Cond.arrayClass .char ∈ GW := List.mem_filter.mpr ⟨List.mem_of_getElem? (i := 202) (by decide +kernel), rfl⟩
theorem gw_203 : Cond.fieldLink RX6 12 RX6 "now" "LRibbedLoans$State;" ∈ GW := List.mem_filter.mpr ⟨List.mem_of_getElem? (i := 203) (by decide +kernel), rfl⟩
theorem gw_204 : Cond.fieldLink RX6 19 RX6 "history" "LRibbedLoans$History;" ∈ GW := List.mem_filter.mpr ⟨List.mem_of_getElem? (i := 204) (by decide +kernel), rfl⟩
theorem gw_205 : Cond.fieldLink RX6 26 RX6 "text" "LRibbedLoans$Text;" ∈ GW := List.mem_filter.mpr ⟨List.mem_of_getElem? (i := 205) (by decide +kernel), rfl⟩
theorem gw_213 : Cond.methodLink "RibbedLoansLaw" 44 yX6_buy ∈ GW := List.mem_filter.mpr ⟨List.mem_of_getElem? (i := 213) (by decide +kernel), rfl⟩
theorem gw_214 : Cond.instanceMethod yX6_buy ∈ GW := List.mem_filter.mpr ⟨List.mem_of_getElem? (i := 214) (by decide +kernel), rfl⟩
theorem gw_215 : Cond.selects RX6 yX6_buy yX6_buy ∈ GW := List.mem_filter.mpr ⟨List.mem_of_getElem? (i := 215) (by decide +kernel), rfl⟩
theorem gw_216 : Cond.code yX6_buy cX6_buy 4 (some .int) ∈ GW := List.mem_filter.mpr ⟨List.mem_of_getElem? (i := 216) rfl, rfl⟩
theorem gw_217 : Cond.methodLink RX6 34 yX0_buyingError ∈ GW := List.mem_filter.mpr ⟨List.mem_of_getElem? (i := 217) (by decide +kernel), rfl⟩
theorem gw_218 : Cond.instanceMethod yX0_buyingError ∈ GW := List.mem_filter.mpr ⟨List.mem_of_getElem? (i := 218) (by decide +kernel), rfl⟩
theorem gw_219 : Cond.selects RX0 yX0_buyingError yX0_buyingError ∈ GW := List.mem_filter.mpr ⟨List.mem_of_getElem? (i := 219) (by decide +kernel), rfl⟩
theorem gw_220 : Cond.code yX0_buyingError cX0_buyingError 4 (some .int) ∈ GW := List.mem_filter.mpr ⟨List.mem_of_getElem? (i := 220) rfl, rfl⟩
theorem gw_222 : Cond.static yX6_outside ∈ GW := List.mem_filter.mpr ⟨List.mem_of_getElem? (i := 222) (by decide +kernel), rfl⟩
theorem gw_223 : Cond.code yX6_outside cX6_outside 3 (some .boolean) ∈ GW := List.mem_filter.mpr ⟨List.mem_of_getElem? (i := 223) rfl, rfl⟩
theorem gw_224 : Cond.methodLink RX0 86 yX0_spendable ∈ GW := List.mem_filter.mpr ⟨List.mem_of_getElem? (i := 224) (by decide +kernel), rfl⟩
theorem gw_226 : Cond.instanceMethod yX0_spendable ∈ GW := List.mem_filter.mpr ⟨List.mem_of_getElem? (i := 226) (by decide +kernel), rfl⟩
theorem gw_227 : Cond.code yX0_spendable cX0_spendable 1 (some .int) ∈ GW := List.mem_filter.mpr ⟨List.mem_of_getElem? (i := 227) rfl, rfl⟩
theorem gw_228 : Cond.methodLink RX0 68 yX5_numberOfKind ∈ GW := List.mem_filter.mpr ⟨List.mem_of_getElem? (i := 228) (by decide +kernel), rfl⟩
theorem gw_229 : Cond.instanceMethod yX5_numberOfKind ∈ GW := List.mem_filter.mpr ⟨List.mem_of_getElem? (i := 229) (by decide +kernel), rfl⟩
theorem gw_230 : Cond.selects RX5 yX5_numberOfKind yX5_numberOfKind ∈ GW := List.mem_filter.mpr ⟨List.mem_of_getElem? (i := 230) (by decide +kernel), rfl⟩
theorem gw_231 : Cond.code yX5_numberOfKind cX5_numberOfKind 4 (some .int) ∈ GW := List.mem_filter.mpr ⟨List.mem_of_getElem? (i := 231) rfl, rfl⟩
theorem gw_233 : Cond.static yX6_kindOf ∈ GW := List.mem_filter.mpr ⟨List.mem_of_getElem? (i := 233) (by decide +kernel), rfl⟩
theorem gw_234 : Cond.code yX6_kindOf cX6_kindOf 1 (some .int) ∈ GW := List.mem_filter.mpr ⟨List.mem_of_getElem? (i := 234) rfl, rfl⟩
theorem gw_235 : Cond.methodLink RX5 50 yX5_numberAt ∈ GW := List.mem_filter.mpr ⟨List.mem_of_getElem? (i := 235) (by decide +kernel), rfl⟩
theorem gw_236 : Cond.instanceMethod yX5_numberAt ∈ GW := List.mem_filter.mpr ⟨List.mem_of_getElem? (i := 236) (by decide +kernel), rfl⟩
theorem gw_237 : Cond.selects RX5 yX5_numberAt yX5_numberAt ∈ GW := List.mem_filter.mpr ⟨List.mem_of_getElem? (i := 237) (by decide +kernel), rfl⟩
theorem gw_238 : Cond.code yX5_numberAt cX5_numberAt 2 (some .int) ∈ GW := List.mem_filter.mpr ⟨List.mem_of_getElem? (i := 238) rfl, rfl⟩
theorem gw_239 : Cond.methodLink RX5 43 yX2_at ∈ GW := List.mem_filter.mpr ⟨List.mem_of_getElem? (i := 239) (by decide +kernel), rfl⟩
theorem gw_240 : Cond.instanceMethod yX2_at ∈ GW := List.mem_filter.mpr ⟨List.mem_of_getElem? (i := 240) (by decide +kernel), rfl⟩
theorem gw_241 : Cond.selects RX2 yX2_at yX2_at ∈ GW := List.mem_filter.mpr ⟨List.mem_of_getElem? (i := 241) (by decide +kernel), rfl⟩
theorem gw_242 : Cond.code yX2_at cX2_at 2 (some .int) ∈ GW := List.mem_filter.mpr ⟨List.mem_of_getElem? (i := 242) rfl, rfl⟩
theorem gw_243 : Cond.methodLink RX0 93 yX0_freeAt ∈ GW := List.mem_filter.mpr ⟨List.mem_of_getElem? (i := 243) (by decide +kernel), rfl⟩
theorem gw_245 : Cond.instanceMethod yX0_freeAt ∈ GW := List.mem_filter.mpr ⟨List.mem_of_getElem? (i := 245) (by decide +kernel), rfl⟩
theorem gw_246 : Cond.code yX0_freeAt cX0_freeAt 2 (some .int) ∈ GW := List.mem_filter.mpr ⟨List.mem_of_getElem? (i := 246) rfl, rfl⟩
theorem gw_247 : Cond.methodLink RX0 72 yX2_at ∈ GW := List.mem_filter.mpr ⟨List.mem_of_getElem? (i := 247) (by decide +kernel), rfl⟩
theorem gw_248 : Cond.methodLink RX0 75 yX5_numberAt ∈ GW := List.mem_filter.mpr ⟨List.mem_of_getElem? (i := 248) (by decide +kernel), rfl⟩
theorem gw_249 : Cond.methodLink RX6 40 yX1_record ∈ GW := List.mem_filter.mpr ⟨List.mem_of_getElem? (i := 249) (by decide +kernel), rfl⟩
theorem gw_250 : Cond.instanceMethod yX1_record ∈ GW := List.mem_filter.mpr ⟨List.mem_of_getElem? (i := 250) (by decide +kernel), rfl⟩
theorem gw_251 : Cond.selects RX1 yX1_record yX1_record ∈ GW := List.mem_filter.mpr ⟨List.mem_of_getElem? (i := 251) (by decide +kernel), rfl⟩
theorem gw_252 : Cond.code yX1_record cX1_record 3 none ∈ GW := List.mem_filter.mpr ⟨List.mem_of_getElem? (i := 252) rfl, rfl⟩
theorem gw_253 : Cond.methodLink RX1 22 yX3_copyFrom ∈ GW := List.mem_filter.mpr ⟨List.mem_of_getElem? (i := 253) (by decide +kernel), rfl⟩
theorem gw_254 : Cond.instanceMethod yX3_copyFrom ∈ GW := List.mem_filter.mpr ⟨List.mem_of_getElem? (i := 254) (by decide +kernel), rfl⟩
theorem gw_255 : Cond.selects RX3 yX3_copyFrom yX3_copyFrom ∈ GW := List.mem_filter.mpr ⟨List.mem_of_getElem? (i := 255) (by decide +kernel), rfl⟩
theorem gw_256 : Cond.code yX3_copyFrom cX3_copyFrom 2 none ∈ GW := List.mem_filter.mpr ⟨List.mem_of_getElem? (i := 256) rfl, rfl⟩
theorem gw_257 : Cond.methodLink RX3 22 yX0_copyFrom ∈ GW := List.mem_filter.mpr ⟨List.mem_of_getElem? (i := 257) (by decide +kernel), rfl⟩
theorem gw_258 : Cond.instanceMethod yX0_copyFrom ∈ GW := List.mem_filter.mpr ⟨List.mem_of_getElem? (i := 258) (by decide +kernel), rfl⟩
theorem gw_259 : Cond.selects RX0 yX0_copyFrom yX0_copyFrom ∈ GW := List.mem_filter.mpr ⟨List.mem_of_getElem? (i := 259) (by decide +kernel), rfl⟩
theorem gw_260 : Cond.code yX0_copyFrom cX0_copyFrom 2 none ∈ GW := List.mem_filter.mpr ⟨List.mem_of_getElem? (i := 260) rfl, rfl⟩
theorem gw_261 : Cond.methodLink RX0 49 yX5_copyFrom ∈ GW := List.mem_filter.mpr ⟨List.mem_of_getElem? (i := 261) (by decide +kernel), rfl⟩
theorem gw_262 : Cond.instanceMethod yX5_copyFrom ∈ GW := List.mem_filter.mpr ⟨List.mem_of_getElem? (i := 262) (by decide +kernel), rfl⟩
theorem gw_263 : Cond.selects RX5 yX5_copyFrom yX5_copyFrom ∈ GW := List.mem_filter.mpr ⟨List.mem_of_getElem? (i := 263) (by decide +kernel), rfl⟩
theorem gw_264 : Cond.code yX5_copyFrom cX5_copyFrom 2 none ∈ GW := List.mem_filter.mpr ⟨List.mem_of_getElem? (i := 264) rfl, rfl⟩
theorem gw_265 : Cond.methodLink RX5 29 yX2_copyFrom ∈ GW := List.mem_filter.mpr ⟨List.mem_of_getElem? (i := 265) (by decide +kernel), rfl⟩
theorem gw_266 : Cond.instanceMethod yX2_copyFrom ∈ GW := List.mem_filter.mpr ⟨List.mem_of_getElem? (i := 266) (by decide +kernel), rfl⟩
theorem gw_267 : Cond.selects RX2 yX2_copyFrom yX2_copyFrom ∈ GW := List.mem_filter.mpr ⟨List.mem_of_getElem? (i := 267) (by decide +kernel), rfl⟩
theorem gw_268 : Cond.code yX2_copyFrom cX2_copyFrom 2 none ∈ GW := List.mem_filter.mpr ⟨List.mem_of_getElem? (i := 268) rfl, rfl⟩
theorem gw_269 : Cond.methodLink RX2 25 Lib.Math.min.name ∈ GW := List.mem_filter.mpr ⟨List.mem_of_getElem? (i := 269) (by decide +kernel), rfl⟩
theorem gw_270 : Cond.static Lib.Math.min.name ∈ GW := List.mem_filter.mpr ⟨List.mem_of_getElem? (i := 270) (by decide +kernel), rfl⟩
theorem gw_271 : Cond.code Lib.Math.min.name Lib.Math.min.code 2 (some .int) ∈ GW := List.mem_filter.mpr ⟨List.mem_of_getElem? (i := 271) rfl, rfl⟩
theorem gw_272 : Cond.methodLink RX2 28 arraycopyName ∈ GW := List.mem_filter.mpr ⟨List.mem_of_getElem? (i := 272) (by decide +kernel), rfl⟩
theorem gw_273 : Cond.static arraycopyName ∈ GW := List.mem_filter.mpr ⟨List.mem_of_getElem? (i := 273) (by decide +kernel), rfl⟩
theorem gw_274 : Cond.native arraycopyName ∈ GW := List.mem_filter.mpr ⟨List.mem_of_getElem? (i := 274) (by decide +kernel), rfl⟩
theorem gw_275 : Cond.methodLink RX0 53 yX2_copyFrom ∈ GW := List.mem_filter.mpr ⟨List.mem_of_getElem? (i := 275) (by decide +kernel), rfl⟩
theorem gw_276 : Cond.methodLink RX1 29 Lib.Math.min.name ∈ GW := List.mem_filter.mpr ⟨List.mem_of_getElem? (i := 276) (by decide +kernel), rfl⟩
theorem gw_277 : Cond.methodLink RX6 44 yX0_purchase ∈ GW := List.mem_filter.mpr ⟨List.mem_of_getElem? (i := 277) (by decide +kernel), rfl⟩
theorem gw_278 : Cond.instanceMethod yX0_purchase ∈ GW := List.mem_filter.mpr ⟨List.mem_of_getElem? (i := 278) (by decide +kernel), rfl⟩
theorem gw_279 : Cond.selects RX0 yX0_purchase yX0_purchase ∈ GW := List.mem_filter.mpr ⟨List.mem_of_getElem? (i := 279) (by decide +kernel), rfl⟩
theorem gw_280 : Cond.code yX0_purchase cX0_purchase 5 (some .int) ∈ GW := List.mem_filter.mpr ⟨List.mem_of_getElem? (i := 280) rfl, rfl⟩
theorem gw_281 : Cond.methodLink RX0 96 yX5_addNew ∈ GW := List.mem_filter.mpr ⟨List.mem_of_getElem? (i := 281) (by decide +kernel), rfl⟩
theorem gw_282 : Cond.instanceMethod yX5_addNew ∈ GW := List.mem_filter.mpr ⟨List.mem_of_getElem? (i := 282) (by decide +kernel), rfl⟩
theorem gw_283 : Cond.selects RX5 yX5_addNew yX5_addNew ∈ GW := List.mem_filter.mpr ⟨List.mem_of_getElem? (i := 283) (by decide +kernel), rfl⟩
theorem gw_284 : Cond.code yX5_addNew cX5_addNew 2 none ∈ GW := List.mem_filter.mpr ⟨List.mem_of_getElem? (i := 284) rfl, rfl⟩
theorem gw_285 : Cond.methodLink RX5 37 yX2_put ∈ GW := List.mem_filter.mpr ⟨List.mem_of_getElem? (i := 285) (by decide +kernel), rfl⟩
theorem gw_286 : Cond.methodLink RX5 40 yX2_add ∈ GW := List.mem_filter.mpr ⟨List.mem_of_getElem? (i := 286) (by decide +kernel), rfl⟩
theorem gw_287 : Cond.instanceMethod yX2_add ∈ GW := List.mem_filter.mpr ⟨List.mem_of_getElem? (i := 287) (by decide +kernel), rfl⟩
theorem gw_288 : Cond.selects RX2 yX2_add yX2_add ∈ GW := List.mem_filter.mpr ⟨List.mem_of_getElem? (i := 288) (by decide +kernel), rfl⟩
theorem gw_289 : Cond.code yX2_add cX2_add 3 none ∈ GW := List.mem_filter.mpr ⟨List.mem_of_getElem? (i := 289) rfl, rfl⟩
theorem gw_290 : Cond.methodLink RX0 100 yX0_spend ∈ GW := List.mem_filter.mpr ⟨List.mem_of_getElem? (i := 290) (by decide +kernel), rfl⟩
theorem gw_292 : Cond.instanceMethod yX0_spend ∈ GW := List.mem_filter.mpr ⟨List.mem_of_getElem? (i := 292) (by decide +kernel), rfl⟩
theorem gw_293 : Cond.code yX0_spend cX0_spend 2 none ∈ GW := List.mem_filter.mpr ⟨List.mem_of_getElem? (i := 293) rfl, rfl⟩
theorem gw_294 : Cond.methodLink "RibbedLoansLaw" 83 yX6_restore ∈ GW := List.mem_filter.mpr ⟨List.mem_of_getElem? (i := 294) (by decide +kernel), rfl⟩
theorem gw_295 : Cond.instanceMethod yX6_restore ∈ GW := List.mem_filter.mpr ⟨List.mem_of_getElem? (i := 295) (by decide +kernel), rfl⟩
theorem gw_296 : Cond.selects RX6 yX6_restore yX6_restore ∈ GW := List.mem_filter.mpr ⟨List.mem_of_getElem? (i := 296) (by decide +kernel), rfl⟩
theorem gw_297 : Cond.code yX6_restore cX6_restore 2 (some .int) ∈ GW := List.mem_filter.mpr ⟨List.mem_of_getElem? (i := 297) rfl, rfl⟩
theorem gw_298 : Cond.methodLink RX6 101 yX6_outside ∈ GW := List.mem_filter.mpr ⟨List.mem_of_getElem? (i := 298) (by decide +kernel), rfl⟩
theorem gw_299 : Cond.methodLink RX6 113 yX3_isKept ∈ GW := List.mem_filter.mpr ⟨List.mem_of_getElem? (i := 299) (by decide +kernel), rfl⟩
theorem gw_300 : Cond.instanceMethod yX3_isKept ∈ GW := List.mem_filter.mpr ⟨List.mem_of_getElem? (i := 300) (by decide +kernel), rfl⟩
set_option maxRecDepth 20000 in
theorem gw_301 : Cond.selects RX3 yX3_isKept yX3_isKept ∈ GW := List.mem_filter.mpr ⟨List.mem_of_getElem? (i := 301) (by decide +kernel), rfl⟩
set_option maxRecDepth 20000 in
theorem gw_302 : Cond.code yX3_isKept cX3_isKept 2 (some .boolean) ∈ GW := List.mem_filter.mpr ⟨List.mem_of_getElem? (i := 302) rfl, rfl⟩
set_option maxRecDepth 20000 in
theorem gw_303 : Cond.methodLink RX6 117 yX3_bringUp ∈ GW := List.mem_filter.mpr ⟨List.mem_of_getElem? (i := 303) (by decide +kernel), rfl⟩
set_option maxRecDepth 20000 in
theorem gw_304 : Cond.instanceMethod yX3_bringUp ∈ GW := List.mem_filter.mpr ⟨List.mem_of_getElem? (i := 304) (by decide +kernel), rfl⟩
set_option maxRecDepth 20000 in
theorem gw_305 : Cond.selects RX3 yX3_bringUp yX3_bringUp ∈ GW := List.mem_filter.mpr ⟨List.mem_of_getElem? (i := 305) (by decide +kernel), rfl⟩
set_option maxRecDepth 20000 in
theorem gw_306 : Cond.code yX3_bringUp cX3_bringUp 2 none ∈ GW := List.mem_filter.mpr ⟨List.mem_of_getElem? (i := 306) rfl, rfl⟩
set_option maxRecDepth 20000 in
theorem gw_307 : Cond.methodLink RX3 33 yX3_snapshot ∈ GW := List.mem_filter.mpr ⟨List.mem_of_getElem? (i := 307) (by decide +kernel), rfl⟩
set_option maxRecDepth 20000 in
theorem gw_309 : Cond.instanceMethod yX3_snapshot ∈ GW := List.mem_filter.mpr ⟨List.mem_of_getElem? (i := 309) (by decide +kernel), rfl⟩
set_option maxRecDepth 20000 in
theorem gw_310 : Cond.code yX3_snapshot cX3_snapshot 2 (some (.object "RibbedLoans$City")) ∈ GW := List.mem_filter.mpr ⟨List.mem_of_getElem? (i := 310) rfl, rfl⟩
set_option maxRecDepth 20000 in
theorem gw_311 : Cond.methodLink "RibbedLoansLaw" 53 yX6_undo ∈ GW := List.mem_filter.mpr ⟨List.mem_of_getElem? (i := 311) (by decide +kernel), rfl⟩
set_option maxRecDepth 20000 in
theorem gw_312 : Cond.instanceMethod yX6_undo ∈ GW := List.mem_filter.mpr ⟨List.mem_of_getElem? (i := 312) (by decide +kernel), rfl⟩
set_option maxRecDepth 20000 in
theorem gw_313 : Cond.selects RX6 yX6_undo yX6_undo ∈ GW := List.mem_filter.mpr ⟨List.mem_of_getElem? (i := 313) (by decide +kernel), rfl⟩
set_option maxRecDepth 20000 in
theorem gw_314 : Cond.code yX6_undo cX6_undo 1 (some .int) ∈ GW := List.mem_filter.mpr ⟨List.mem_of_getElem? (i := 314) rfl, rfl⟩
set_option maxRecDepth 20000 in
theorem gw_315 : Cond.methodLink RX6 123 yX1_moveLatestTo ∈ GW := List.mem_filter.mpr ⟨List.mem_of_getElem? (i := 315) (by decide +kernel), rfl⟩
set_option maxRecDepth 20000 in
theorem gw_316 : Cond.instanceMethod yX1_moveLatestTo ∈ GW := List.mem_filter.mpr ⟨List.mem_of_getElem? (i := 316) (by decide +kernel), rfl⟩
set_option maxRecDepth 20000 in
theorem gw_317 : Cond.selects RX1 yX1_moveLatestTo yX1_moveLatestTo ∈ GW := List.mem_filter.mpr ⟨List.mem_of_getElem? (i := 317) (by decide +kernel), rfl⟩
set_option maxRecDepth 20000 in
theorem gw_318 : Cond.code yX1_moveLatestTo cX1_moveLatestTo 3 none ∈ GW := List.mem_filter.mpr ⟨List.mem_of_getElem? (i := 318) rfl, rfl⟩
set_option maxRecDepth 20000 in
theorem gw_319 : Cond.methodLink "RibbedLoansLaw" 94 yL_lot ∈ GW := List.mem_filter.mpr ⟨List.mem_of_getElem? (i := 319) (by decide +kernel), rfl⟩
set_option maxRecDepth 20000 in
theorem gw_320 : Cond.static yL_lot ∈ GW := List.mem_filter.mpr ⟨List.mem_of_getElem? (i := 320) (by decide +kernel), rfl⟩
set_option maxRecDepth 20000 in
theorem gw_321 : Cond.code yL_lot cL_lot 2 (some .int) ∈ GW := List.mem_filter.mpr ⟨List.mem_of_getElem? (i := 321) rfl, rfl⟩
set_option maxRecDepth 20000 in
theorem gw_322 : Cond.constant "RibbedLoansLaw" 7 (-1648374959 : Int32) ∈ GW := List.mem_filter.mpr ⟨List.mem_of_getElem? (i := 322) (by decide +kernel), rfl⟩
set_option maxRecDepth 20000 in
theorem gw_323 : Cond.methodLink "RibbedLoansLaw" 41 yL_low ∈ GW := List.mem_filter.mpr ⟨List.mem_of_getElem? (i := 323) (by decide +kernel), rfl⟩
set_option maxRecDepth 20000 in
theorem gw_324 : Cond.static yL_low ∈ GW := List.mem_filter.mpr ⟨List.mem_of_getElem? (i := 324) (by decide +kernel), rfl⟩
set_option maxRecDepth 20000 in
theorem gw_325 : Cond.code yL_low cL_low 2 (some .int) ∈ GW := List.mem_filter.mpr ⟨List.mem_of_getElem? (i := 325) rfl, rfl⟩
set_option maxRecDepth 20000 in
theorem gw_326 : Cond.constant "RibbedLoansLaw" 8 (2147483647 : Int32) ∈ GW := List.mem_filter.mpr ⟨List.mem_of_getElem? (i := 326) (by decide +kernel), rfl⟩
set_option maxRecDepth 20000 in
theorem gw_327 : Cond.methodLink "RibbedLoansLaw" 87 yL_places ∈ GW := List.mem_filter.mpr ⟨List.mem_of_getElem? (i := 327) (by decide +kernel), rfl⟩
set_option maxRecDepth 20000 in
theorem gw_328 : Cond.static yL_places ∈ GW := List.mem_filter.mpr ⟨List.mem_of_getElem? (i := 328) (by decide +kernel), rfl⟩
set_option maxRecDepth 20000 in
theorem gw_329 : Cond.code yL_places cL_places 12 (some .boolean) ∈ GW := List.mem_filter.mpr ⟨List.mem_of_getElem? (i := 329) rfl, rfl⟩
set_option maxRecDepth 20000 in
theorem gw_330 : Cond.methodLink "RibbedLoansLaw" 9 yX6_count ∈ GW := List.mem_filter.mpr ⟨List.mem_of_getElem? (i := 330) (by decide +kernel), rfl⟩
set_option maxRecDepth 20000 in
theorem gw_331 : Cond.instanceMethod yX6_count ∈ GW := List.mem_filter.mpr ⟨List.mem_of_getElem? (i := 331) (by decide +kernel), rfl⟩
set_option maxRecDepth 20000 in
theorem gw_332 : Cond.selects RX6 yX6_count yX6_count ∈ GW := List.mem_filter.mpr ⟨List.mem_of_getElem? (i := 332) (by decide +kernel), rfl⟩
set_option maxRecDepth 20000 in
theorem gw_333 : Cond.code yX6_count cX6_count 4 (some .int) ∈ GW := List.mem_filter.mpr ⟨List.mem_of_getElem? (i := 333) rfl, rfl⟩
set_option maxRecDepth 20000 in
theorem gw_334 : Cond.methodLink RX6 167 yX5_numberOfKind ∈ GW := List.mem_filter.mpr ⟨List.mem_of_getElem? (i := 334) (by decide +kernel), rfl⟩
set_option maxRecDepth 20000 in
theorem gw_335 : Cond.methodLink RX6 170 yX5_numberBroken ∈ GW := List.mem_filter.mpr ⟨List.mem_of_getElem? (i := 335) (by decide +kernel), rfl⟩
set_option maxRecDepth 20000 in
theorem gw_336 : Cond.instanceMethod yX5_numberBroken ∈ GW := List.mem_filter.mpr ⟨List.mem_of_getElem? (i := 336) (by decide +kernel), rfl⟩
set_option maxRecDepth 20000 in
theorem gw_337 : Cond.selects RX5 yX5_numberBroken yX5_numberBroken ∈ GW := List.mem_filter.mpr ⟨List.mem_of_getElem? (i := 337) (by decide +kernel), rfl⟩
set_option maxRecDepth 20000 in
theorem gw_338 : Cond.code yX5_numberBroken cX5_numberBroken 3 (some .int) ∈ GW := List.mem_filter.mpr ⟨List.mem_of_getElem? (i := 338) rfl, rfl⟩
set_option maxRecDepth 20000 in
theorem gw_339 : Cond.methodLink RX5 53 yX5_isBroken ∈ GW := List.mem_filter.mpr ⟨List.mem_of_getElem? (i := 339) (by decide +kernel), rfl⟩
set_option maxRecDepth 20000 in
theorem gw_340 : Cond.instanceMethod yX5_isBroken ∈ GW := List.mem_filter.mpr ⟨List.mem_of_getElem? (i := 340) (by decide +kernel), rfl⟩
set_option maxRecDepth 20000 in
theorem gw_341 : Cond.selects RX5 yX5_isBroken yX5_isBroken ∈ GW := List.mem_filter.mpr ⟨List.mem_of_getElem? (i := 341) (by decide +kernel), rfl⟩
set_option maxRecDepth 20000 in
theorem gw_342 : Cond.code yX5_isBroken cX5_isBroken 2 (some .boolean) ∈ GW := List.mem_filter.mpr ⟨List.mem_of_getElem? (i := 342) rfl, rfl⟩
set_option maxRecDepth 20000 in
theorem gw_343 : Cond.methodLink RX6 180 yX2_sum ∈ GW := List.mem_filter.mpr ⟨List.mem_of_getElem? (i := 343) (by decide +kernel), rfl⟩
set_option maxRecDepth 20000 in
theorem gw_344 : Cond.instanceMethod yX2_sum ∈ GW := List.mem_filter.mpr ⟨List.mem_of_getElem? (i := 344) (by decide +kernel), rfl⟩
set_option maxRecDepth 20000 in
theorem gw_345 : Cond.selects RX2 yX2_sum yX2_sum ∈ GW := List.mem_filter.mpr ⟨List.mem_of_getElem? (i := 345) (by decide +kernel), rfl⟩
set_option maxRecDepth 20000 in
theorem gw_346 : Cond.code yX2_sum cX2_sum 6 (some .int) ∈ GW := List.mem_filter.mpr ⟨List.mem_of_getElem? (i := 346) rfl, rfl⟩
set_option maxRecDepth 20000 in
theorem gw_347 : Cond.methodLink RX6 200 yX3_numberKept ∈ GW := List.mem_filter.mpr ⟨List.mem_of_getElem? (i := 347) (by decide +kernel), rfl⟩
set_option maxRecDepth 20000 in
theorem gw_348 : Cond.instanceMethod yX3_numberKept ∈ GW := List.mem_filter.mpr ⟨List.mem_of_getElem? (i := 348) (by decide +kernel), rfl⟩
set_option maxRecDepth 20000 in
theorem gw_349 : Cond.selects RX3 yX3_numberKept yX3_numberKept ∈ GW := List.mem_filter.mpr ⟨List.mem_of_getElem? (i := 349) (by decide +kernel), rfl⟩
set_option maxRecDepth 20000 in
theorem gw_350 : Cond.code yX3_numberKept cX3_numberKept 1 (some .int) ∈ GW := List.mem_filter.mpr ⟨List.mem_of_getElem? (i := 350) rfl, rfl⟩
set_option maxRecDepth 20000 in
theorem gw_351 : Cond.methodLink "RibbedLoansLaw" 15 yX6_umbrella ∈ GW := List.mem_filter.mpr ⟨List.mem_of_getElem? (i := 351) (by decide +kernel), rfl⟩
set_option maxRecDepth 20000 in
theorem gw_352 : Cond.instanceMethod yX6_umbrella ∈ GW := List.mem_filter.mpr ⟨List.mem_of_getElem? (i := 352) (by decide +kernel), rfl⟩
set_option maxRecDepth 20000 in
theorem gw_353 : Cond.selects RX6 yX6_umbrella yX6_umbrella ∈ GW := List.mem_filter.mpr ⟨List.mem_of_getElem? (i := 353) (by decide +kernel), rfl⟩
set_option maxRecDepth 20000 in
theorem gw_354 : Cond.code yX6_umbrella cX6_umbrella 5 (some .int) ∈ GW := List.mem_filter.mpr ⟨List.mem_of_getElem? (i := 354) rfl, rfl⟩
set_option maxRecDepth 20000 in
theorem gw_355 : Cond.methodLink RX6 206 yX2_at ∈ GW := List.mem_filter.mpr ⟨List.mem_of_getElem? (i := 355) (by decide +kernel), rfl⟩
set_option maxRecDepth 20000 in
theorem gw_356 : Cond.methodLink RX6 209 yX6_kindOf ∈ GW := List.mem_filter.mpr ⟨List.mem_of_getElem? (i := 356) (by decide +kernel), rfl⟩
set_option maxRecDepth 20000 in
theorem gw_357 : Cond.methodLink RX6 212 yX6_ownerOf ∈ GW := List.mem_filter.mpr ⟨List.mem_of_getElem? (i := 357) (by decide +kernel), rfl⟩
set_option maxRecDepth 20000 in
theorem gw_358 : Cond.static yX6_ownerOf ∈ GW := List.mem_filter.mpr ⟨List.mem_of_getElem? (i := 358) (by decide +kernel), rfl⟩
set_option maxRecDepth 20000 in
theorem gw_359 : Cond.code yX6_ownerOf cX6_ownerOf 1 (some .int) ∈ GW := List.mem_filter.mpr ⟨List.mem_of_getElem? (i := 359) rfl, rfl⟩
set_option maxRecDepth 20000 in
theorem gw_360 : Cond.methodLink RX6 218 yX5_isBroken ∈ GW := List.mem_filter.mpr ⟨List.mem_of_getElem? (i := 360) (by decide +kernel), rfl⟩
set_option maxRecDepth 20000 in
theorem gw_361 : Cond.methodLink "RibbedLoansLaw" 21 yX6_person ∈ GW := List.mem_filter.mpr ⟨List.mem_of_getElem? (i := 361) (by decide +kernel), rfl⟩
set_option maxRecDepth 20000 in
theorem gw_362 : Cond.instanceMethod yX6_person ∈ GW := List.mem_filter.mpr ⟨List.mem_of_getElem? (i := 362) (by decide +kernel), rfl⟩
set_option maxRecDepth 20000 in
theorem gw_363 : Cond.selects RX6 yX6_person yX6_person ∈ GW := List.mem_filter.mpr ⟨List.mem_of_getElem? (i := 363) (by decide +kernel), rfl⟩
set_option maxRecDepth 20000 in
theorem gw_364 : Cond.code yX6_person cX6_person 5 (some .int) ∈ GW := List.mem_filter.mpr ⟨List.mem_of_getElem? (i := 364) rfl, rfl⟩
set_option maxRecDepth 20000 in
theorem gw_365 : Cond.methodLink RX6 242 yX0_inHand ∈ GW := List.mem_filter.mpr ⟨List.mem_of_getElem? (i := 365) (by decide +kernel), rfl⟩
set_option maxRecDepth 20000 in
theorem gw_366 : Cond.instanceMethod yX0_inHand ∈ GW := List.mem_filter.mpr ⟨List.mem_of_getElem? (i := 366) (by decide +kernel), rfl⟩
set_option maxRecDepth 20000 in
theorem gw_367 : Cond.selects RX0 yX0_inHand yX0_inHand ∈ GW := List.mem_filter.mpr ⟨List.mem_of_getElem? (i := 367) (by decide +kernel), rfl⟩
set_option maxRecDepth 20000 in
theorem gw_368 : Cond.code yX0_inHand cX0_inHand 2 (some .int) ∈ GW := List.mem_filter.mpr ⟨List.mem_of_getElem? (i := 368) rfl, rfl⟩
set_option maxRecDepth 20000 in
theorem gw_369 : Cond.methodLink RX0 78 yX5_nthAt ∈ GW := List.mem_filter.mpr ⟨List.mem_of_getElem? (i := 369) (by decide +kernel), rfl⟩
set_option maxRecDepth 20000 in
theorem gw_370 : Cond.instanceMethod yX5_nthAt ∈ GW := List.mem_filter.mpr ⟨List.mem_of_getElem? (i := 370) (by decide +kernel), rfl⟩
set_option maxRecDepth 20000 in
theorem gw_371 : Cond.selects RX5 yX5_nthAt yX5_nthAt ∈ GW := List.mem_filter.mpr ⟨List.mem_of_getElem? (i := 371) (by decide +kernel), rfl⟩
set_option maxRecDepth 20000 in
theorem gw_372 : Cond.code yX5_nthAt cX5_nthAt 5 (some .int) ∈ GW := List.mem_filter.mpr ⟨List.mem_of_getElem? (i := 372) rfl, rfl⟩
set_option maxRecDepth 20000 in
theorem gw_373 : Cond.methodLink "RibbedLoansLaw" 24 yX6_stand ∈ GW := List.mem_filter.mpr ⟨List.mem_of_getElem? (i := 373) (by decide +kernel), rfl⟩
set_option maxRecDepth 20000 in
theorem gw_374 : Cond.instanceMethod yX6_stand ∈ GW := List.mem_filter.mpr ⟨List.mem_of_getElem? (i := 374) (by decide +kernel), rfl⟩
set_option maxRecDepth 20000 in
theorem gw_375 : Cond.selects RX6 yX6_stand yX6_stand ∈ GW := List.mem_filter.mpr ⟨List.mem_of_getElem? (i := 375) (by decide +kernel), rfl⟩
set_option maxRecDepth 20000 in
theorem gw_376 : Cond.code yX6_stand cX6_stand 4 (some .int) ∈ GW := List.mem_filter.mpr ⟨List.mem_of_getElem? (i := 376) rfl, rfl⟩
set_option maxRecDepth 20000 in
theorem gw_377 : Cond.methodLink RX6 227 yX5_numberAt ∈ GW := List.mem_filter.mpr ⟨List.mem_of_getElem? (i := 377) (by decide +kernel), rfl⟩
set_option maxRecDepth 20000 in
theorem gw_378 : Cond.methodLink RX6 230 yX5_brokenAt ∈ GW := List.mem_filter.mpr ⟨List.mem_of_getElem? (i := 378) (by decide +kernel), rfl⟩
set_option maxRecDepth 20000 in
theorem gw_379 : Cond.instanceMethod yX5_brokenAt ∈ GW := List.mem_filter.mpr ⟨List.mem_of_getElem? (i := 379) (by decide +kernel), rfl⟩
set_option maxRecDepth 20000 in
theorem gw_380 : Cond.selects RX5 yX5_brokenAt yX5_brokenAt ∈ GW := List.mem_filter.mpr ⟨List.mem_of_getElem? (i := 380) (by decide +kernel), rfl⟩
set_option maxRecDepth 20000 in
theorem gw_381 : Cond.code yX5_brokenAt cX5_brokenAt 4 (some .int) ∈ GW := List.mem_filter.mpr ⟨List.mem_of_getElem? (i := 381) rfl, rfl⟩
set_option maxRecDepth 20000 in
theorem gw_382 : Cond.methodLink RX6 233 yX5_bestAt ∈ GW := List.mem_filter.mpr ⟨List.mem_of_getElem? (i := 382) (by decide +kernel), rfl⟩
set_option maxRecDepth 20000 in
theorem gw_383 : Cond.instanceMethod yX5_bestAt ∈ GW := List.mem_filter.mpr ⟨List.mem_of_getElem? (i := 383) (by decide +kernel), rfl⟩
set_option maxRecDepth 20000 in
theorem gw_384 : Cond.selects RX5 yX5_bestAt yX5_bestAt ∈ GW := List.mem_filter.mpr ⟨List.mem_of_getElem? (i := 384) (by decide +kernel), rfl⟩
set_option maxRecDepth 20000 in
theorem gw_385 : Cond.code yX5_bestAt cX5_bestAt 2 (some .int) ∈ GW := List.mem_filter.mpr ⟨List.mem_of_getElem? (i := 385) rfl, rfl⟩
set_option maxRecDepth 20000 in
theorem gw_386 : Cond.methodLink RX5 60 yX5_leastWornAt ∈ GW := List.mem_filter.mpr ⟨List.mem_of_getElem? (i := 386) (by decide +kernel), rfl⟩
set_option maxRecDepth 20000 in
theorem gw_387 : Cond.instanceMethod yX5_leastWornAt ∈ GW := List.mem_filter.mpr ⟨List.mem_of_getElem? (i := 387) (by decide +kernel), rfl⟩
set_option maxRecDepth 20000 in
theorem gw_388 : Cond.selects RX5 yX5_leastWornAt yX5_leastWornAt ∈ GW := List.mem_filter.mpr ⟨List.mem_of_getElem? (i := 388) (by decide +kernel), rfl⟩
set_option maxRecDepth 20000 in
theorem gw_389 : Cond.code yX5_leastWornAt cX5_leastWornAt 7 (some .int) ∈ GW := List.mem_filter.mpr ⟨List.mem_of_getElem? (i := 389) rfl, rfl⟩
set_option maxRecDepth 20000 in
theorem gw_390 : Cond.methodLink RX6 236 yX5_worstAt ∈ GW := List.mem_filter.mpr ⟨List.mem_of_getElem? (i := 390) (by decide +kernel), rfl⟩
set_option maxRecDepth 20000 in
theorem gw_391 : Cond.instanceMethod yX5_worstAt ∈ GW := List.mem_filter.mpr ⟨List.mem_of_getElem? (i := 391) (by decide +kernel), rfl⟩
set_option maxRecDepth 20000 in
theorem gw_392 : Cond.selects RX5 yX5_worstAt yX5_worstAt ∈ GW := List.mem_filter.mpr ⟨List.mem_of_getElem? (i := 392) (by decide +kernel), rfl⟩
set_option maxRecDepth 20000 in
theorem gw_393 : Cond.code yX5_worstAt cX5_worstAt 4 (some .int) ∈ GW := List.mem_filter.mpr ⟨List.mem_of_getElem? (i := 393) rfl, rfl⟩
set_option maxRecDepth 20000 in
theorem gw_394 : Cond.methodLink RX6 239 yX5_meanWearAt ∈ GW := List.mem_filter.mpr ⟨List.mem_of_getElem? (i := 394) (by decide +kernel), rfl⟩
set_option maxRecDepth 20000 in
theorem gw_395 : Cond.instanceMethod yX5_meanWearAt ∈ GW := List.mem_filter.mpr ⟨List.mem_of_getElem? (i := 395) (by decide +kernel), rfl⟩
set_option maxRecDepth 20000 in
theorem gw_396 : Cond.selects RX5 yX5_meanWearAt yX5_meanWearAt ∈ GW := List.mem_filter.mpr ⟨List.mem_of_getElem? (i := 396) (by decide +kernel), rfl⟩
set_option maxRecDepth 20000 in
theorem gw_397 : Cond.code yX5_meanWearAt cX5_meanWearAt 5 (some .int) ∈ GW := List.mem_filter.mpr ⟨List.mem_of_getElem? (i := 397) rfl, rfl⟩
set_option maxRecDepth 20000 in
theorem gw_398 : Cond.methodLink "RibbedLoansLaw" 91 yL_coins ∈ GW := List.mem_filter.mpr ⟨List.mem_of_getElem? (i := 398) (by decide +kernel), rfl⟩
set_option maxRecDepth 20000 in
theorem gw_399 : Cond.static yL_coins ∈ GW := List.mem_filter.mpr ⟨List.mem_of_getElem? (i := 399) (by decide +kernel), rfl⟩
set_option maxRecDepth 20000 in
theorem gw_400 : Cond.code yL_coins cL_coins 7 (some .boolean) ∈ GW := List.mem_filter.mpr ⟨List.mem_of_getElem? (i := 400) rfl, rfl⟩
set_option maxRecDepth 20000 in
theorem gw_401 : Cond.methodLink "RibbedLoansLaw" 27 yX6_feeIn ∈ GW := List.mem_filter.mpr ⟨List.mem_of_getElem? (i := 401) (by decide +kernel), rfl⟩
set_option maxRecDepth 20000 in
theorem gw_402 : Cond.instanceMethod yX6_feeIn ∈ GW := List.mem_filter.mpr ⟨List.mem_of_getElem? (i := 402) (by decide +kernel), rfl⟩
set_option maxRecDepth 20000 in
theorem gw_403 : Cond.selects RX6 yX6_feeIn yX6_feeIn ∈ GW := List.mem_filter.mpr ⟨List.mem_of_getElem? (i := 403) (by decide +kernel), rfl⟩
set_option maxRecDepth 20000 in
theorem gw_404 : Cond.code yX6_feeIn cX6_feeIn 4 (some .int) ∈ GW := List.mem_filter.mpr ⟨List.mem_of_getElem? (i := 404) rfl, rfl⟩
set_option maxRecDepth 20000 in
theorem gw_405 : Cond.methodLink RX6 254 yX0_hasOne ∈ GW := List.mem_filter.mpr ⟨List.mem_of_getElem? (i := 405) (by decide +kernel), rfl⟩
set_option maxRecDepth 20000 in
theorem gw_406 : Cond.instanceMethod yX0_hasOne ∈ GW := List.mem_filter.mpr ⟨List.mem_of_getElem? (i := 406) (by decide +kernel), rfl⟩
set_option maxRecDepth 20000 in
theorem gw_407 : Cond.selects RX0 yX0_hasOne yX0_hasOne ∈ GW := List.mem_filter.mpr ⟨List.mem_of_getElem? (i := 407) (by decide +kernel), rfl⟩
set_option maxRecDepth 20000 in
theorem gw_408 : Cond.code yX0_hasOne cX0_hasOne 2 (some .boolean) ∈ GW := List.mem_filter.mpr ⟨List.mem_of_getElem? (i := 408) rfl, rfl⟩
set_option maxRecDepth 20000 in
theorem gw_409 : Cond.methodLink RX6 257 yX0_feeAfter ∈ GW := List.mem_filter.mpr ⟨List.mem_of_getElem? (i := 409) (by decide +kernel), rfl⟩
set_option maxRecDepth 20000 in
theorem gw_410 : Cond.instanceMethod yX0_feeAfter ∈ GW := List.mem_filter.mpr ⟨List.mem_of_getElem? (i := 410) (by decide +kernel), rfl⟩
set_option maxRecDepth 20000 in
theorem gw_411 : Cond.selects RX0 yX0_feeAfter yX0_feeAfter ∈ GW := List.mem_filter.mpr ⟨List.mem_of_getElem? (i := 411) (by decide +kernel), rfl⟩
set_option maxRecDepth 20000 in
theorem gw_412 : Cond.code yX0_feeAfter cX0_feeAfter 7 (some .int) ∈ GW := List.mem_filter.mpr ⟨List.mem_of_getElem? (i := 412) rfl, rfl⟩
set_option maxRecDepth 20000 in
theorem gw_413 : Cond.methodLink RX0 129 yX0_inHand ∈ GW := List.mem_filter.mpr ⟨List.mem_of_getElem? (i := 413) (by decide +kernel), rfl⟩
set_option maxRecDepth 20000 in
theorem gw_415 : Cond.static yX6_wornBy ∈ GW := List.mem_filter.mpr ⟨List.mem_of_getElem? (i := 415) (by decide +kernel), rfl⟩
set_option maxRecDepth 20000 in
theorem gw_416 : Cond.code yX6_wornBy cX6_wornBy 4 (some .int) ∈ GW := List.mem_filter.mpr ⟨List.mem_of_getElem? (i := 416) rfl, rfl⟩
set_option maxRecDepth 20000 in
theorem gw_417 : Cond.methodLink RX6 266 Lib.Math.min.name ∈ GW := List.mem_filter.mpr ⟨List.mem_of_getElem? (i := 417) (by decide +kernel), rfl⟩
set_option maxRecDepth 20000 in
theorem gw_418 : Cond.methodLink RX0 138 Lib.Math.min.name ∈ GW := List.mem_filter.mpr ⟨List.mem_of_getElem? (i := 418) (by decide +kernel), rfl⟩
set_option maxRecDepth 20000 in
theorem gw_419 : Cond.methodLink "RibbedLoansLaw" 31 yX6_breaksIn ∈ GW := List.mem_filter.mpr ⟨List.mem_of_getElem? (i := 419) (by decide +kernel), rfl⟩
set_option maxRecDepth 20000 in
theorem gw_420 : Cond.instanceMethod yX6_breaksIn ∈ GW := List.mem_filter.mpr ⟨List.mem_of_getElem? (i := 420) (by decide +kernel), rfl⟩
set_option maxRecDepth 20000 in
theorem gw_421 : Cond.selects RX6 yX6_breaksIn yX6_breaksIn ∈ GW := List.mem_filter.mpr ⟨List.mem_of_getElem? (i := 421) (by decide +kernel), rfl⟩
set_option maxRecDepth 20000 in
theorem gw_422 : Cond.code yX6_breaksIn cX6_breaksIn 4 (some .int) ∈ GW := List.mem_filter.mpr ⟨List.mem_of_getElem? (i := 422) rfl, rfl⟩
set_option maxRecDepth 20000 in
theorem gw_423 : Cond.methodLink RX6 260 yX0_hoursToBreak ∈ GW := List.mem_filter.mpr ⟨List.mem_of_getElem? (i := 423) (by decide +kernel), rfl⟩
set_option maxRecDepth 20000 in
theorem gw_424 : Cond.instanceMethod yX0_hoursToBreak ∈ GW := List.mem_filter.mpr ⟨List.mem_of_getElem? (i := 424) (by decide +kernel), rfl⟩
set_option maxRecDepth 20000 in
theorem gw_425 : Cond.selects RX0 yX0_hoursToBreak yX0_hoursToBreak ∈ GW := List.mem_filter.mpr ⟨List.mem_of_getElem? (i := 425) (by decide +kernel), rfl⟩
set_option maxRecDepth 20000 in
theorem gw_426 : Cond.code yX0_hoursToBreak cX0_hoursToBreak 6 (some .int) ∈ GW := List.mem_filter.mpr ⟨List.mem_of_getElem? (i := 426) rfl, rfl⟩
set_option maxRecDepth 20000 in
theorem gw_427 : Cond.methodLink "RibbedLoansLaw" 98 yL_acts ∈ GW := List.mem_filter.mpr ⟨List.mem_of_getElem? (i := 427) (by decide +kernel), rfl⟩
set_option maxRecDepth 20000 in
theorem gw_428 : Cond.static yL_acts ∈ GW := List.mem_filter.mpr ⟨List.mem_of_getElem? (i := 428) (by decide +kernel), rfl⟩
set_option maxRecDepth 20000 in
theorem gw_429 : Cond.code yL_acts cL_acts 18 (some .boolean) ∈ GW := List.mem_filter.mpr ⟨List.mem_of_getElem? (i := 429) rfl, rfl⟩
set_option maxRecDepth 20000 in
theorem gw_430 : Cond.methodLink "RibbedLoansLaw" 47 yX6_borrow ∈ GW := List.mem_filter.mpr ⟨List.mem_of_getElem? (i := 430) (by decide +kernel), rfl⟩
set_option maxRecDepth 20000 in
theorem gw_431 : Cond.instanceMethod yX6_borrow ∈ GW := List.mem_filter.mpr ⟨List.mem_of_getElem? (i := 431) (by decide +kernel), rfl⟩
set_option maxRecDepth 20000 in
theorem gw_432 : Cond.selects RX6 yX6_borrow yX6_borrow ∈ GW := List.mem_filter.mpr ⟨List.mem_of_getElem? (i := 432) (by decide +kernel), rfl⟩
set_option maxRecDepth 20000 in
theorem gw_433 : Cond.code yX6_borrow cX6_borrow 4 (some .int) ∈ GW := List.mem_filter.mpr ⟨List.mem_of_getElem? (i := 433) rfl, rfl⟩
set_option maxRecDepth 20000 in
theorem gw_434 : Cond.methodLink RX6 53 yX0_lendingError ∈ GW := List.mem_filter.mpr ⟨List.mem_of_getElem? (i := 434) (by decide +kernel), rfl⟩
set_option maxRecDepth 20000 in
theorem gw_435 : Cond.instanceMethod yX0_lendingError ∈ GW := List.mem_filter.mpr ⟨List.mem_of_getElem? (i := 435) (by decide +kernel), rfl⟩
set_option maxRecDepth 20000 in
theorem gw_436 : Cond.selects RX0 yX0_lendingError yX0_lendingError ∈ GW := List.mem_filter.mpr ⟨List.mem_of_getElem? (i := 436) (by decide +kernel), rfl⟩
set_option maxRecDepth 20000 in
theorem gw_437 : Cond.code yX0_lendingError cX0_lendingError 4 (some .int) ∈ GW := List.mem_filter.mpr ⟨List.mem_of_getElem? (i := 437) rfl, rfl⟩
set_option maxRecDepth 20000 in
theorem gw_438 : Cond.methodLink RX0 103 yX0_wouldBorrow ∈ GW := List.mem_filter.mpr ⟨List.mem_of_getElem? (i := 438) (by decide +kernel), rfl⟩
set_option maxRecDepth 20000 in
theorem gw_440 : Cond.instanceMethod yX0_wouldBorrow ∈ GW := List.mem_filter.mpr ⟨List.mem_of_getElem? (i := 440) (by decide +kernel), rfl⟩
set_option maxRecDepth 20000 in
theorem gw_441 : Cond.code yX0_wouldBorrow cX0_wouldBorrow 2 (some .boolean) ∈ GW := List.mem_filter.mpr ⟨List.mem_of_getElem? (i := 441) rfl, rfl⟩
set_option maxRecDepth 20000 in
theorem gw_442 : Cond.methodLink RX0 107 yX5_bestAt ∈ GW := List.mem_filter.mpr ⟨List.mem_of_getElem? (i := 442) (by decide +kernel), rfl⟩
set_option maxRecDepth 20000 in
theorem gw_443 : Cond.methodLink RX6 56 yX0_lend ∈ GW := List.mem_filter.mpr ⟨List.mem_of_getElem? (i := 443) (by decide +kernel), rfl⟩
set_option maxRecDepth 20000 in
theorem gw_444 : Cond.instanceMethod yX0_lend ∈ GW := List.mem_filter.mpr ⟨List.mem_of_getElem? (i := 444) (by decide +kernel), rfl⟩
set_option maxRecDepth 20000 in
theorem gw_445 : Cond.selects RX0 yX0_lend yX0_lend ∈ GW := List.mem_filter.mpr ⟨List.mem_of_getElem? (i := 445) (by decide +kernel), rfl⟩
set_option maxRecDepth 20000 in
theorem gw_446 : Cond.code yX0_lend cX0_lend 4 (some .int) ∈ GW := List.mem_filter.mpr ⟨List.mem_of_getElem? (i := 446) rfl, rfl⟩
set_option maxRecDepth 20000 in
theorem gw_447 : Cond.methodLink RX0 110 yX0_handOut ∈ GW := List.mem_filter.mpr ⟨List.mem_of_getElem? (i := 447) (by decide +kernel), rfl⟩
set_option maxRecDepth 20000 in
theorem gw_449 : Cond.instanceMethod yX0_handOut ∈ GW := List.mem_filter.mpr ⟨List.mem_of_getElem? (i := 449) (by decide +kernel), rfl⟩
set_option maxRecDepth 20000 in
theorem gw_450 : Cond.code yX0_handOut cX0_handOut 3 none ∈ GW := List.mem_filter.mpr ⟨List.mem_of_getElem? (i := 450) rfl, rfl⟩
set_option maxRecDepth 20000 in
theorem gw_451 : Cond.methodLink RX0 113 yX5_move ∈ GW := List.mem_filter.mpr ⟨List.mem_of_getElem? (i := 451) (by decide +kernel), rfl⟩
set_option maxRecDepth 20000 in
theorem gw_452 : Cond.instanceMethod yX5_move ∈ GW := List.mem_filter.mpr ⟨List.mem_of_getElem? (i := 452) (by decide +kernel), rfl⟩
set_option maxRecDepth 20000 in
theorem gw_453 : Cond.selects RX5 yX5_move yX5_move ∈ GW := List.mem_filter.mpr ⟨List.mem_of_getElem? (i := 453) (by decide +kernel), rfl⟩
set_option maxRecDepth 20000 in
theorem gw_454 : Cond.code yX5_move cX5_move 3 none ∈ GW := List.mem_filter.mpr ⟨List.mem_of_getElem? (i := 454) rfl, rfl⟩
set_option maxRecDepth 20000 in
theorem gw_455 : Cond.methodLink RX0 119 yX2_add ∈ GW := List.mem_filter.mpr ⟨List.mem_of_getElem? (i := 455) (by decide +kernel), rfl⟩
set_option maxRecDepth 20000 in
theorem gw_456 : Cond.methodLink "RibbedLoansLaw" 50 yX6_bringBack ∈ GW := List.mem_filter.mpr ⟨List.mem_of_getElem? (i := 456) (by decide +kernel), rfl⟩
set_option maxRecDepth 20000 in
theorem gw_457 : Cond.instanceMethod yX6_bringBack ∈ GW := List.mem_filter.mpr ⟨List.mem_of_getElem? (i := 457) (by decide +kernel), rfl⟩
set_option maxRecDepth 20000 in
theorem gw_458 : Cond.selects RX6 yX6_bringBack yX6_bringBack ∈ GW := List.mem_filter.mpr ⟨List.mem_of_getElem? (i := 458) (by decide +kernel), rfl⟩
set_option maxRecDepth 20000 in
theorem gw_459 : Cond.code yX6_bringBack cX6_bringBack 4 (some .int) ∈ GW := List.mem_filter.mpr ⟨List.mem_of_getElem? (i := 459) rfl, rfl⟩
set_option maxRecDepth 20000 in
theorem gw_460 : Cond.methodLink RX6 59 yX0_returningError ∈ GW := List.mem_filter.mpr ⟨List.mem_of_getElem? (i := 460) (by decide +kernel), rfl⟩
set_option maxRecDepth 20000 in
theorem gw_461 : Cond.instanceMethod yX0_returningError ∈ GW := List.mem_filter.mpr ⟨List.mem_of_getElem? (i := 461) (by decide +kernel), rfl⟩
set_option maxRecDepth 20000 in
theorem gw_462 : Cond.selects RX0 yX0_returningError yX0_returningError ∈ GW := List.mem_filter.mpr ⟨List.mem_of_getElem? (i := 462) (by decide +kernel), rfl⟩
set_option maxRecDepth 20000 in
theorem gw_463 : Cond.code yX0_returningError cX0_returningError 3 (some .int) ∈ GW := List.mem_filter.mpr ⟨List.mem_of_getElem? (i := 463) rfl, rfl⟩
set_option maxRecDepth 20000 in
theorem gw_464 : Cond.methodLink RX0 122 yX0_hasOne ∈ GW := List.mem_filter.mpr ⟨List.mem_of_getElem? (i := 464) (by decide +kernel), rfl⟩
set_option maxRecDepth 20000 in
theorem gw_465 : Cond.methodLink RX6 62 yX0_takeBack ∈ GW := List.mem_filter.mpr ⟨List.mem_of_getElem? (i := 465) (by decide +kernel), rfl⟩
set_option maxRecDepth 20000 in
theorem gw_466 : Cond.instanceMethod yX0_takeBack ∈ GW := List.mem_filter.mpr ⟨List.mem_of_getElem? (i := 466) (by decide +kernel), rfl⟩
set_option maxRecDepth 20000 in
theorem gw_467 : Cond.selects RX0 yX0_takeBack yX0_takeBack ∈ GW := List.mem_filter.mpr ⟨List.mem_of_getElem? (i := 467) (by decide +kernel), rfl⟩
set_option maxRecDepth 20000 in
theorem gw_468 : Cond.code yX0_takeBack cX0_takeBack 4 (some .int) ∈ GW := List.mem_filter.mpr ⟨List.mem_of_getElem? (i := 468) rfl, rfl⟩
set_option maxRecDepth 20000 in
theorem gw_469 : Cond.methodLink RX0 125 yX0_feeAfter ∈ GW := List.mem_filter.mpr ⟨List.mem_of_getElem? (i := 469) (by decide +kernel), rfl⟩
set_option maxRecDepth 20000 in
theorem gw_470 : Cond.methodLink "RibbedLoansLaw" 56 yL_hour ∈ GW := List.mem_filter.mpr ⟨List.mem_of_getElem? (i := 470) (by decide +kernel), rfl⟩
set_option maxRecDepth 20000 in
theorem gw_471 : Cond.static yL_hour ∈ GW := List.mem_filter.mpr ⟨List.mem_of_getElem? (i := 471) (by decide +kernel), rfl⟩
set_option maxRecDepth 20000 in
theorem gw_472 : Cond.code yL_hour cL_hour 13 (some .boolean) ∈ GW := List.mem_filter.mpr ⟨List.mem_of_getElem? (i := 472) rfl, rfl⟩
set_option maxRecDepth 20000 in
theorem gw_473 : Cond.methodLink "RibbedLoansLaw" 34 yX6_emptied ∈ GW := List.mem_filter.mpr ⟨List.mem_of_getElem? (i := 473) (by decide +kernel), rfl⟩
set_option maxRecDepth 20000 in
theorem gw_474 : Cond.instanceMethod yX6_emptied ∈ GW := List.mem_filter.mpr ⟨List.mem_of_getElem? (i := 474) (by decide +kernel), rfl⟩
set_option maxRecDepth 20000 in
theorem gw_475 : Cond.selects RX6 yX6_emptied yX6_emptied ∈ GW := List.mem_filter.mpr ⟨List.mem_of_getElem? (i := 475) (by decide +kernel), rfl⟩
set_option maxRecDepth 20000 in
theorem gw_476 : Cond.code yX6_emptied cX6_emptied 3 (some .int) ∈ GW := List.mem_filter.mpr ⟨List.mem_of_getElem? (i := 476) rfl, rfl⟩
set_option maxRecDepth 20000 in
theorem gw_477 : Cond.methodLink RX6 263 yX0_lackAt ∈ GW := List.mem_filter.mpr ⟨List.mem_of_getElem? (i := 477) (by decide +kernel), rfl⟩
set_option maxRecDepth 20000 in
theorem gw_478 : Cond.instanceMethod yX0_lackAt ∈ GW := List.mem_filter.mpr ⟨List.mem_of_getElem? (i := 478) (by decide +kernel), rfl⟩
set_option maxRecDepth 20000 in
theorem gw_479 : Cond.selects RX0 yX0_lackAt yX0_lackAt ∈ GW := List.mem_filter.mpr ⟨List.mem_of_getElem? (i := 479) (by decide +kernel), rfl⟩
set_option maxRecDepth 20000 in
theorem gw_480 : Cond.code yX0_lackAt cX0_lackAt 4 (some .int) ∈ GW := List.mem_filter.mpr ⟨List.mem_of_getElem? (i := 480) rfl, rfl⟩
set_option maxRecDepth 20000 in
theorem gw_481 : Cond.methodLink RX0 158 yX5_wholeAt ∈ GW := List.mem_filter.mpr ⟨List.mem_of_getElem? (i := 481) (by decide +kernel), rfl⟩
set_option maxRecDepth 20000 in
theorem gw_482 : Cond.instanceMethod yX5_wholeAt ∈ GW := List.mem_filter.mpr ⟨List.mem_of_getElem? (i := 482) (by decide +kernel), rfl⟩
set_option maxRecDepth 20000 in
theorem gw_483 : Cond.selects RX5 yX5_wholeAt yX5_wholeAt ∈ GW := List.mem_filter.mpr ⟨List.mem_of_getElem? (i := 483) (by decide +kernel), rfl⟩
set_option maxRecDepth 20000 in
theorem gw_484 : Cond.code yX5_wholeAt cX5_wholeAt 2 (some .int) ∈ GW := List.mem_filter.mpr ⟨List.mem_of_getElem? (i := 484) rfl, rfl⟩
set_option maxRecDepth 20000 in
theorem gw_485 : Cond.methodLink RX5 57 yX5_brokenAt ∈ GW := List.mem_filter.mpr ⟨List.mem_of_getElem? (i := 485) (by decide +kernel), rfl⟩
set_option maxRecDepth 20000 in
theorem gw_486 : Cond.methodLink "RibbedLoansLaw" 38 yX6_hour ∈ GW := List.mem_filter.mpr ⟨List.mem_of_getElem? (i := 486) (by decide +kernel), rfl⟩
set_option maxRecDepth 20000 in
theorem gw_487 : Cond.instanceMethod yX6_hour ∈ GW := List.mem_filter.mpr ⟨List.mem_of_getElem? (i := 487) (by decide +kernel), rfl⟩
set_option maxRecDepth 20000 in
theorem gw_488 : Cond.selects RX6 yX6_hour yX6_hour ∈ GW := List.mem_filter.mpr ⟨List.mem_of_getElem? (i := 488) (by decide +kernel), rfl⟩
set_option maxRecDepth 20000 in
theorem gw_489 : Cond.code yX6_hour cX6_hour 4 (some .int) ∈ GW := List.mem_filter.mpr ⟨List.mem_of_getElem? (i := 489) rfl, rfl⟩
set_option maxRecDepth 20000 in
theorem gw_490 : Cond.methodLink RX6 65 yX0_passingError ∈ GW := List.mem_filter.mpr ⟨List.mem_of_getElem? (i := 490) (by decide +kernel), rfl⟩
set_option maxRecDepth 20000 in
theorem gw_491 : Cond.instanceMethod yX0_passingError ∈ GW := List.mem_filter.mpr ⟨List.mem_of_getElem? (i := 491) (by decide +kernel), rfl⟩
set_option maxRecDepth 20000 in
theorem gw_492 : Cond.selects RX0 yX0_passingError yX0_passingError ∈ GW := List.mem_filter.mpr ⟨List.mem_of_getElem? (i := 492) (by decide +kernel), rfl⟩
set_option maxRecDepth 20000 in
theorem gw_493 : Cond.code yX0_passingError cX0_passingError 3 (some .int) ∈ GW := List.mem_filter.mpr ⟨List.mem_of_getElem? (i := 493) rfl, rfl⟩
set_option maxRecDepth 20000 in
theorem gw_494 : Cond.methodLink RX6 68 yX0_passHour ∈ GW := List.mem_filter.mpr ⟨List.mem_of_getElem? (i := 494) (by decide +kernel), rfl⟩
set_option maxRecDepth 20000 in
theorem gw_495 : Cond.instanceMethod yX0_passHour ∈ GW := List.mem_filter.mpr ⟨List.mem_of_getElem? (i := 495) (by decide +kernel), rfl⟩
set_option maxRecDepth 20000 in
theorem gw_496 : Cond.selects RX0 yX0_passHour yX0_passHour ∈ GW := List.mem_filter.mpr ⟨List.mem_of_getElem? (i := 496) (by decide +kernel), rfl⟩
set_option maxRecDepth 20000 in
theorem gw_497 : Cond.code yX0_passHour cX0_passHour 4 (some .int) ∈ GW := List.mem_filter.mpr ⟨List.mem_of_getElem? (i := 497) rfl, rfl⟩
set_option maxRecDepth 20000 in
theorem gw_498 : Cond.methodLink RX0 143 yX0_countShower ∈ GW := List.mem_filter.mpr ⟨List.mem_of_getElem? (i := 498) (by decide +kernel), rfl⟩
set_option maxRecDepth 20000 in
theorem gw_500 : Cond.instanceMethod yX0_countShower ∈ GW := List.mem_filter.mpr ⟨List.mem_of_getElem? (i := 500) (by decide +kernel), rfl⟩
set_option maxRecDepth 20000 in
theorem gw_501 : Cond.code yX0_countShower cX0_countShower 2 none ∈ GW := List.mem_filter.mpr ⟨List.mem_of_getElem? (i := 501) rfl, rfl⟩
set_option maxRecDepth 20000 in
theorem gw_502 : Cond.methodLink RX0 146 yX0_wearDown ∈ GW := List.mem_filter.mpr ⟨List.mem_of_getElem? (i := 502) (by decide +kernel), rfl⟩
set_option maxRecDepth 20000 in
theorem gw_504 : Cond.instanceMethod yX0_wearDown ∈ GW := List.mem_filter.mpr ⟨List.mem_of_getElem? (i := 504) (by decide +kernel), rfl⟩
set_option maxRecDepth 20000 in
theorem gw_505 : Cond.code yX0_wearDown cX0_wearDown 7 (some .int) ∈ GW := List.mem_filter.mpr ⟨List.mem_of_getElem? (i := 505) rfl, rfl⟩
set_option maxRecDepth 20000 in
theorem gw_507 : Cond.methodLink RX0 149 yX0_surge ∈ GW := List.mem_filter.mpr ⟨List.mem_of_getElem? (i := 507) (by decide +kernel), rfl⟩
set_option maxRecDepth 20000 in
theorem gw_509 : Cond.instanceMethod yX0_surge ∈ GW := List.mem_filter.mpr ⟨List.mem_of_getElem? (i := 509) (by decide +kernel), rfl⟩
set_option maxRecDepth 20000 in
theorem gw_510 : Cond.code yX0_surge cX0_surge 3 none ∈ GW := List.mem_filter.mpr ⟨List.mem_of_getElem? (i := 510) rfl, rfl⟩
set_option maxRecDepth 20000 in
theorem gw_511 : Cond.methodLink "RibbedLoansLaw" 59 yX6_set ∈ GW := List.mem_filter.mpr ⟨List.mem_of_getElem? (i := 511) (by decide +kernel), rfl⟩
set_option maxRecDepth 20000 in
theorem gw_512 : Cond.instanceMethod yX6_set ∈ GW := List.mem_filter.mpr ⟨List.mem_of_getElem? (i := 512) (by decide +kernel), rfl⟩
set_option maxRecDepth 20000 in
theorem gw_513 : Cond.selects RX6 yX6_set yX6_set ∈ GW := List.mem_filter.mpr ⟨List.mem_of_getElem? (i := 513) (by decide +kernel), rfl⟩
set_option maxRecDepth 20000 in
theorem gw_514 : Cond.code yX6_set cX6_set 4 (some .int) ∈ GW := List.mem_filter.mpr ⟨List.mem_of_getElem? (i := 514) rfl, rfl⟩
set_option maxRecDepth 20000 in
theorem gw_515 : Cond.methodLink RX6 47 yX0_settingError ∈ GW := List.mem_filter.mpr ⟨List.mem_of_getElem? (i := 515) (by decide +kernel), rfl⟩
set_option maxRecDepth 20000 in
theorem gw_516 : Cond.instanceMethod yX0_settingError ∈ GW := List.mem_filter.mpr ⟨List.mem_of_getElem? (i := 516) (by decide +kernel), rfl⟩
set_option maxRecDepth 20000 in
theorem gw_517 : Cond.selects RX0 yX0_settingError yX0_settingError ∈ GW := List.mem_filter.mpr ⟨List.mem_of_getElem? (i := 517) (by decide +kernel), rfl⟩
set_option maxRecDepth 20000 in
theorem gw_518 : Cond.code yX0_settingError cX0_settingError 3 (some .int) ∈ GW := List.mem_filter.mpr ⟨List.mem_of_getElem? (i := 518) rfl, rfl⟩
set_option maxRecDepth 20000 in
theorem gw_519 : Cond.methodLink RX6 50 yX0_change ∈ GW := List.mem_filter.mpr ⟨List.mem_of_getElem? (i := 519) (by decide +kernel), rfl⟩
set_option maxRecDepth 20000 in
theorem gw_520 : Cond.instanceMethod yX0_change ∈ GW := List.mem_filter.mpr ⟨List.mem_of_getElem? (i := 520) (by decide +kernel), rfl⟩
set_option maxRecDepth 20000 in
theorem gw_521 : Cond.selects RX0 yX0_change yX0_change ∈ GW := List.mem_filter.mpr ⟨List.mem_of_getElem? (i := 521) (by decide +kernel), rfl⟩
set_option maxRecDepth 20000 in
theorem gw_522 : Cond.code yX0_change cX0_change 4 (some .int) ∈ GW := List.mem_filter.mpr ⟨List.mem_of_getElem? (i := 522) rfl, rfl⟩
set_option maxRecDepth 20000 in
theorem gw_523 : Cond.methodLink "RibbedLoansLaw" 62 yX6_load ∈ GW := List.mem_filter.mpr ⟨List.mem_of_getElem? (i := 523) (by decide +kernel), rfl⟩
set_option maxRecDepth 20000 in
theorem gw_524 : Cond.instanceMethod yX6_load ∈ GW := List.mem_filter.mpr ⟨List.mem_of_getElem? (i := 524) (by decide +kernel), rfl⟩
set_option maxRecDepth 20000 in
theorem gw_525 : Cond.selects RX6 yX6_load yX6_load ∈ GW := List.mem_filter.mpr ⟨List.mem_of_getElem? (i := 525) (by decide +kernel), rfl⟩
set_option maxRecDepth 20000 in
theorem gw_526 : Cond.code yX6_load cX6_load 5 (some .int) ∈ GW := List.mem_filter.mpr ⟨List.mem_of_getElem? (i := 526) rfl, rfl⟩
set_option maxRecDepth 20000 in
theorem gw_527 : Cond.methodLink RX6 71 yX0_loadingError ∈ GW := List.mem_filter.mpr ⟨List.mem_of_getElem? (i := 527) (by decide +kernel), rfl⟩
set_option maxRecDepth 20000 in
theorem gw_528 : Cond.instanceMethod yX0_loadingError ∈ GW := List.mem_filter.mpr ⟨List.mem_of_getElem? (i := 528) (by decide +kernel), rfl⟩
set_option maxRecDepth 20000 in
theorem gw_529 : Cond.selects RX0 yX0_loadingError yX0_loadingError ∈ GW := List.mem_filter.mpr ⟨List.mem_of_getElem? (i := 529) (by decide +kernel), rfl⟩
set_option maxRecDepth 20000 in
theorem gw_530 : Cond.code yX0_loadingError cX0_loadingError 5 (some .int) ∈ GW := List.mem_filter.mpr ⟨List.mem_of_getElem? (i := 530) rfl, rfl⟩
set_option maxRecDepth 20000 in
theorem gw_531 : Cond.methodLink RX6 75 yX0_fillVan ∈ GW := List.mem_filter.mpr ⟨List.mem_of_getElem? (i := 531) (by decide +kernel), rfl⟩
set_option maxRecDepth 20000 in
theorem gw_532 : Cond.instanceMethod yX0_fillVan ∈ GW := List.mem_filter.mpr ⟨List.mem_of_getElem? (i := 532) (by decide +kernel), rfl⟩
set_option maxRecDepth 20000 in
theorem gw_533 : Cond.selects RX0 yX0_fillVan yX0_fillVan ∈ GW := List.mem_filter.mpr ⟨List.mem_of_getElem? (i := 533) (by decide +kernel), rfl⟩
set_option maxRecDepth 20000 in
theorem gw_534 : Cond.code yX0_fillVan cX0_fillVan 7 (some .int) ∈ GW := List.mem_filter.mpr ⟨List.mem_of_getElem? (i := 534) rfl, rfl⟩
set_option maxRecDepth 20000 in
theorem gw_535 : Cond.methodLink RX0 161 yX5_worstAt ∈ GW := List.mem_filter.mpr ⟨List.mem_of_getElem? (i := 535) (by decide +kernel), rfl⟩
set_option maxRecDepth 20000 in
theorem gw_536 : Cond.methodLink RX0 164 yX5_isBroken ∈ GW := List.mem_filter.mpr ⟨List.mem_of_getElem? (i := 536) (by decide +kernel), rfl⟩
set_option maxRecDepth 20000 in
theorem gw_537 : Cond.methodLink "RibbedLoansLaw" 65 yX6_unload ∈ GW := List.mem_filter.mpr ⟨List.mem_of_getElem? (i := 537) (by decide +kernel), rfl⟩
set_option maxRecDepth 20000 in
theorem gw_538 : Cond.instanceMethod yX6_unload ∈ GW := List.mem_filter.mpr ⟨List.mem_of_getElem? (i := 538) (by decide +kernel), rfl⟩
set_option maxRecDepth 20000 in
theorem gw_539 : Cond.selects RX6 yX6_unload yX6_unload ∈ GW := List.mem_filter.mpr ⟨List.mem_of_getElem? (i := 539) (by decide +kernel), rfl⟩
set_option maxRecDepth 20000 in
theorem gw_540 : Cond.code yX6_unload cX6_unload 5 (some .int) ∈ GW := List.mem_filter.mpr ⟨List.mem_of_getElem? (i := 540) rfl, rfl⟩
set_option maxRecDepth 20000 in
theorem gw_541 : Cond.methodLink RX6 78 yX0_unloadingError ∈ GW := List.mem_filter.mpr ⟨List.mem_of_getElem? (i := 541) (by decide +kernel), rfl⟩
set_option maxRecDepth 20000 in
theorem gw_542 : Cond.instanceMethod yX0_unloadingError ∈ GW := List.mem_filter.mpr ⟨List.mem_of_getElem? (i := 542) (by decide +kernel), rfl⟩
set_option maxRecDepth 20000 in
theorem gw_543 : Cond.selects RX0 yX0_unloadingError yX0_unloadingError ∈ GW := List.mem_filter.mpr ⟨List.mem_of_getElem? (i := 543) (by decide +kernel), rfl⟩
set_option maxRecDepth 20000 in
theorem gw_544 : Cond.code yX0_unloadingError cX0_unloadingError 4 (some .int) ∈ GW := List.mem_filter.mpr ⟨List.mem_of_getElem? (i := 544) rfl, rfl⟩
set_option maxRecDepth 20000 in
theorem gw_545 : Cond.methodLink RX6 81 yX0_emptyVan ∈ GW := List.mem_filter.mpr ⟨List.mem_of_getElem? (i := 545) (by decide +kernel), rfl⟩
set_option maxRecDepth 20000 in
theorem gw_546 : Cond.instanceMethod yX0_emptyVan ∈ GW := List.mem_filter.mpr ⟨List.mem_of_getElem? (i := 546) (by decide +kernel), rfl⟩
set_option maxRecDepth 20000 in
theorem gw_547 : Cond.selects RX0 yX0_emptyVan yX0_emptyVan ∈ GW := List.mem_filter.mpr ⟨List.mem_of_getElem? (i := 547) (by decide +kernel), rfl⟩
set_option maxRecDepth 20000 in
theorem gw_548 : Cond.code yX0_emptyVan cX0_emptyVan 6 (some .int) ∈ GW := List.mem_filter.mpr ⟨List.mem_of_getElem? (i := 548) rfl, rfl⟩
set_option maxRecDepth 20000 in
theorem gw_549 : Cond.methodLink "RibbedLoansLaw" 68 yX6_inVan ∈ GW := List.mem_filter.mpr ⟨List.mem_of_getElem? (i := 549) (by decide +kernel), rfl⟩
set_option maxRecDepth 20000 in
theorem gw_550 : Cond.instanceMethod yX6_inVan ∈ GW := List.mem_filter.mpr ⟨List.mem_of_getElem? (i := 550) (by decide +kernel), rfl⟩
set_option maxRecDepth 20000 in
theorem gw_551 : Cond.selects RX6 yX6_inVan yX6_inVan ∈ GW := List.mem_filter.mpr ⟨List.mem_of_getElem? (i := 551) (by decide +kernel), rfl⟩
set_option maxRecDepth 20000 in
theorem gw_552 : Cond.code yX6_inVan cX6_inVan 3 (some .int) ∈ GW := List.mem_filter.mpr ⟨List.mem_of_getElem? (i := 552) rfl, rfl⟩
set_option maxRecDepth 20000 in
theorem gw_553 : Cond.methodLink RX6 251 yX5_nthAt ∈ GW := List.mem_filter.mpr ⟨List.mem_of_getElem? (i := 553) (by decide +kernel), rfl⟩
set_option maxRecDepth 20000 in
theorem gw_554 : Cond.methodLink "RibbedLoansLaw" 71 yX6_toWorkshop ∈ GW := List.mem_filter.mpr ⟨List.mem_of_getElem? (i := 554) (by decide +kernel), rfl⟩
set_option maxRecDepth 20000 in
theorem gw_555 : Cond.instanceMethod yX6_toWorkshop ∈ GW := List.mem_filter.mpr ⟨List.mem_of_getElem? (i := 555) (by decide +kernel), rfl⟩
set_option maxRecDepth 20000 in
theorem gw_556 : Cond.selects RX6 yX6_toWorkshop yX6_toWorkshop ∈ GW := List.mem_filter.mpr ⟨List.mem_of_getElem? (i := 556) (by decide +kernel), rfl⟩
set_option maxRecDepth 20000 in
theorem gw_557 : Cond.code yX6_toWorkshop cX6_toWorkshop 3 (some .int) ∈ GW := List.mem_filter.mpr ⟨List.mem_of_getElem? (i := 557) rfl, rfl⟩
set_option maxRecDepth 20000 in
theorem gw_558 : Cond.methodLink RX6 84 yX0_deliveringError ∈ GW := List.mem_filter.mpr ⟨List.mem_of_getElem? (i := 558) (by decide +kernel), rfl⟩
set_option maxRecDepth 20000 in
theorem gw_559 : Cond.instanceMethod yX0_deliveringError ∈ GW := List.mem_filter.mpr ⟨List.mem_of_getElem? (i := 559) (by decide +kernel), rfl⟩
set_option maxRecDepth 20000 in
theorem gw_560 : Cond.selects RX0 yX0_deliveringError yX0_deliveringError ∈ GW := List.mem_filter.mpr ⟨List.mem_of_getElem? (i := 560) (by decide +kernel), rfl⟩
set_option maxRecDepth 20000 in
theorem gw_561 : Cond.code yX0_deliveringError cX0_deliveringError 2 (some .int) ∈ GW := List.mem_filter.mpr ⟨List.mem_of_getElem? (i := 561) rfl, rfl⟩
set_option maxRecDepth 20000 in
theorem gw_562 : Cond.methodLink RX0 167 yX5_brokenAt ∈ GW := List.mem_filter.mpr ⟨List.mem_of_getElem? (i := 562) (by decide +kernel), rfl⟩
set_option maxRecDepth 20000 in
theorem gw_563 : Cond.methodLink RX6 88 yX0_deliver ∈ GW := List.mem_filter.mpr ⟨List.mem_of_getElem? (i := 563) (by decide +kernel), rfl⟩
set_option maxRecDepth 20000 in
theorem gw_564 : Cond.instanceMethod yX0_deliver ∈ GW := List.mem_filter.mpr ⟨List.mem_of_getElem? (i := 564) (by decide +kernel), rfl⟩
set_option maxRecDepth 20000 in
theorem gw_565 : Cond.selects RX0 yX0_deliver yX0_deliver ∈ GW := List.mem_filter.mpr ⟨List.mem_of_getElem? (i := 565) (by decide +kernel), rfl⟩
set_option maxRecDepth 20000 in
theorem gw_566 : Cond.code yX0_deliver cX0_deliver 4 (some .int) ∈ GW := List.mem_filter.mpr ⟨List.mem_of_getElem? (i := 566) rfl, rfl⟩
set_option maxRecDepth 20000 in
theorem gw_567 : Cond.methodLink "RibbedLoansLaw" 74 yX6_mend ∈ GW := List.mem_filter.mpr ⟨List.mem_of_getElem? (i := 567) (by decide +kernel), rfl⟩
set_option maxRecDepth 20000 in
theorem gw_568 : Cond.instanceMethod yX6_mend ∈ GW := List.mem_filter.mpr ⟨List.mem_of_getElem? (i := 568) (by decide +kernel), rfl⟩
set_option maxRecDepth 20000 in
theorem gw_569 : Cond.selects RX6 yX6_mend yX6_mend ∈ GW := List.mem_filter.mpr ⟨List.mem_of_getElem? (i := 569) (by decide +kernel), rfl⟩
set_option maxRecDepth 20000 in
theorem gw_570 : Cond.code yX6_mend cX6_mend 3 (some .int) ∈ GW := List.mem_filter.mpr ⟨List.mem_of_getElem? (i := 570) rfl, rfl⟩
set_option maxRecDepth 20000 in
theorem gw_571 : Cond.methodLink RX6 91 yX0_mendingError ∈ GW := List.mem_filter.mpr ⟨List.mem_of_getElem? (i := 571) (by decide +kernel), rfl⟩
set_option maxRecDepth 20000 in
theorem gw_572 : Cond.instanceMethod yX0_mendingError ∈ GW := List.mem_filter.mpr ⟨List.mem_of_getElem? (i := 572) (by decide +kernel), rfl⟩
set_option maxRecDepth 20000 in
theorem gw_573 : Cond.selects RX0 yX0_mendingError yX0_mendingError ∈ GW := List.mem_filter.mpr ⟨List.mem_of_getElem? (i := 573) (by decide +kernel), rfl⟩
set_option maxRecDepth 20000 in
theorem gw_574 : Cond.code yX0_mendingError cX0_mendingError 2 (some .int) ∈ GW := List.mem_filter.mpr ⟨List.mem_of_getElem? (i := 574) rfl, rfl⟩
set_option maxRecDepth 20000 in
theorem gw_575 : Cond.methodLink RX6 94 yX0_mendOne ∈ GW := List.mem_filter.mpr ⟨List.mem_of_getElem? (i := 575) (by decide +kernel), rfl⟩
set_option maxRecDepth 20000 in
theorem gw_576 : Cond.instanceMethod yX0_mendOne ∈ GW := List.mem_filter.mpr ⟨List.mem_of_getElem? (i := 576) (by decide +kernel), rfl⟩
set_option maxRecDepth 20000 in
theorem gw_577 : Cond.selects RX0 yX0_mendOne yX0_mendOne ∈ GW := List.mem_filter.mpr ⟨List.mem_of_getElem? (i := 577) (by decide +kernel), rfl⟩
set_option maxRecDepth 20000 in
theorem gw_578 : Cond.code yX0_mendOne cX0_mendOne 5 (some .int) ∈ GW := List.mem_filter.mpr ⟨List.mem_of_getElem? (i := 578) rfl, rfl⟩
set_option maxRecDepth 20000 in
theorem gw_579 : Cond.methodLink RX0 170 yX5_leastWornAt ∈ GW := List.mem_filter.mpr ⟨List.mem_of_getElem? (i := 579) (by decide +kernel), rfl⟩
set_option maxRecDepth 20000 in
theorem gw_580 : Cond.methodLink RX0 173 Lib.Math.max.name ∈ GW := List.mem_filter.mpr ⟨List.mem_of_getElem? (i := 580) (by decide +kernel), rfl⟩
set_option maxRecDepth 20000 in
theorem gw_581 : Cond.methodLink "RibbedLoansLaw" 77 yX6_level ∈ GW := List.mem_filter.mpr ⟨List.mem_of_getElem? (i := 581) (by decide +kernel), rfl⟩
set_option maxRecDepth 20000 in
theorem gw_582 : Cond.instanceMethod yX6_level ∈ GW := List.mem_filter.mpr ⟨List.mem_of_getElem? (i := 582) (by decide +kernel), rfl⟩
set_option maxRecDepth 20000 in
theorem gw_583 : Cond.selects RX6 yX6_level yX6_level ∈ GW := List.mem_filter.mpr ⟨List.mem_of_getElem? (i := 583) (by decide +kernel), rfl⟩
set_option maxRecDepth 20000 in
theorem gw_584 : Cond.code yX6_level cX6_level 1 (some .int) ∈ GW := List.mem_filter.mpr ⟨List.mem_of_getElem? (i := 584) rfl, rfl⟩
set_option maxRecDepth 20000 in
theorem gw_585 : Cond.methodLink RX6 97 yX0_evenOut ∈ GW := List.mem_filter.mpr ⟨List.mem_of_getElem? (i := 585) (by decide +kernel), rfl⟩
set_option maxRecDepth 20000 in
theorem gw_586 : Cond.instanceMethod yX0_evenOut ∈ GW := List.mem_filter.mpr ⟨List.mem_of_getElem? (i := 586) (by decide +kernel), rfl⟩
set_option maxRecDepth 20000 in
theorem gw_587 : Cond.selects RX0 yX0_evenOut yX0_evenOut ∈ GW := List.mem_filter.mpr ⟨List.mem_of_getElem? (i := 587) (by decide +kernel), rfl⟩
set_option maxRecDepth 20000 in
theorem gw_588 : Cond.code yX0_evenOut cX0_evenOut 6 (some .int) ∈ GW := List.mem_filter.mpr ⟨List.mem_of_getElem? (i := 588) rfl, rfl⟩
set_option maxRecDepth 20000 in
theorem gw_589 : Cond.constant "RibbedLoans$City" 176 (1000000 : Int32) ∈ GW := List.mem_filter.mpr ⟨List.mem_of_getElem? (i := 589) (by decide +kernel), rfl⟩
set_option maxRecDepth 20000 in
theorem gw_590 : Cond.methodLink RX0 177 yX0_fullest ∈ GW := List.mem_filter.mpr ⟨List.mem_of_getElem? (i := 590) (by decide +kernel), rfl⟩
set_option maxRecDepth 20000 in
theorem gw_592 : Cond.instanceMethod yX0_fullest ∈ GW := List.mem_filter.mpr ⟨List.mem_of_getElem? (i := 592) (by decide +kernel), rfl⟩
set_option maxRecDepth 20000 in
theorem gw_593 : Cond.code yX0_fullest cX0_fullest 3 (some .int) ∈ GW := List.mem_filter.mpr ⟨List.mem_of_getElem? (i := 593) rfl, rfl⟩
set_option maxRecDepth 20000 in
theorem gw_594 : Cond.methodLink RX0 180 yX0_emptiestWithRoom ∈ GW := List.mem_filter.mpr ⟨List.mem_of_getElem? (i := 594) (by decide +kernel), rfl⟩
set_option maxRecDepth 20000 in
theorem gw_596 : Cond.instanceMethod yX0_emptiestWithRoom ∈ GW := List.mem_filter.mpr ⟨List.mem_of_getElem? (i := 596) (by decide +kernel), rfl⟩
set_option maxRecDepth 20000 in
theorem gw_597 : Cond.code yX0_emptiestWithRoom cX0_emptiestWithRoom 4 (some .int) ∈ GW := List.mem_filter.mpr ⟨List.mem_of_getElem? (i := 597) rfl, rfl⟩
set_option maxRecDepth 20000 in
theorem gw_598 : Cond.methodLink "RibbedLoansLaw" 80 yX6_take ∈ GW := List.mem_filter.mpr ⟨List.mem_of_getElem? (i := 598) (by decide +kernel), rfl⟩
set_option maxRecDepth 20000 in
theorem gw_599 : Cond.instanceMethod yX6_take ∈ GW := List.mem_filter.mpr ⟨List.mem_of_getElem? (i := 599) (by decide +kernel), rfl⟩
set_option maxRecDepth 20000 in
theorem gw_600 : Cond.selects RX6 yX6_take yX6_take ∈ GW := List.mem_filter.mpr ⟨List.mem_of_getElem? (i := 600) (by decide +kernel), rfl⟩
set_option maxRecDepth 20000 in
theorem gw_601 : Cond.code yX6_take cX6_take 2 (some .int) ∈ GW := List.mem_filter.mpr ⟨List.mem_of_getElem? (i := 601) rfl, rfl⟩
set_option maxRecDepth 20000 in
theorem gw_602 : Cond.methodLink RX6 105 yX3_keep ∈ GW := List.mem_filter.mpr ⟨List.mem_of_getElem? (i := 602) (by decide +kernel), rfl⟩
set_option maxRecDepth 20000 in
theorem gw_603 : Cond.instanceMethod yX3_keep ∈ GW := List.mem_filter.mpr ⟨List.mem_of_getElem? (i := 603) (by decide +kernel), rfl⟩
set_option maxRecDepth 20000 in
theorem gw_604 : Cond.selects RX3 yX3_keep yX3_keep ∈ GW := List.mem_filter.mpr ⟨List.mem_of_getElem? (i := 604) (by decide +kernel), rfl⟩
set_option maxRecDepth 20000 in
theorem gw_605 : Cond.code yX3_keep cX3_keep 2 none ∈ GW := List.mem_filter.mpr ⟨List.mem_of_getElem? (i := 605) rfl, rfl⟩
def NWL : List Cond := [Cond.methodLinkNest RX6 11 yX3_init RX6, Cond.methodLinkNest RX0 11 yX5_init RX6, Cond.fieldLinkNest RX6 203 RX5 "spots" "LRibbedLoans$Row;" RX6, Cond.fieldLinkNest RX0 152 RX5 "spots" "LRibbedLoans$Row;" RX6, Cond.fieldLinkNest RX0 132 RX5 "wears" "LRibbedLoans$Row;" RX6, Cond.fieldLinkNest RX6 215 RX5 "wears" "LRibbedLoans$Row;" RX6, Cond.fieldLinkNest RX0 116 RX5 "lendings" "LRibbedLoans$Row;" RX6, Cond.fieldLinkNest RX6 221 RX5 "lendings" "LRibbedLoans$Row;" RX6, Cond.fieldLinkNest RX0 90 RX5 "number" "I" RX6, Cond.fieldLinkNest RX6 162 RX5 "number" "I" RX6, Cond.fieldLinkNest RX6 158 RX0 "umbrellas" "LRibbedLoans$Umbrellas;" RX6, Cond.fieldLinkNest RX6 224 RX0 "rooms" "LRibbedLoans$Row;" RX6, Cond.fieldLinkNest RX6 176 RX0 "purses" "LRibbedLoans$Row;" RX6, Cond.fieldLinkNest RX6 245 RX0 "showers" "LRibbedLoans$Row;" RX6, Cond.fieldLinkNest RX6 248 RX0 "homes" "LRibbedLoans$Row;" RX6, Cond.fieldLinkNest RX6 188 RX0 "paid" "LRibbedLoans$Row;" RX6, Cond.fieldLinkNest RX6 109 RX0 "hours" "I" RX6, Cond.fieldLinkNest RX6 173 RX0 "house" "I" RX6, Cond.fieldLinkNest RX6 185 RX0 "spent" "I" RX6, Cond.fieldLinkNest RX6 191 RX0 "loans" "I" RX6, Cond.fieldLinkNest RX6 194 RX0 "surges" "I" RX6, Cond.fieldLinkNest RX6 197 RX0 "rate" "I" RX6, Cond.fieldLinkNest RX6 30 RX3 "city" "LRibbedLoans$City;" RX6, Cond.methodLinkNest RX1 17 yX3_init RX6, Cond.fieldLinkNest RX6 120 RX1 "size" "I" RX6, Cond.methodLinkNest RX6 25 yX4_init RX6, Cond.fieldLinkNest RX6 126 RX4 "length" "I" RX6, Cond.methodLinkNest RX0 82 yX6_outside RX6, Cond.methodLinkNest RX5 47 yX6_kindOf RX6, Cond.methodLinkNest RX0 135 yX6_wornBy RX6, Cond.methodLinkNest RX0 155 yX6_kindOf RX6]
theorem nwl_tbl : ∀ w ∈ NWL, w ∈ lw_tbl := by decide +kernel
theorem nwl_kind : ∀ w ∈ NWL, (∃ a i b n d h, w = Cond.fieldLinkNest a i b n d h) ∨ (∃ a i x h, w = Cond.methodLinkNest a i x h) := List.forall_mem_cons.mpr ⟨Or.inr ⟨_, _, _, _, rfl⟩, List.forall_mem_cons.mpr ⟨Or.inr ⟨_, _, _, _, rfl⟩, List.forall_mem_cons.mpr ⟨Or.inl ⟨_, _, _, _, _, _, rfl⟩, List.forall_mem_cons.mpr ⟨Or.inl ⟨_, _, _, _, _, _, rfl⟩, List.forall_mem_cons.mpr ⟨Or.inl ⟨_, _, _, _, _, _, rfl⟩, List.forall_mem_cons.mpr ⟨Or.inl ⟨_, _, _, _, _, _, rfl⟩, List.forall_mem_cons.mpr ⟨Or.inl ⟨_, _, _, _, _, _, rfl⟩, List.forall_mem_cons.mpr ⟨Or.inl ⟨_, _, _, _, _, _, rfl⟩, List.forall_mem_cons.mpr ⟨Or.inl ⟨_, _, _, _, _, _, rfl⟩, List.forall_mem_cons.mpr ⟨Or.inl ⟨_, _, _, _, _, _, rfl⟩, List.forall_mem_cons.mpr ⟨Or.inl ⟨_, _, _, _, _, _, rfl⟩, List.forall_mem_cons.mpr ⟨Or.inl ⟨_, _, _, _, _, _, rfl⟩, List.forall_mem_cons.mpr ⟨Or.inl ⟨_, _, _, _, _, _, rfl⟩, List.forall_mem_cons.mpr ⟨Or.inl ⟨_, _, _, _, _, _, rfl⟩, List.forall_mem_cons.mpr ⟨Or.inl ⟨_, _, _, _, _, _, rfl⟩, List.forall_mem_cons.mpr ⟨Or.inl ⟨_, _, _, _, _, _, rfl⟩, List.forall_mem_cons.mpr ⟨Or.inl ⟨_, _, _, _, _, _, rfl⟩, List.forall_mem_cons.mpr ⟨Or.inl ⟨_, _, _, _, _, _, rfl⟩, List.forall_mem_cons.mpr ⟨Or.inl ⟨_, _, _, _, _, _, rfl⟩, List.forall_mem_cons.mpr ⟨Or.inl ⟨_, _, _, _, _, _, rfl⟩, List.forall_mem_cons.mpr ⟨Or.inl ⟨_, _, _, _, _, _, rfl⟩, List.forall_mem_cons.mpr ⟨Or.inl ⟨_, _, _, _, _, _, rfl⟩, List.forall_mem_cons.mpr ⟨Or.inl ⟨_, _, _, _, _, _, rfl⟩, List.forall_mem_cons.mpr ⟨Or.inr ⟨_, _, _, _, rfl⟩, List.forall_mem_cons.mpr ⟨Or.inl ⟨_, _, _, _, _, _, rfl⟩, List.forall_mem_cons.mpr ⟨Or.inr ⟨_, _, _, _, rfl⟩, List.forall_mem_cons.mpr ⟨Or.inl ⟨_, _, _, _, _, _, rfl⟩, List.forall_mem_cons.mpr ⟨Or.inr ⟨_, _, _, _, rfl⟩, List.forall_mem_cons.mpr ⟨Or.inr ⟨_, _, _, _, rfl⟩, List.forall_mem_cons.mpr ⟨Or.inr ⟨_, _, _, _, rfl⟩, List.forall_mem_cons.mpr ⟨Or.inr ⟨_, _, _, _, rfl⟩, fun _ h => absurd h List.not_mem_nil⟩⟩⟩⟩⟩⟩⟩⟩⟩⟩⟩⟩⟩⟩⟩⟩⟩⟩⟩⟩⟩⟩⟩⟩⟩⟩⟩⟩⟩⟩⟩
theorem inX0 : ∀ w ∈ u_ws RX0 TX0 12, w ∈ GW := by decide +kernel
theorem inX1 : ∀ w ∈ u_ws RX1 TX1 3, w ∈ GW := by decide +kernel
theorem inX2 : ∀ w ∈ u_ws RX2 TX2 1, w ∈ GW := by decide +kernel
theorem inX3 : ∀ w ∈ u_ws RX3 TX3 5, w ∈ GW := by decide +kernel
theorem inX4 : ∀ w ∈ u_ws RX4 TX4 6, w ∈ GW := by decide +kernel
theorem inX5 : ∀ w ∈ u_ws RX5 TX5 5, w ∈ GW := by decide +kernel
theorem inX6 : ∀ w ∈ u_ws RX6 TX6 3, w ∈ GW := by decide +kernel
