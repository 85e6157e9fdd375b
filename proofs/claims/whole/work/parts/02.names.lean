def RX0 : String := "Harbourmint$Bills"
def TX0 : u_T := fun k => match k with
  | 0 => ("Harbourmint$Bills", "drawers", "[I", true)
  | 1 => ("Harbourmint$Bills", "drawnOn", "[I", true)
  | 2 => ("Harbourmint$Bills", "amounts", "[I", true)
  | 3 => ("Harbourmint$Bills", "dueDays", "[I", true)
  | 4 => ("Harbourmint$Bills", "holders", "[I", true)
  | 5 => ("Harbourmint$Bills", "endorsers", "[I", true)
  | 6 => ("Harbourmint$Bills", "endorserCounts", "[I", true)
  | 7 => ("Harbourmint$Bills", "count", "I", false)
  | _ => ("Harbourmint$Bills", "today", "I", false)
def tyX0 : Nat → FieldType := fun k => match k with
  | 0 => .array .int
  | 1 => .array .int
  | 2 => .array .int
  | 3 => .array .int
  | 4 => .array .int
  | 5 => .array .int
  | 6 => .array .int
  | 7 => .int
  | _ => .int
abbrev wsX00 : List Cond := u_ws RX0 TX0 9
theorem nmX0 : ∀ a, a < 9 → ∀ b, b < 9 → a ≠ b → (TX0 a).2.1 ≠ (TX0 b).2.1 := by decide +kernel
theorem tyX0_ok : ∀ k, k < 9 → parseFieldDescriptor (TX0 k).2.2.1 = some (tyX0 k) := by decide +kernel
abbrev cX0_init : ByteArray := prog_2_method_1_code
def yX0_init : MethodName := ⟨RX0, "<init>", "()V"⟩
abbrev cX0_count : ByteArray := prog_2_method_2_code
def yX0_count : MethodName := ⟨RX0, "count", "()I"⟩
abbrev cX0_write : ByteArray := prog_2_method_3_code
def yX0_write : MethodName := ⟨RX0, "write", "(IIII)I"⟩
abbrev cX0_passOn : ByteArray := prog_2_method_4_code
def yX0_passOn : MethodName := ⟨RX0, "passOn", "(II)V"⟩
abbrev cX0_end : ByteArray := prog_2_method_5_code
def yX0_end : MethodName := ⟨RX0, "end", "(I)V"⟩
abbrev cX0_beginDay : ByteArray := prog_2_method_6_code
def yX0_beginDay : MethodName := ⟨RX0, "beginDay", "()V"⟩
abbrev cX0_isDueToday : ByteArray := prog_2_method_7_code
def yX0_isDueToday : MethodName := ⟨RX0, "isDueToday", "(I)Z"⟩
abbrev cX0_holder : ByteArray := prog_2_method_8_code
def yX0_holder : MethodName := ⟨RX0, "holder", "(I)I"⟩
abbrev cX0_amount : ByteArray := prog_2_method_9_code
def yX0_amount : MethodName := ⟨RX0, "amount", "(I)I"⟩
abbrev cX0_endorsements : ByteArray := prog_2_method_10_code
def yX0_endorsements : MethodName := ⟨RX0, "endorsements", "(I)I"⟩
abbrev cX0_liableCount : ByteArray := prog_2_method_11_code
def yX0_liableCount : MethodName := ⟨RX0, "liableCount", "(I)I"⟩
abbrev cX0_liable : ByteArray := prog_2_method_12_code
def yX0_liable : MethodName := ⟨RX0, "liable", "(II)I"⟩
def RX1 : String := "Harbourmint$Claims"
def TX1 : u_T := fun k => match k with
  | _ => ("Harbourmint$Claims", "amounts", "[I", true)
def tyX1 : Nat → FieldType := fun k => match k with
  | _ => .array .int
abbrev wsX10 : List Cond := u_ws RX1 TX1 1
theorem nmX1 : ∀ a, a < 1 → ∀ b, b < 1 → a ≠ b → (TX1 a).2.1 ≠ (TX1 b).2.1 := by decide +kernel
theorem tyX1_ok : ∀ k, k < 1 → parseFieldDescriptor (TX1 k).2.2.1 = some (tyX1 k) := by decide +kernel
abbrev cX1_init : ByteArray := prog_3_method_1_code
def yX1_init : MethodName := ⟨RX1, "<init>", "()V"⟩
abbrev cX1_amount : ByteArray := prog_3_method_2_code
def yX1_amount : MethodName := ⟨RX1, "amount", "(II)I"⟩
abbrev cX1_add : ByteArray := prog_3_method_3_code
def yX1_add : MethodName := ⟨RX1, "add", "(III)V"⟩
abbrev cX1_sumOf : ByteArray := prog_3_method_4_code
def yX1_sumOf : MethodName := ⟨RX1, "sumOf", "(I)J"⟩
abbrev cX1_sumOn : ByteArray := prog_3_method_5_code
def yX1_sumOn : MethodName := ⟨RX1, "sumOn", "(I)J"⟩
abbrev cX1_leastOf : ByteArray := prog_3_method_6_code
def yX1_leastOf : MethodName := ⟨RX1, "leastOf", "(I)I"⟩
abbrev cX1_greatestCreditor : ByteArray := prog_3_method_7_code
def yX1_greatestCreditor : MethodName := ⟨RX1, "greatestCreditor", "(I)I"⟩
abbrev cX1_dropOn : ByteArray := prog_3_method_8_code
def yX1_dropOn : MethodName := ⟨RX1, "dropOn", "(I)J"⟩
abbrev cX1_leaveToCrown : ByteArray := prog_3_method_9_code
def yX1_leaveToCrown : MethodName := ⟨RX1, "leaveToCrown", "(I)V"⟩
def RX2 : String := "Harbourmint$Coins"
def TX2 : u_T := fun k => match k with
  | 0 => ("Harbourmint$Coins", "metals", "[I", true)
  | 1 => ("Harbourmint$Coins", "weights", "[I", true)
  | 2 => ("Harbourmint$Coins", "houses", "[I", true)
  | 3 => ("Harbourmint$Coins", "ownerCounts", "[I", true)
  | 4 => ("Harbourmint$Coins", "hoarded", "[Z", true)
  | 5 => ("Harbourmint$Coins", "lastTakers", "[I", true)
  | _ => ("Harbourmint$Coins", "count", "I", false)
def tyX2 : Nat → FieldType := fun k => match k with
  | 0 => .array .int
  | 1 => .array .int
  | 2 => .array .int
  | 3 => .array .int
  | 4 => .array .boolean
  | 5 => .array .int
  | _ => .int
abbrev wsX20 : List Cond := u_ws RX2 TX2 7
theorem nmX2 : ∀ a, a < 7 → ∀ b, b < 7 → a ≠ b → (TX2 a).2.1 ≠ (TX2 b).2.1 := by decide +kernel
theorem tyX2_ok : ∀ k, k < 7 → parseFieldDescriptor (TX2 k).2.2.1 = some (tyX2 k) := by decide +kernel
abbrev cX2_init : ByteArray := prog_4_method_1_code
def yX2_init : MethodName := ⟨RX2, "<init>", "()V"⟩
abbrev cX2_count : ByteArray := prog_4_method_2_code
def yX2_count : MethodName := ⟨RX2, "count", "()I"⟩
abbrev cX2_numbersLeft : ByteArray := prog_4_method_3_code
def yX2_numbersLeft : MethodName := ⟨RX2, "numbersLeft", "()I"⟩
abbrev cX2_add : ByteArray := prog_4_method_4_code
def yX2_add : MethodName := ⟨RX2, "add", "(III)V"⟩
abbrev cX2_give : ByteArray := prog_4_method_5_code
def yX2_give : MethodName := ⟨RX2, "give", "(II)V"⟩
abbrev cX2_giveLightest : ByteArray := prog_4_method_6_code
def yX2_giveLightest : MethodName := ⟨RX2, "giveLightest", "(IIII)I"⟩
abbrev cX2_giveAll : ByteArray := prog_4_method_7_code
def yX2_giveAll : MethodName := ⟨RX2, "giveAll", "(II)V"⟩
abbrev cX2_melt : ByteArray := prog_4_method_8_code
def yX2_melt : MethodName := ⟨RX2, "melt", "(II)I"⟩
abbrev cX2_lighten : ByteArray := prog_4_method_9_code
def yX2_lighten : MethodName := ⟨RX2, "lighten", "(II)V"⟩
abbrev cX2_setHoarded : ByteArray := prog_4_method_10_code
def yX2_setHoarded : MethodName := ⟨RX2, "setHoarded", "(IZ)V"⟩
abbrev cX2_metal : ByteArray := prog_4_method_11_code
def yX2_metal : MethodName := ⟨RX2, "metal", "(I)I"⟩
abbrev cX2_weight : ByteArray := prog_4_method_12_code
def yX2_weight : MethodName := ⟨RX2, "weight", "(I)I"⟩
abbrev cX2_owner : ByteArray := prog_4_method_13_code
def yX2_owner : MethodName := ⟨RX2, "owner", "(I)I"⟩
abbrev cX2_ownerCount : ByteArray := prog_4_method_14_code
def yX2_ownerCount : MethodName := ⟨RX2, "ownerCount", "(I)I"⟩
abbrev cX2_isHoarded : ByteArray := prog_4_method_15_code
def yX2_isHoarded : MethodName := ⟨RX2, "isHoarded", "(I)Z"⟩
abbrev cX2_owned : ByteArray := prog_4_method_16_code
def yX2_owned : MethodName := ⟨RX2, "owned", "(II)I"⟩
abbrev cX2_loose : ByteArray := prog_4_method_17_code
def yX2_loose : MethodName := ⟨RX2, "loose", "(II)I"⟩
abbrev cX2_unmelted : ByteArray := prog_4_method_18_code
def yX2_unmelted : MethodName := ⟨RX2, "unmelted", "()I"⟩
abbrev cX2_lighter : ByteArray := prog_4_method_19_code
def yX2_lighter : MethodName := ⟨RX2, "lighter", "(II)I"⟩
abbrev cX2_weightOfAll : ByteArray := prog_4_method_20_code
def yX2_weightOfAll : MethodName := ⟨RX2, "weightOfAll", "(I)I"⟩
abbrev cX2_areWhereGiven : ByteArray := prog_4_method_21_code
def yX2_areWhereGiven : MethodName := ⟨RX2, "areWhereGiven", "()Z"⟩
abbrev cX2_heaviest : ByteArray := prog_4_method_22_code
def yX2_heaviest : MethodName := ⟨RX2, "heaviest", "(I)I"⟩
abbrev cX2_isAhead : ByteArray := prog_4_method_23_code
def yX2_isAhead : MethodName := ⟨RX2, "isAhead", "(II)Z"⟩
abbrev cX2_lightest : ByteArray := prog_4_method_24_code
def yX2_lightest : MethodName := ⟨RX2, "lightest", "(II)I"⟩
abbrev cX2_isLoose : ByteArray := prog_4_method_25_code
def yX2_isLoose : MethodName := ⟨RX2, "isLoose", "(III)Z"⟩
def RX3 : String := "Harbourmint$Houses"
def TX3 : u_T := fun k => match k with
  | 0 => ("Harbourmint$Houses", "kinds", "[C", true)
  | 1 => ("Harbourmint$Houses", "open", "[Z", true)
  | _ => ("Harbourmint$Houses", "count", "I", false)
def tyX3 : Nat → FieldType := fun k => match k with
  | 0 => .array .char
  | 1 => .array .boolean
  | _ => .int
abbrev wsX30 : List Cond := u_ws RX3 TX3 3
theorem nmX3 : ∀ a, a < 3 → ∀ b, b < 3 → a ≠ b → (TX3 a).2.1 ≠ (TX3 b).2.1 := by decide +kernel
theorem tyX3_ok : ∀ k, k < 3 → parseFieldDescriptor (TX3 k).2.2.1 = some (tyX3 k) := by decide +kernel
abbrev cX3_init : ByteArray := prog_5_method_1_code
def yX3_init : MethodName := ⟨RX3, "<init>", "()V"⟩
abbrev cX3_count : ByteArray := prog_5_method_2_code
def yX3_count : MethodName := ⟨RX3, "count", "()I"⟩
abbrev cX3_open : ByteArray := prog_5_method_3_code
def yX3_open : MethodName := ⟨RX3, "open", "(C)I"⟩
abbrev cX3_close : ByteArray := prog_5_method_4_code
def yX3_close : MethodName := ⟨RX3, "close", "(I)V"⟩
abbrev cX3_kind : ByteArray := prog_5_method_5_code
def yX3_kind : MethodName := ⟨RX3, "kind", "(I)C"⟩
abbrev cX3_isOpen : ByteArray := prog_5_method_6_code
def yX3_isOpen : MethodName := ⟨RX3, "isOpen", "(I)Z"⟩
def RX4 : String := "Harbourmint$Metals"
def TX4 : u_T := fun k => match k with
  | 0 => ("Harbourmint$Metals", "faces", "[I", true)
  | 1 => ("Harbourmint$Metals", "fullWeights", "[I", true)
  | 2 => ("Harbourmint$Metals", "dug", "[I", true)
  | _ => ("Harbourmint$Metals", "ores", "[I", true)
def tyX4 : Nat → FieldType := fun k => match k with
  | 0 => .array .int
  | 1 => .array .int
  | 2 => .array .int
  | _ => .array .int
abbrev wsX40 : List Cond := u_ws RX4 TX4 4
theorem nmX4 : ∀ a, a < 4 → ∀ b, b < 4 → a ≠ b → (TX4 a).2.1 ≠ (TX4 b).2.1 := by decide +kernel
theorem tyX4_ok : ∀ k, k < 4 → parseFieldDescriptor (TX4 k).2.2.1 = some (tyX4 k) := by decide +kernel
abbrev cX4_init : ByteArray := prog_6_method_1_code
def yX4_init : MethodName := ⟨RX4, "<init>", "()V"⟩
abbrev cX4_face : ByteArray := prog_6_method_2_code
def yX4_face : MethodName := ⟨RX4, "face", "(I)I"⟩
abbrev cX4_fullWeight : ByteArray := prog_6_method_3_code
def yX4_fullWeight : MethodName := ⟨RX4, "fullWeight", "(I)I"⟩
abbrev cX4_tell : ByteArray := prog_6_method_4_code
def yX4_tell : MethodName := ⟨RX4, "tell", "(III)V"⟩
abbrev cX4_oreOf : ByteArray := prog_6_method_5_code
def yX4_oreOf : MethodName := ⟨RX4, "oreOf", "(II)I"⟩
abbrev cX4_addOre : ByteArray := prog_6_method_6_code
def yX4_addOre : MethodName := ⟨RX4, "addOre", "(III)V"⟩
abbrev cX4_unearth : ByteArray := prog_6_method_7_code
def yX4_unearth : MethodName := ⟨RX4, "unearth", "(III)V"⟩
abbrev cX4_moveOre : ByteArray := prog_6_method_8_code
def yX4_moveOre : MethodName := ⟨RX4, "moveOre", "(III)V"⟩
abbrev cX4_dug : ByteArray := prog_6_method_9_code
def yX4_dug : MethodName := ⟨RX4, "dug", "(I)I"⟩
abbrev cX4_oreOfAll : ByteArray := prog_6_method_10_code
def yX4_oreOfAll : MethodName := ⟨RX4, "oreOfAll", "(I)I"⟩
def RX5 : String := "Harbourmint$Voyages"
def TX5 : u_T := fun k => match k with
  | 0 => ("Harbourmint$Voyages", "values", "[I", true)
  | 1 => ("Harbourmint$Voyages", "borne", "[I", true)
  | _ => ("Harbourmint$Voyages", "remainders", "[I", true)
def tyX5 : Nat → FieldType := fun k => match k with
  | 0 => .array .int
  | 1 => .array .int
  | _ => .array .int
abbrev wsX50 : List Cond := u_ws RX5 TX5 3
theorem nmX5 : ∀ a, a < 3 → ∀ b, b < 3 → a ≠ b → (TX5 a).2.1 ≠ (TX5 b).2.1 := by decide +kernel
theorem tyX5_ok : ∀ k, k < 3 → parseFieldDescriptor (TX5 k).2.2.1 = some (tyX5 k) := by decide +kernel
abbrev cX5_init : ByteArray := prog_7_method_1_code
def yX5_init : MethodName := ⟨RX5, "<init>", "()V"⟩
abbrev cX5_value : ByteArray := prog_7_method_2_code
def yX5_value : MethodName := ⟨RX5, "value", "(II)I"⟩
abbrev cX5_addValue : ByteArray := prog_7_method_3_code
def yX5_addValue : MethodName := ⟨RX5, "addValue", "(III)V"⟩
abbrev cX5_borne : ByteArray := prog_7_method_4_code
def yX5_borne : MethodName := ⟨RX5, "borne", "(I)I"⟩
abbrev cX5_part : ByteArray := prog_7_method_5_code
def yX5_part : MethodName := ⟨RX5, "part", "(II)V"⟩
abbrev cX5_valueOfAll : ByteArray := prog_7_method_6_code
def yX5_valueOfAll : MethodName := ⟨RX5, "valueOfAll", "(I)I"⟩
abbrev cX5_greatestRemainder : ByteArray := prog_7_method_7_code
def yX5_greatestRemainder : MethodName := ⟨RX5, "greatestRemainder", "()I"⟩
def RX6 : String := "Harbourmint"
def TX6 : u_T := fun k => match k with
  | 0 => ("Harbourmint", "houses", "LHarbourmint$Houses;", true)
  | 1 => ("Harbourmint", "metals", "LHarbourmint$Metals;", true)
  | 2 => ("Harbourmint", "purse", "LHarbourmint$Coins;", true)
  | 3 => ("Harbourmint", "claims", "LHarbourmint$Claims;", true)
  | 4 => ("Harbourmint", "bills", "LHarbourmint$Bills;", true)
  | 5 => ("Harbourmint", "voyages", "LHarbourmint$Voyages;", true)
  | _ => ("Harbourmint", "lostAmount", "J", false)
def tyX6 : Nat → FieldType := fun k => match k with
  | 0 => .object "Harbourmint$Houses"
  | 1 => .object "Harbourmint$Metals"
  | 2 => .object "Harbourmint$Coins"
  | 3 => .object "Harbourmint$Claims"
  | 4 => .object "Harbourmint$Bills"
  | 5 => .object "Harbourmint$Voyages"
  | _ => .long
abbrev wsX60 : List Cond := u_ws RX6 TX6 7
theorem nmX6 : ∀ a, a < 7 → ∀ b, b < 7 → a ≠ b → (TX6 a).2.1 ≠ (TX6 b).2.1 := by decide +kernel
theorem tyX6_ok : ∀ k, k < 7 → parseFieldDescriptor (TX6 k).2.2.1 = some (tyX6 k) := by decide +kernel
abbrev cX6_init : ByteArray := prog_1_method_1_code
def yX6_init : MethodName := ⟨RX6, "<init>", "()V"⟩
abbrev cX6_addHouse : ByteArray := prog_1_method_2_code
def yX6_addHouse : MethodName := ⟨RX6, "addHouse", "(C)I"⟩
abbrev cX6_kindOf : ByteArray := prog_1_method_3_code
def yX6_kindOf : MethodName := ⟨RX6, "kindOf", "(I)C"⟩
abbrev cX6_dig : ByteArray := prog_1_method_4_code
def yX6_dig : MethodName := ⟨RX6, "dig", "(ICI)I"⟩
abbrev cX6_decree : ByteArray := prog_1_method_5_code
def yX6_decree : MethodName := ⟨RX6, "decree", "(CII)I"⟩
abbrev cX6_mint : ByteArray := prog_1_method_6_code
def yX6_mint : MethodName := ⟨RX6, "mint", "(ICI)I"⟩
abbrev cX6_clip : ByteArray := prog_1_method_7_code
def yX6_clip : MethodName := ⟨RX6, "clip", "(II)I"⟩
abbrev cX6_hoard : ByteArray := prog_1_method_8_code
def yX6_hoard : MethodName := ⟨RX6, "hoard", "(IZ)Z"⟩
abbrev cX6_recoin : ByteArray := prog_1_method_9_code
def yX6_recoin : MethodName := ⟨RX6, "recoin", "(IC)I"⟩
abbrev cX6_pay : ByteArray := prog_1_method_10_code
def yX6_pay : MethodName := ⟨RX6, "pay", "(IICI)I"⟩
abbrev cX6_deposit : ByteArray := prog_1_method_11_code
def yX6_deposit : MethodName := ⟨RX6, "deposit", "(IICI)I"⟩
abbrev cX6_withdraw : ByteArray := prog_1_method_12_code
def yX6_withdraw : MethodName := ⟨RX6, "withdraw", "(IICI)C"⟩
abbrev cX6_lend : ByteArray := prog_1_method_13_code
def yX6_lend : MethodName := ⟨RX6, "lend", "(III)I"⟩
abbrev cX6_hand : ByteArray := prog_1_method_14_code
def yX6_hand : MethodName := ⟨RX6, "hand", "(IIII)I"⟩
abbrev cX6_forgive : ByteArray := prog_1_method_15_code
def yX6_forgive : MethodName := ⟨RX6, "forgive", "(III)I"⟩
abbrev cX6_claim : ByteArray := prog_1_method_16_code
def yX6_claim : MethodName := ⟨RX6, "claim", "(II)I"⟩
abbrev cX6_draw : ByteArray := prog_1_method_17_code
def yX6_draw : MethodName := ⟨RX6, "draw", "(IIII)I"⟩
abbrev cX6_endorse : ByteArray := prog_1_method_18_code
def yX6_endorse : MethodName := ⟨RX6, "endorse", "(II)I"⟩
abbrev cX6_holderOf : ByteArray := prog_1_method_19_code
def yX6_holderOf : MethodName := ⟨RX6, "holderOf", "(I)I"⟩
abbrev cX6_nextDay : ByteArray := prog_1_method_20_code
def yX6_nextDay : MethodName := ⟨RX6, "nextDay", "()I"⟩
abbrev cX6_addShare : ByteArray := prog_1_method_21_code
def yX6_addShare : MethodName := ⟨RX6, "addShare", "(III)I"⟩
abbrev cX6_throwOver : ByteArray := prog_1_method_22_code
def yX6_throwOver : MethodName := ⟨RX6, "throwOver", "(III)I"⟩
abbrev cX6_coins : ByteArray := prog_1_method_23_code
def yX6_coins : MethodName := ⟨RX6, "coins", "(IC)I"⟩
abbrev cX6_weightOf : ByteArray := prog_1_method_24_code
def yX6_weightOf : MethodName := ⟨RX6, "weightOf", "(I)I"⟩
abbrev cX6_ownerOf : ByteArray := prog_1_method_25_code
def yX6_ownerOf : MethodName := ⟨RX6, "ownerOf", "(I)I"⟩
abbrev cX6_owners : ByteArray := prog_1_method_26_code
def yX6_owners : MethodName := ⟨RX6, "owners", "(I)I"⟩
abbrev cX6_ore : ByteArray := prog_1_method_27_code
def yX6_ore : MethodName := ⟨RX6, "ore", "(IC)I"⟩
abbrev cX6_wealth : ByteArray := prog_1_method_28_code
def yX6_wealth : MethodName := ⟨RX6, "wealth", "(I)J"⟩
abbrev cX6_lost : ByteArray := prog_1_method_29_code
def yX6_lost : MethodName := ⟨RX6, "lost", "()J"⟩
abbrev cX6_lightShare : ByteArray := prog_1_method_30_code
def yX6_lightShare : MethodName := ⟨RX6, "lightShare", "()F"⟩
abbrev cX6_meanWeight : ByteArray := prog_1_method_31_code
def yX6_meanWeight : MethodName := ⟨RX6, "meanWeight", "()D"⟩
abbrev cX6_isSound : ByteArray := prog_1_method_32_code
def yX6_isSound : MethodName := ⟨RX6, "isSound", "()Z"⟩
abbrev cX6_needHouse : ByteArray := prog_1_method_33_code
def yX6_needHouse : MethodName := ⟨RX6, "needHouse", "(I)V"⟩
abbrev cX6_needCoin : ByteArray := prog_1_method_34_code
def yX6_needCoin : MethodName := ⟨RX6, "needCoin", "(I)V"⟩
abbrev cX6_needBill : ByteArray := prog_1_method_35_code
def yX6_needBill : MethodName := ⟨RX6, "needBill", "(I)V"⟩
abbrev cX6_needVoyage : ByteArray := prog_1_method_36_code
def yX6_needVoyage : MethodName := ⟨RX6, "needVoyage", "(I)V"⟩
abbrev cX6_metalNumber : ByteArray := prog_1_method_37_code
def yX6_metalNumber : MethodName := ⟨RX6, "metalNumber", "(C)I"⟩
abbrev cX6_needRange : ByteArray := prog_1_method_38_code
def yX6_needRange : MethodName := ⟨RX6, "needRange", "(II)V"⟩
abbrev cX6_needDifferent : ByteArray := prog_1_method_39_code
def yX6_needDifferent : MethodName := ⟨RX6, "needDifferent", "(II)V"⟩
abbrev cX6_needCustomer : ByteArray := prog_1_method_40_code
def yX6_needCustomer : MethodName := ⟨RX6, "needCustomer", "(II)V"⟩
abbrev cX6_needOpen : ByteArray := prog_1_method_41_code
def yX6_needOpen : MethodName := ⟨RX6, "needOpen", "(I)V"⟩
abbrev cX6_needOpenSharers : ByteArray := prog_1_method_42_code
def yX6_needOpenSharers : MethodName := ⟨RX6, "needOpenSharers", "(I)V"⟩
abbrev cX6_needWhole : ByteArray := prog_1_method_43_code
def yX6_needWhole : MethodName := ⟨RX6, "needWhole", "(I)V"⟩
abbrev cX6_needLoose : ByteArray := prog_1_method_44_code
def yX6_needLoose : MethodName := ⟨RX6, "needLoose", "(III)V"⟩
abbrev cX6_needClaim : ByteArray := prog_1_method_45_code
def yX6_needClaim : MethodName := ⟨RX6, "needClaim", "(III)V"⟩
abbrev cX6_needCoins : ByteArray := prog_1_method_46_code
def yX6_needCoins : MethodName := ⟨RX6, "needCoins", "()I"⟩
abbrev cX6_strike : ByteArray := prog_1_method_47_code
def yX6_strike : MethodName := ⟨RX6, "strike", "(III)I"⟩
abbrev cX6_fail : ByteArray := prog_1_method_48_code
def yX6_fail : MethodName := ⟨RX6, "fail", "(I)V"⟩
abbrev cX6_partCoins : ByteArray := prog_1_method_49_code
def yX6_partCoins : MethodName := ⟨RX6, "partCoins", "(I)V"⟩
abbrev cX6_settle : ByteArray := prog_1_method_50_code
def yX6_settle : MethodName := ⟨RX6, "settle", "(I)Z"⟩
abbrev cX6_firstOpenLiable : ByteArray := prog_1_method_51_code
def yX6_firstOpenLiable : MethodName := ⟨RX6, "firstOpenLiable", "(I)I"⟩
abbrev cX6_isMetalWhole : ByteArray := prog_1_method_52_code
def yX6_isMetalWhole : MethodName := ⟨RX6, "isMetalWhole", "(I)Z"⟩
abbrev cX6_areClaimsSound : ByteArray := prog_1_method_53_code
def yX6_areClaimsSound : MethodName := ⟨RX6, "areClaimsSound", "()Z"⟩
def RX7 : String := "HarbourmintModel$Bill"
def TX7 : u_T := fun k => match k with
  | 0 => ("HarbourmintModel$Bill", "drawer", "I", true)
  | 1 => ("HarbourmintModel$Bill", "on", "I", true)
  | 2 => ("HarbourmintModel$Bill", "amount", "I", true)
  | 3 => ("HarbourmintModel$Bill", "due", "I", true)
  | 4 => ("HarbourmintModel$Bill", "endorsers", "Ljava/util/List;", true)
  | 5 => ("HarbourmintModel$Bill", "holder", "I", false)
  | _ => ("HarbourmintModel$Bill", "isOver", "Z", false)
def tyX7 : Nat → FieldType := fun k => match k with
  | 0 => .int
  | 1 => .int
  | 2 => .int
  | 3 => .int
  | 4 => .object "java/util/List"
  | 5 => .int
  | _ => .boolean
abbrev wsX70 : List Cond := u_ws RX7 TX7 7
theorem nmX7 : ∀ a, a < 7 → ∀ b, b < 7 → a ≠ b → (TX7 a).2.1 ≠ (TX7 b).2.1 := by decide +kernel
theorem tyX7_ok : ∀ k, k < 7 → parseFieldDescriptor (TX7 k).2.2.1 = some (tyX7 k) := by decide +kernel
abbrev cX7_init : ByteArray := prog_10_method_1_code
def yX7_init : MethodName := ⟨RX7, "<init>", "(IIII)V"⟩
def RX8 : String := "HarbourmintModel$Coin"
def TX8 : u_T := fun k => match k with
  | 0 => ("HarbourmintModel$Coin", "number", "I", true)
  | 1 => ("HarbourmintModel$Coin", "metal", "I", true)
  | 2 => ("HarbourmintModel$Coin", "weight", "I", false)
  | 3 => ("HarbourmintModel$Coin", "owner", "I", false)
  | 4 => ("HarbourmintModel$Coin", "owners", "I", false)
  | _ => ("HarbourmintModel$Coin", "isHoarded", "Z", false)
def tyX8 : Nat → FieldType := fun k => match k with
  | 0 => .int
  | 1 => .int
  | 2 => .int
  | 3 => .int
  | 4 => .int
  | _ => .boolean
abbrev wsX80 : List Cond := u_ws RX8 TX8 6
theorem nmX8 : ∀ a, a < 6 → ∀ b, b < 6 → a ≠ b → (TX8 a).2.1 ≠ (TX8 b).2.1 := by decide +kernel
theorem tyX8_ok : ∀ k, k < 6 → parseFieldDescriptor (TX8 k).2.2.1 = some (tyX8 k) := by decide +kernel
abbrev cX8_init : ByteArray := prog_11_method_1_code
def yX8_init : MethodName := ⟨RX8, "<init>", "(IIII)V"⟩
abbrev cX8_goes : ByteArray := prog_11_method_2_code
def yX8_goes : MethodName := ⟨RX8, "goes", "(I)V"⟩
def RX9 : String := "HarbourmintModel"
def TX9 : u_T := fun k => match k with
  | 0 => ("HarbourmintModel", "thrown", "I", false)
  | 1 => ("HarbourmintModel", "kinds", "Ljava/util/List;", true)
  | 2 => ("HarbourmintModel", "faces", "[I", true)
  | 3 => ("HarbourmintModel", "full", "[I", true)
  | 4 => ("HarbourmintModel", "ores", "[[I", true)
  | 5 => ("HarbourmintModel", "coins", "Ljava/util/List;", true)
  | 6 => ("HarbourmintModel", "claims", "[[I", true)
  | 7 => ("HarbourmintModel", "lost", "J", false)
  | 8 => ("HarbourmintModel", "bills", "Ljava/util/List;", true)
  | 9 => ("HarbourmintModel", "day", "I", false)
  | _ => ("HarbourmintModel", "shares", "[[I", true)
def tyX9 : Nat → FieldType := fun k => match k with
  | 0 => .int
  | 1 => .object "java/util/List"
  | 2 => .array .int
  | 3 => .array .int
  | 4 => .array (.array .int)
  | 5 => .object "java/util/List"
  | 6 => .array (.array .int)
  | 7 => .long
  | 8 => .object "java/util/List"
  | 9 => .int
  | _ => .array (.array .int)
abbrev wsX90 : List Cond := u_ws RX9 TX9 11
theorem nmX9 : ∀ a, a < 11 → ∀ b, b < 11 → a ≠ b → (TX9 a).2.1 ≠ (TX9 b).2.1 := by decide +kernel
theorem tyX9_ok : ∀ k, k < 11 → parseFieldDescriptor (TX9 k).2.2.1 = some (tyX9 k) := by decide +kernel
abbrev cX9_thrown : ByteArray := prog_9_method_1_code
def yX9_thrown : MethodName := ⟨RX9, "thrown", "()I"⟩
abbrev cX9_isWrong : ByteArray := prog_9_method_2_code
def yX9_isWrong : MethodName := ⟨RX9, "isWrong", "(I)Z"⟩
abbrev cX9_isBetween : ByteArray := prog_9_method_3_code
def yX9_isBetween : MethodName := ⟨RX9, "isBetween", "(III)Z"⟩
abbrev cX9_init : ByteArray := prog_9_method_4_code
def yX9_init : MethodName := ⟨RX9, "<init>", "()V"⟩
abbrev cX9_isHouse : ByteArray := prog_9_method_5_code
def yX9_isHouse : MethodName := ⟨RX9, "isHouse", "(I)Z"⟩
abbrev cX9_hasFailed : ByteArray := prog_9_method_6_code
def yX9_hasFailed : MethodName := ⟨RX9, "hasFailed", "(I)Z"⟩
abbrev cX9_isMetal : ByteArray := prog_9_method_7_code
def yX9_isMetal : MethodName := ⟨RX9, "isMetal", "(C)Z"⟩
abbrev cX9_addHouse : ByteArray := prog_9_method_8_code
def yX9_addHouse : MethodName := ⟨RX9, "addHouse", "(C)I"⟩
abbrev cX9_kindOf : ByteArray := prog_9_method_9_code
def yX9_kindOf : MethodName := ⟨RX9, "kindOf", "(I)C"⟩
abbrev cX9_dig : ByteArray := prog_9_method_10_code
def yX9_dig : MethodName := ⟨RX9, "dig", "(ICI)I"⟩
abbrev cX9_decree : ByteArray := prog_9_method_11_code
def yX9_decree : MethodName := ⟨RX9, "decree", "(CII)I"⟩
abbrev cX9_mints : ByteArray := prog_9_method_12_code
def yX9_mints : MethodName := ⟨RX9, "mints", "(III)V"⟩
abbrev cX9_mint : ByteArray := prog_9_method_13_code
def yX9_mint : MethodName := ⟨RX9, "mint", "(ICI)I"⟩
abbrev cX9_isCoin : ByteArray := prog_9_method_14_code
def yX9_isCoin : MethodName := ⟨RX9, "isCoin", "(I)Z"⟩
abbrev cX9_isMelted : ByteArray := prog_9_method_15_code
def yX9_isMelted : MethodName := ⟨RX9, "isMelted", "(I)Z"⟩
abbrev cX9_clip : ByteArray := prog_9_method_16_code
def yX9_clip : MethodName := ⟨RX9, "clip", "(II)I"⟩
abbrev cX9_hoard : ByteArray := prog_9_method_17_code
def yX9_hoard : MethodName := ⟨RX9, "hoard", "(IZ)Z"⟩
abbrev cX9_recoin : ByteArray := prog_9_method_18_code
def yX9_recoin : MethodName := ⟨RX9, "recoin", "(IC)I"⟩
abbrev cX9_lightest : ByteArray := prog_9_method_19_code
def yX9_lightest : MethodName := ⟨RX9, "lightest", "(III)Ljava/util/List;"⟩
abbrev cX9_gives : ByteArray := prog_9_method_20_code
def yX9_gives : MethodName := ⟨RX9, "gives", "(Ljava/util/List;I)I"⟩
abbrev cX9_isNoGiving : ByteArray := prog_9_method_21_code
def yX9_isNoGiving : MethodName := ⟨RX9, "isNoGiving", "(IICIZ)Z"⟩
abbrev cX9_wasBank : ByteArray := prog_9_method_22_code
def yX9_wasBank : MethodName := ⟨RX9, "wasBank", "(I)Z"⟩
abbrev cX9_pay : ByteArray := prog_9_method_23_code
def yX9_pay : MethodName := ⟨RX9, "pay", "(IICI)I"⟩
abbrev cX9_deposit : ByteArray := prog_9_method_24_code
def yX9_deposit : MethodName := ⟨RX9, "deposit", "(IICI)I"⟩
abbrev cX9_withdraw : ByteArray := prog_9_method_25_code
def yX9_withdraw : MethodName := ⟨RX9, "withdraw", "(IICI)C"⟩
abbrev cX9_heaviest : ByteArray := prog_9_method_26_code
def yX9_heaviest : MethodName := ⟨RX9, "heaviest", "(I)LHarbourmintModel$Coin;"⟩
abbrev cX9_greatest : ByteArray := prog_9_method_27_code
def yX9_greatest : MethodName := ⟨RX9, "greatest", "(I)I"⟩
abbrev cX9_fails : ByteArray := prog_9_method_28_code
def yX9_fails : MethodName := ⟨RX9, "fails", "(I)V"⟩
abbrev cX9_lend : ByteArray := prog_9_method_29_code
def yX9_lend : MethodName := ⟨RX9, "lend", "(III)I"⟩
abbrev cX9_hand : ByteArray := prog_9_method_30_code
def yX9_hand : MethodName := ⟨RX9, "hand", "(IIII)I"⟩
abbrev cX9_forgive : ByteArray := prog_9_method_31_code
def yX9_forgive : MethodName := ⟨RX9, "forgive", "(III)I"⟩
abbrev cX9_claim : ByteArray := prog_9_method_32_code
def yX9_claim : MethodName := ⟨RX9, "claim", "(II)I"⟩
abbrev cX9_draw : ByteArray := prog_9_method_33_code
def yX9_draw : MethodName := ⟨RX9, "draw", "(IIII)I"⟩
abbrev cX9_isBill : ByteArray := prog_9_method_34_code
def yX9_isBill : MethodName := ⟨RX9, "isBill", "(I)Z"⟩
abbrev cX9_endorse : ByteArray := prog_9_method_35_code
def yX9_endorse : MethodName := ⟨RX9, "endorse", "(II)I"⟩
abbrev cX9_holderOf : ByteArray := prog_9_method_36_code
def yX9_holderOf : MethodName := ⟨RX9, "holderOf", "(I)I"⟩
abbrev cX9_nextDay : ByteArray := prog_9_method_37_code
def yX9_nextDay : MethodName := ⟨RX9, "nextDay", "()I"⟩
abbrev cX9_addShare : ByteArray := prog_9_method_38_code
def yX9_addShare : MethodName := ⟨RX9, "addShare", "(III)I"⟩
abbrev cX9_throwOver : ByteArray := prog_9_method_39_code
def yX9_throwOver : MethodName := ⟨RX9, "throwOver", "(III)I"⟩
abbrev cX9_coins : ByteArray := prog_9_method_40_code
def yX9_coins : MethodName := ⟨RX9, "coins", "(IC)I"⟩
abbrev cX9_weightOf : ByteArray := prog_9_method_41_code
def yX9_weightOf : MethodName := ⟨RX9, "weightOf", "(I)I"⟩
abbrev cX9_ownerOf : ByteArray := prog_9_method_42_code
def yX9_ownerOf : MethodName := ⟨RX9, "ownerOf", "(I)I"⟩
abbrev cX9_owners : ByteArray := prog_9_method_43_code
def yX9_owners : MethodName := ⟨RX9, "owners", "(I)I"⟩
abbrev cX9_ore : ByteArray := prog_9_method_44_code
def yX9_ore : MethodName := ⟨RX9, "ore", "(IC)I"⟩
abbrev cX9_wealth : ByteArray := prog_9_method_45_code
def yX9_wealth : MethodName := ⟨RX9, "wealth", "(I)J"⟩
abbrev cX9_lost : ByteArray := prog_9_method_46_code
def yX9_lost : MethodName := ⟨RX9, "lost", "()J"⟩
abbrev cX9_lightShare : ByteArray := prog_9_method_47_code
def yX9_lightShare : MethodName := ⟨RX9, "lightShare", "()F"⟩
abbrev cX9_meanWeight : ByteArray := prog_9_method_48_code
def yX9_meanWeight : MethodName := ⟨RX9, "meanWeight", "()D"⟩
abbrev cX9_isSound : ByteArray := prog_9_method_49_code
def yX9_isSound : MethodName := ⟨RX9, "isSound", "()Z"⟩
def RJx145de : String := "java/io/Serializable"
def TJx145de : u_T := fun k => match k with
  | _ => ("", "", "", false)
def tyJx145de : Nat → FieldType := fun k => match k with
  | _ => .int
abbrev wsJx145de0 : List Cond := u_ws RJx145de TJx145de 0
theorem nmJx145de : ∀ a, a < 0 → ∀ b, b < 0 → a ≠ b → (TJx145de a).2.1 ≠ (TJx145de b).2.1 := by decide +kernel
theorem tyJx145de_ok : ∀ k, k < 0 → parseFieldDescriptor (TJx145de k).2.2.1 = some (tyJx145de k) := by decide +kernel
def RJ5 : String := "java/lang/AbstractStringBuilder"
def TJ5 : u_T := fun k => match k with
  | _ => ("", "", "", false)
def tyJ5 : Nat → FieldType := fun k => match k with
  | _ => .int
abbrev wsJ50 : List Cond := u_ws RJ5 TJ5 0
theorem nmJ5 : ∀ a, a < 0 → ∀ b, b < 0 → a ≠ b → (TJ5 a).2.1 ≠ (TJ5 b).2.1 := by decide +kernel
theorem tyJ5_ok : ∀ k, k < 0 → parseFieldDescriptor (TJ5 k).2.2.1 = some (tyJ5 k) := by decide +kernel
abbrev cJ5_init_d00df : ByteArray := prog_13_method_2_code
def yJ5_init_d00df : MethodName := ⟨RJ5, "<init>", "(I)V"⟩
abbrev cJ5_length_8abf5 : ByteArray := prog_13_method_6_code
def yJ5_length_8abf5 : MethodName := ⟨RJ5, "length", "()I"⟩
abbrev cJ5_ensureCapacityInternal_d00df : ByteArray := prog_13_method_9_code
def yJ5_ensureCapacityInternal_d00df : MethodName := ⟨RJ5, "ensureCapacityInternal", "(I)V"⟩
abbrev cJ5_newCapacity_0f7a4 : ByteArray := prog_13_method_10_code
def yJ5_newCapacity_0f7a4 : MethodName := ⟨RJ5, "newCapacity", "(I)I"⟩
abbrev cJ5_inflate_da8c8 : ByteArray := prog_13_method_11_code
def yJ5_inflate_da8c8 : MethodName := ⟨RJ5, "inflate", "()V"⟩
abbrev cJ5_append_cf1ce : ByteArray := prog_13_method_22_code
def yJ5_append_cf1ce : MethodName := ⟨RJ5, "append", "(Ljava/lang/String;)Ljava/lang/AbstractStringBuilder;"⟩
abbrev cJ5_appendNull_278bc : ByteArray := prog_13_method_26_code
def yJ5_appendNull_278bc : MethodName := ⟨RJ5, "appendNull", "()Ljava/lang/AbstractStringBuilder;"⟩
abbrev cJ5_append_c97b9 : ByteArray := prog_13_method_32_code
def yJ5_append_c97b9 : MethodName := ⟨RJ5, "append", "(I)Ljava/lang/AbstractStringBuilder;"⟩
abbrev cJ5_getValue_6d5f1 : ByteArray := prog_13_method_64_code
def yJ5_getValue_6d5f1 : MethodName := ⟨RJ5, "getValue", "()[B"⟩
abbrev cJ5_isLatin1_aae02 : ByteArray := prog_13_method_68_code
def yJ5_isLatin1_aae02 : MethodName := ⟨RJ5, "isLatin1", "()Z"⟩
abbrev cJ5_inflateIfNeededFor_a7421 : ByteArray := prog_13_method_71_code
def yJ5_inflateIfNeededFor_a7421 : MethodName := ⟨RJ5, "inflateIfNeededFor", "(Ljava/lang/String;)V"⟩
abbrev cJ5_putStringAt_47b60 : ByteArray := prog_13_method_73_code
def yJ5_putStringAt_47b60 : MethodName := ⟨RJ5, "putStringAt", "(ILjava/lang/String;)V"⟩
def RJx2cfe8 : String := "java/lang/Appendable"
def TJx2cfe8 : u_T := fun k => match k with
  | _ => ("", "", "", false)
def tyJx2cfe8 : Nat → FieldType := fun k => match k with
  | _ => .int
abbrev wsJx2cfe80 : List Cond := u_ws RJx2cfe8 TJx2cfe8 0
theorem nmJx2cfe8 : ∀ a, a < 0 → ∀ b, b < 0 → a ≠ b → (TJx2cfe8 a).2.1 ≠ (TJx2cfe8 b).2.1 := by decide +kernel
theorem tyJx2cfe8_ok : ∀ k, k < 0 → parseFieldDescriptor (TJx2cfe8 k).2.2.1 = some (tyJx2cfe8 k) := by decide +kernel
def RJx00060 : String := "java/lang/ArrayIndexOutOfBoundsException"
def TJx00060 : u_T := fun k => match k with
  | 0 => ("java/lang/Throwable", "backtrace", "Ljava/lang/Object;", false)
  | 1 => ("java/lang/Throwable", "detailMessage", "Ljava/lang/String;", false)
  | 2 => ("java/lang/Throwable", "cause", "Ljava/lang/Throwable;", false)
  | 3 => ("java/lang/Throwable", "stackTrace", "[Ljava/lang/StackTraceElement;", false)
  | 4 => ("java/lang/Throwable", "depth", "I", false)
  | _ => ("java/lang/Throwable", "suppressedExceptions", "Ljava/util/List;", false)
def tyJx00060 : Nat → FieldType := fun k => match k with
  | 0 => .object "java/lang/Object"
  | 1 => .object "java/lang/String"
  | 2 => .object "java/lang/Throwable"
  | 3 => .array (.object "java/lang/StackTraceElement")
  | 4 => .int
  | _ => .object "java/util/List"
abbrev wsJx000600 : List Cond := u_ws RJx00060 TJx00060 6
theorem nmJx00060 : ∀ a, a < 6 → ∀ b, b < 6 → a ≠ b → (TJx00060 a).2.1 ≠ (TJx00060 b).2.1 := by decide +kernel
theorem tyJx00060_ok : ∀ k, k < 6 → parseFieldDescriptor (TJx00060 k).2.2.1 = some (tyJx00060 k) := by decide +kernel
abbrev cJx00060_init_a7421 : ByteArray := prog_16_method_2_code
def yJx00060_init_a7421 : MethodName := ⟨RJx00060, "<init>", "(Ljava/lang/String;)V"⟩
def RJx9f9b0 : String := "java/lang/CharSequence"
def TJx9f9b0 : u_T := fun k => match k with
  | _ => ("", "", "", false)
def tyJx9f9b0 : Nat → FieldType := fun k => match k with
  | _ => .int
abbrev wsJx9f9b00 : List Cond := u_ws RJx9f9b0 TJx9f9b0 0
theorem nmJx9f9b0 : ∀ a, a < 0 → ∀ b, b < 0 → a ≠ b → (TJx9f9b0 a).2.1 ≠ (TJx9f9b0 b).2.1 := by decide +kernel
theorem tyJx9f9b0_ok : ∀ k, k < 0 → parseFieldDescriptor (TJx9f9b0 k).2.2.1 = some (tyJx9f9b0 k) := by decide +kernel
def RJx2885b : String := "java/lang/Character$CharacterCache"
def TJx2885b : u_T := fun k => match k with
  | _ => ("", "", "", false)
def tyJx2885b : Nat → FieldType := fun k => match k with
  | _ => .int
abbrev wsJx2885b0 : List Cond := u_ws RJx2885b TJx2885b 0
theorem nmJx2885b : ∀ a, a < 0 → ∀ b, b < 0 → a ≠ b → (TJx2885b a).2.1 ≠ (TJx2885b b).2.1 := by decide +kernel
theorem tyJx2885b_ok : ∀ k, k < 0 → parseFieldDescriptor (TJx2885b k).2.2.1 = some (tyJx2885b k) := by decide +kernel
def RJ11 : String := "java/lang/Character"
def TJ11 : u_T := fun k => match k with
  | _ => ("java/lang/Character", "value", "C", true)
def tyJ11 : Nat → FieldType := fun k => match k with
  | _ => .char
abbrev wsJ110 : List Cond := u_ws RJ11 TJ11 1
theorem nmJ11 : ∀ a, a < 1 → ∀ b, b < 1 → a ≠ b → (TJ11 a).2.1 ≠ (TJ11 b).2.1 := by decide +kernel
theorem tyJ11_ok : ∀ k, k < 1 → parseFieldDescriptor (TJ11 k).2.2.1 = some (tyJ11 k) := by decide +kernel
abbrev cJ11_init_060e9 : ByteArray := prog_18_method_2_code
def yJ11_init_060e9 : MethodName := ⟨RJ11, "<init>", "(C)V"⟩
abbrev cJ11_valueOf_f0083 : ByteArray := prog_18_method_3_code
def yJ11_valueOf_f0083 : MethodName := ⟨RJ11, "valueOf", "(C)Ljava/lang/Character;"⟩
abbrev cJ11_charValue_ee9a4 : ByteArray := prog_18_method_4_code
def yJ11_charValue_ee9a4 : MethodName := ⟨RJ11, "charValue", "()C"⟩
abbrev cJ11_isValidCodePoint_9a6ad : ByteArray := prog_18_method_11_code
def yJ11_isValidCodePoint_9a6ad : MethodName := ⟨RJ11, "isValidCodePoint", "(I)Z"⟩
abbrev cJ11_highSurrogate_5068e : ByteArray := prog_18_method_28_code
def yJ11_highSurrogate_5068e : MethodName := ⟨RJ11, "highSurrogate", "(I)C"⟩
abbrev cJ11_lowSurrogate_5068e : ByteArray := prog_18_method_29_code
def yJ11_lowSurrogate_5068e : MethodName := ⟨RJ11, "lowSurrogate", "(I)C"⟩
def RJx8e188 : String := "java/lang/Cloneable"
def TJx8e188 : u_T := fun k => match k with
  | _ => ("", "", "", false)
def tyJx8e188 : Nat → FieldType := fun k => match k with
  | _ => .int
abbrev wsJx8e1880 : List Cond := u_ws RJx8e188 TJx8e188 0
theorem nmJx8e188 : ∀ a, a < 0 → ∀ b, b < 0 → a ≠ b → (TJx8e188 a).2.1 ≠ (TJx8e188 b).2.1 := by decide +kernel
theorem tyJx8e188_ok : ∀ k, k < 0 → parseFieldDescriptor (TJx8e188 k).2.2.1 = some (tyJx8e188 k) := by decide +kernel
def RJxb160c : String := "java/lang/Comparable"
def TJxb160c : u_T := fun k => match k with
  | _ => ("", "", "", false)
def tyJxb160c : Nat → FieldType := fun k => match k with
  | _ => .int
abbrev wsJxb160c0 : List Cond := u_ws RJxb160c TJxb160c 0
theorem nmJxb160c : ∀ a, a < 0 → ∀ b, b < 0 → a ≠ b → (TJxb160c a).2.1 ≠ (TJxb160c b).2.1 := by decide +kernel
theorem tyJxb160c_ok : ∀ k, k < 0 → parseFieldDescriptor (TJxb160c k).2.2.1 = some (tyJxb160c k) := by decide +kernel
def RJxabbfe : String := "java/lang/Integer$IntegerCache"
def TJxabbfe : u_T := fun k => match k with
  | _ => ("", "", "", false)
def tyJxabbfe : Nat → FieldType := fun k => match k with
  | _ => .int
abbrev wsJxabbfe0 : List Cond := u_ws RJxabbfe TJxabbfe 0
theorem nmJxabbfe : ∀ a, a < 0 → ∀ b, b < 0 → a ≠ b → (TJxabbfe a).2.1 ≠ (TJxabbfe b).2.1 := by decide +kernel
theorem tyJxabbfe_ok : ∀ k, k < 0 → parseFieldDescriptor (TJxabbfe k).2.2.1 = some (tyJxabbfe k) := by decide +kernel
def RJ6 : String := "java/lang/Integer"
def TJ6 : u_T := fun k => match k with
  | _ => ("java/lang/Integer", "value", "I", true)
def tyJ6 : Nat → FieldType := fun k => match k with
  | _ => .int
abbrev wsJ60 : List Cond := u_ws RJ6 TJ6 1
theorem nmJ6 : ∀ a, a < 1 → ∀ b, b < 1 → a ≠ b → (TJ6 a).2.1 ≠ (TJ6 b).2.1 := by decide +kernel
theorem tyJ6_ok : ∀ k, k < 1 → parseFieldDescriptor (TJ6 k).2.2.1 = some (tyJ6 k) := by decide +kernel
abbrev cJ6_getChars_ba4f3 : ByteArray := prog_26_method_12_code
def yJ6_getChars_ba4f3 : MethodName := ⟨RJ6, "getChars", "(II[B)I"⟩
abbrev cJ6_stringSize_0f7a4 : ByteArray := prog_26_method_13_code
def yJ6_stringSize_0f7a4 : MethodName := ⟨RJ6, "stringSize", "(I)I"⟩
abbrev cJ6_valueOf_2dffe : ByteArray := prog_26_method_22_code
def yJ6_valueOf_2dffe : MethodName := ⟨RJ6, "valueOf", "(I)Ljava/lang/Integer;"⟩
abbrev cJ6_init_d00df : ByteArray := prog_26_method_23_code
def yJ6_init_d00df : MethodName := ⟨RJ6, "<init>", "(I)V"⟩
abbrev cJ6_intValue_8abf5 : ByteArray := prog_26_method_27_code
def yJ6_intValue_8abf5 : MethodName := ⟨RJ6, "intValue", "()I"⟩
def RJxab1ab : String := "java/lang/Iterable"
def TJxab1ab : u_T := fun k => match k with
  | _ => ("", "", "", false)
def tyJxab1ab : Nat → FieldType := fun k => match k with
  | _ => .int
abbrev wsJxab1ab0 : List Cond := u_ws RJxab1ab TJxab1ab 0
theorem nmJxab1ab : ∀ a, a < 0 → ∀ b, b < 0 → a ≠ b → (TJxab1ab a).2.1 ≠ (TJxab1ab b).2.1 := by decide +kernel
theorem tyJxab1ab_ok : ∀ k, k < 0 → parseFieldDescriptor (TJxab1ab k).2.2.1 = some (tyJxab1ab k) := by decide +kernel
def RJ9 : String := "java/lang/Math"
def TJ9 : u_T := fun k => match k with
  | _ => ("", "", "", false)
def tyJ9 : Nat → FieldType := fun k => match k with
  | _ => .int
abbrev wsJ90 : List Cond := u_ws RJ9 TJ9 0
theorem nmJ9 : ∀ a, a < 0 → ∀ b, b < 0 → a ≠ b → (TJ9 a).2.1 ≠ (TJ9 b).2.1 := by decide +kernel
theorem tyJ9_ok : ∀ k, k < 0 → parseFieldDescriptor (TJ9 k).2.2.1 = some (tyJ9 k) := by decide +kernel
abbrev cJ9_max_7cf53 : ByteArray := prog_29_method_65_code
def yJ9_max_7cf53 : MethodName := ⟨RJ9, "max", "(II)I"⟩
abbrev cJ9_min_7cf53 : ByteArray := prog_29_method_69_code
def yJ9_min_7cf53 : MethodName := ⟨RJ9, "min", "(II)I"⟩
def RJxd2413 : String := "java/lang/Number"
def TJxd2413 : u_T := fun k => match k with
  | _ => ("", "", "", false)
def tyJxd2413 : Nat → FieldType := fun k => match k with
  | _ => .int
abbrev wsJxd24130 : List Cond := u_ws RJxd2413 TJxd2413 0
theorem nmJxd2413 : ∀ a, a < 0 → ∀ b, b < 0 → a ≠ b → (TJxd2413 a).2.1 ≠ (TJxd2413 b).2.1 := by decide +kernel
theorem tyJxd2413_ok : ∀ k, k < 0 → parseFieldDescriptor (TJxd2413 k).2.2.1 = some (tyJxd2413 k) := by decide +kernel
abbrev cJxd2413_init_da8c8 : ByteArray := prog_30_method_1_code
def yJxd2413_init_da8c8 : MethodName := ⟨RJxd2413, "<init>", "()V"⟩
def RJ0 : String := "java/lang/String"
def TJ0 : u_T := fun k => match k with
  | 0 => ("java/lang/String", "value", "[B", true)
  | 1 => ("java/lang/String", "coder", "B", true)
  | 2 => ("java/lang/String", "hash", "I", false)
  | _ => ("java/lang/String", "hashIsZero", "Z", false)
def tyJ0 : Nat → FieldType := fun k => match k with
  | 0 => .array .byte
  | 1 => .byte
  | 2 => .int
  | _ => .boolean
abbrev wsJ00 : List Cond := u_ws RJ0 TJ0 4
theorem nmJ0 : ∀ a, a < 4 → ∀ b, b < 4 → a ≠ b → (TJ0 a).2.1 ≠ (TJ0 b).2.1 := by decide +kernel
theorem tyJ0_ok : ∀ k, k < 4 → parseFieldDescriptor (TJ0 k).2.2.1 = some (tyJ0 k) := by decide +kernel
abbrev cJ0_init_81219 : ByteArray := prog_32_method_53_code
def yJ0_init_81219 : MethodName := ⟨RJ0, "<init>", "(Ljava/lang/StringBuilder;)V"⟩
abbrev cJ0_length_8abf5 : ByteArray := prog_32_method_54_code
def yJ0_length_8abf5 : MethodName := ⟨RJ0, "length", "()I"⟩
abbrev cJ0_indexOf_0f7a4 : ByteArray := prog_32_method_79_code
def yJ0_indexOf_0f7a4 : MethodName := ⟨RJ0, "indexOf", "(I)I"⟩
abbrev cJ0_indexOf_7cf53 : ByteArray := prog_32_method_80_code
def yJ0_indexOf_7cf53 : MethodName := ⟨RJ0, "indexOf", "(II)I"⟩
abbrev cJ0_getBytes_840e7 : ByteArray := prog_32_method_147_code
def yJ0_getBytes_840e7 : MethodName := ⟨RJ0, "getBytes", "([BIB)V"⟩
abbrev cJ0_init_db425 : ByteArray := prog_32_method_150_code
def yJ0_init_db425 : MethodName := ⟨RJ0, "<init>", "(Ljava/lang/AbstractStringBuilder;Ljava/lang/Void;)V"⟩
abbrev cJ0_coder_7d493 : ByteArray := prog_32_method_152_code
def yJ0_coder_7d493 : MethodName := ⟨RJ0, "coder", "()B"⟩
abbrev cJ0_isLatin1_aae02 : ByteArray := prog_32_method_154_code
def yJ0_isLatin1_aae02 : MethodName := ⟨RJ0, "isLatin1", "()Z"⟩
abbrev cJ0_checkBoundsOffCount_cabcc : ByteArray := prog_32_method_157_code
def yJ0_checkBoundsOffCount_cabcc : MethodName := ⟨RJ0, "checkBoundsOffCount", "(III)I"⟩
abbrev cJ0_checkBoundsBeginEnd_23922 : ByteArray := prog_32_method_158_code
def yJ0_checkBoundsBeginEnd_23922 : MethodName := ⟨RJ0, "checkBoundsBeginEnd", "(III)V"⟩
def RJ4 : String := "java/lang/StringBuilder"
def TJ4 : u_T := fun k => match k with
  | 0 => ("java/lang/AbstractStringBuilder", "value", "[B", false)
  | 1 => ("java/lang/AbstractStringBuilder", "coder", "B", false)
  | 2 => ("java/lang/AbstractStringBuilder", "maybeLatin1", "Z", false)
  | _ => ("java/lang/AbstractStringBuilder", "count", "I", false)
def tyJ4 : Nat → FieldType := fun k => match k with
  | 0 => .array .byte
  | 1 => .byte
  | 2 => .boolean
  | _ => .int
abbrev wsJ40 : List Cond := u_ws RJ4 TJ4 4
theorem nmJ4 : ∀ a, a < 4 → ∀ b, b < 4 → a ≠ b → (TJ4 a).2.1 ≠ (TJ4 b).2.1 := by decide +kernel
theorem tyJ4_ok : ∀ k, k < 4 → parseFieldDescriptor (TJ4 k).2.2.1 = some (tyJ4 k) := by decide +kernel
abbrev cJ4_init_da8c8 : ByteArray := prog_33_method_1_code
def yJ4_init_da8c8 : MethodName := ⟨RJ4, "<init>", "()V"⟩
abbrev cJ4_append_15ec4 : ByteArray := prog_33_method_7_code
def yJ4_append_15ec4 : MethodName := ⟨RJ4, "append", "(Ljava/lang/String;)Ljava/lang/StringBuilder;"⟩
abbrev cJ4_append_bf812 : ByteArray := prog_33_method_15_code
def yJ4_append_bf812 : MethodName := ⟨RJ4, "append", "(I)Ljava/lang/StringBuilder;"⟩
abbrev cJ4_toString_0e30d : ByteArray := prog_33_method_42_code
def yJ4_toString_0e30d : MethodName := ⟨RJ4, "toString", "()Ljava/lang/String;"⟩
abbrev cJ4_length_8abf5 : ByteArray := prog_33_method_93_code
def yJ4_length_8abf5 : MethodName := ⟨RJ4, "length", "()I"⟩
def RJ1 : String := "java/lang/StringLatin1"
def TJ1 : u_T := fun k => match k with
  | _ => ("", "", "", false)
def tyJ1 : Nat → FieldType := fun k => match k with
  | _ => .int
abbrev wsJ10 : List Cond := u_ws RJ1 TJ1 0
theorem nmJ1 : ∀ a, a < 0 → ∀ b, b < 0 → a ≠ b → (TJ1 a).2.1 ≠ (TJ1 b).2.1 := by decide +kernel
theorem tyJ1_ok : ∀ k, k < 0 → parseFieldDescriptor (TJ1 k).2.2.1 = some (tyJ1 k) := by decide +kernel
abbrev cJ1_canEncode_9a6ad : ByteArray := prog_34_method_4_code
def yJ1_canEncode_9a6ad : MethodName := ⟨RJ1, "canEncode", "(I)Z"⟩
abbrev cJ1_indexOf_4cfef : ByteArray := prog_34_method_22_code
def yJ1_indexOf_4cfef : MethodName := ⟨RJ1, "indexOf", "([BIII)I"⟩
abbrev cJ1_indexOfChar_4cfef : ByteArray := prog_34_method_23_code
def yJ1_indexOfChar_4cfef : MethodName := ⟨RJ1, "indexOfChar", "([BIII)I"⟩
abbrev cJ1_inflate_0e8fd : ByteArray := prog_34_method_50_code
def yJ1_inflate_0e8fd : MethodName := ⟨RJ1, "inflate", "([BI[BII)V"⟩
def RJ2 : String := "java/lang/StringUTF16"
def TJ2 : u_T := fun k => match k with
  | _ => ("", "", "", false)
def tyJ2 : Nat → FieldType := fun k => match k with
  | _ => .int
abbrev wsJ20 : List Cond := u_ws RJ2 TJ2 0
theorem nmJ2 : ∀ a, a < 0 → ∀ b, b < 0 → a ≠ b → (TJ2 a).2.1 ≠ (TJ2 b).2.1 := by decide +kernel
theorem tyJ2_ok : ∀ k, k < 0 → parseFieldDescriptor (TJ2 k).2.2.1 = some (tyJ2 k) := by decide +kernel
abbrev cJ2_newBytesFor_77867 : ByteArray := prog_35_method_2_code
def yJ2_newBytesFor_77867 : MethodName := ⟨RJ2, "newBytesFor", "(I)[B"⟩
abbrev cJ2_newBytesLength_0f7a4 : ByteArray := prog_35_method_3_code
def yJ2_newBytesLength_0f7a4 : MethodName := ⟨RJ2, "newBytesLength", "(I)I"⟩
abbrev cJ2_putChar_b72d1 : ByteArray := prog_35_method_4_code
def yJ2_putChar_b72d1 : MethodName := ⟨RJ2, "putChar", "([BII)V"⟩
abbrev cJ2_getChar_3b067 : ByteArray := prog_35_method_5_code
def yJ2_getChar_3b067 : MethodName := ⟨RJ2, "getChar", "([BI)C"⟩
abbrev cJ2_length_9d52b : ByteArray := prog_35_method_6_code
def yJ2_length_9d52b : MethodName := ⟨RJ2, "length", "([B)I"⟩
abbrev cJ2_coderFromArrayLen_85cad : ByteArray := prog_35_method_15_code
def yJ2_coderFromArrayLen_85cad : MethodName := ⟨RJ2, "coderFromArrayLen", "([BI)B"⟩
abbrev cJ2_compress_39247 : ByteArray := prog_35_method_17_code
def yJ2_compress_39247 : MethodName := ⟨RJ2, "compress", "([BII)[B"⟩
abbrev cJ2_compress_5af95 : ByteArray := prog_35_method_22_code
def yJ2_compress_5af95 : MethodName := ⟨RJ2, "compress", "([BI[BII)I"⟩
abbrev cJ2_indexOf_4cfef : ByteArray := prog_35_method_40_code
def yJ2_indexOf_4cfef : MethodName := ⟨RJ2, "indexOf", "([BIII)I"⟩
abbrev cJ2_indexOfChar_4cfef : ByteArray := prog_35_method_47_code
def yJ2_indexOfChar_4cfef : MethodName := ⟨RJ2, "indexOfChar", "([BIII)I"⟩
abbrev cJ2_indexOfCharUnsafe_4cfef : ByteArray := prog_35_method_48_code
def yJ2_indexOfCharUnsafe_4cfef : MethodName := ⟨RJ2, "indexOfCharUnsafe", "([BIII)I"⟩
abbrev cJ2_indexOfSupplementary_4cfef : ByteArray := prog_35_method_49_code
def yJ2_indexOfSupplementary_4cfef : MethodName := ⟨RJ2, "indexOfSupplementary", "([BIII)I"⟩
abbrev cJ2_getChars_46870 : ByteArray := prog_35_method_77_code
def yJ2_getChars_46870 : MethodName := ⟨RJ2, "getChars", "(III[B)I"⟩
abbrev cJ2_putCharsAt_cd4e5 : ByteArray := prog_35_method_81_code
def yJ2_putCharsAt_cd4e5 : MethodName := ⟨RJ2, "putCharsAt", "([BICCCC)I"⟩
abbrev cJ2_inflate_0e8fd : ByteArray := prog_35_method_86_code
def yJ2_inflate_0e8fd : MethodName := ⟨RJ2, "inflate", "([BI[BII)V"⟩
abbrev cJ2_getChars_ba4f3 : ByteArray := prog_35_method_89_code
def yJ2_getChars_ba4f3 : MethodName := ⟨RJ2, "getChars", "(II[B)I"⟩
abbrev cJ2_checkBoundsBeginEnd_d044e : ByteArray := prog_35_method_93_code
def yJ2_checkBoundsBeginEnd_d044e : MethodName := ⟨RJ2, "checkBoundsBeginEnd", "(II[B)V"⟩
abbrev cJ2_checkBoundsOffCount_d044e : ByteArray := prog_35_method_94_code
def yJ2_checkBoundsOffCount_d044e : MethodName := ⟨RJ2, "checkBoundsOffCount", "(II[B)V"⟩
def RJ10 : String := "java/lang/System"
def TJ10 : u_T := fun k => match k with
  | _ => ("", "", "", false)
def tyJ10 : Nat → FieldType := fun k => match k with
  | _ => .int
abbrev wsJ100 : List Cond := u_ws RJ10 TJ10 0
theorem nmJ10 : ∀ a, a < 0 → ∀ b, b < 0 → a ≠ b → (TJ10 a).2.1 ≠ (TJ10 b).2.1 := by decide +kernel
theorem tyJ10_ok : ∀ k, k < 0 → parseFieldDescriptor (TJ10 k).2.2.1 = some (tyJ10 k) := by decide +kernel
def RJxfd54e : String := "java/lang/constant/Constable"
def TJxfd54e : u_T := fun k => match k with
  | _ => ("", "", "", false)
def tyJxfd54e : Nat → FieldType := fun k => match k with
  | _ => .int
abbrev wsJxfd54e0 : List Cond := u_ws RJxfd54e TJxfd54e 0
theorem nmJxfd54e : ∀ a, a < 0 → ∀ b, b < 0 → a ≠ b → (TJxfd54e a).2.1 ≠ (TJxfd54e b).2.1 := by decide +kernel
theorem tyJxfd54e_ok : ∀ k, k < 0 → parseFieldDescriptor (TJxfd54e k).2.2.1 = some (tyJxfd54e k) := by decide +kernel
def RJx3cf43 : String := "java/lang/constant/ConstantDesc"
def TJx3cf43 : u_T := fun k => match k with
  | _ => ("", "", "", false)
def tyJx3cf43 : Nat → FieldType := fun k => match k with
  | _ => .int
abbrev wsJx3cf430 : List Cond := u_ws RJx3cf43 TJx3cf43 0
theorem nmJx3cf43 : ∀ a, a < 0 → ∀ b, b < 0 → a ≠ b → (TJx3cf43 a).2.1 ≠ (TJx3cf43 b).2.1 := by decide +kernel
theorem tyJx3cf43_ok : ∀ k, k < 0 → parseFieldDescriptor (TJx3cf43 k).2.2.1 = some (tyJx3cf43 k) := by decide +kernel
def RJxa1e45 : String := "java/util/AbstractCollection"
def TJxa1e45 : u_T := fun k => match k with
  | _ => ("", "", "", false)
def tyJxa1e45 : Nat → FieldType := fun k => match k with
  | _ => .int
abbrev wsJxa1e450 : List Cond := u_ws RJxa1e45 TJxa1e45 0
theorem nmJxa1e45 : ∀ a, a < 0 → ∀ b, b < 0 → a ≠ b → (TJxa1e45 a).2.1 ≠ (TJxa1e45 b).2.1 := by decide +kernel
theorem tyJxa1e45_ok : ∀ k, k < 0 → parseFieldDescriptor (TJxa1e45 k).2.2.1 = some (tyJxa1e45 k) := by decide +kernel
abbrev cJxa1e45_init_da8c8 : ByteArray := prog_41_method_1_code
def yJxa1e45_init_da8c8 : MethodName := ⟨RJxa1e45, "<init>", "()V"⟩
def RJxc12de : String := "java/util/AbstractList"
def TJxc12de : u_T := fun k => match k with
  | _ => ("", "", "", false)
def tyJxc12de : Nat → FieldType := fun k => match k with
  | _ => .int
abbrev wsJxc12de0 : List Cond := u_ws RJxc12de TJxc12de 0
theorem nmJxc12de : ∀ a, a < 0 → ∀ b, b < 0 → a ≠ b → (TJxc12de a).2.1 ≠ (TJxc12de b).2.1 := by decide +kernel
theorem tyJxc12de_ok : ∀ k, k < 0 → parseFieldDescriptor (TJxc12de k).2.2.1 = some (tyJxc12de k) := by decide +kernel
abbrev cJxc12de_init_da8c8 : ByteArray := prog_42_method_1_code
def yJxc12de_init_da8c8 : MethodName := ⟨RJxc12de, "<init>", "()V"⟩
def RJx35411 : String := "java/util/ArrayList$Itr"
def TJx35411 : u_T := fun k => match k with
  | 0 => ("java/util/ArrayList$Itr", "cursor", "I", false)
  | 1 => ("java/util/ArrayList$Itr", "lastRet", "I", false)
  | 2 => ("java/util/ArrayList$Itr", "expectedModCount", "I", false)
  | _ => ("java/util/ArrayList$Itr", "this$0", "Ljava/util/ArrayList;", true)
def tyJx35411 : Nat → FieldType := fun k => match k with
  | 0 => .int
  | 1 => .int
  | 2 => .int
  | _ => .object "java/util/ArrayList"
abbrev wsJx354110 : List Cond := u_ws RJx35411 TJx35411 4
theorem nmJx35411 : ∀ a, a < 4 → ∀ b, b < 4 → a ≠ b → (TJx35411 a).2.1 ≠ (TJx35411 b).2.1 := by decide +kernel
theorem tyJx35411_ok : ∀ k, k < 4 → parseFieldDescriptor (TJx35411 k).2.2.1 = some (tyJx35411 k) := by decide +kernel
abbrev cJx35411_init_45d68 : ByteArray := prog_44_method_1_code
def yJx35411_init_45d68 : MethodName := ⟨RJx35411, "<init>", "(Ljava/util/ArrayList;)V"⟩
abbrev cJx35411_hasNext_aae02 : ByteArray := prog_44_method_2_code
def yJx35411_hasNext_aae02 : MethodName := ⟨RJx35411, "hasNext", "()Z"⟩
abbrev cJx35411_next_0502b : ByteArray := prog_44_method_3_code
def yJx35411_next_0502b : MethodName := ⟨RJx35411, "next", "()Ljava/lang/Object;"⟩
abbrev cJx35411_checkForComodification_da8c8 : ByteArray := prog_44_method_6_code
def yJx35411_checkForComodification_da8c8 : MethodName := ⟨RJx35411, "checkForComodification", "()V"⟩
def RJx4a65c : String := "java/util/ArrayList"
def TJx4a65c : u_T := fun k => match k with
  | 0 => ("java/util/AbstractList", "modCount", "I", false)
  | 1 => ("java/util/ArrayList", "elementData", "[Ljava/lang/Object;", false)
  | _ => ("java/util/ArrayList", "size", "I", false)
def tyJx4a65c : Nat → FieldType := fun k => match k with
  | 0 => .int
  | 1 => .array (.object "java/lang/Object")
  | _ => .int
abbrev wsJx4a65c0 : List Cond := u_ws RJx4a65c TJx4a65c 3
theorem nmJx4a65c : ∀ a, a < 3 → ∀ b, b < 3 → a ≠ b → (TJx4a65c a).2.1 ≠ (TJx4a65c b).2.1 := by decide +kernel
theorem tyJx4a65c_ok : ∀ k, k < 3 → parseFieldDescriptor (TJx4a65c k).2.2.1 = some (tyJx4a65c k) := by decide +kernel
abbrev cJx4a65c_init_da8c8 : ByteArray := prog_43_method_2_code
def yJx4a65c_init_da8c8 : MethodName := ⟨RJx4a65c, "<init>", "()V"⟩
abbrev cJx4a65c_grow_92f84 : ByteArray := prog_43_method_6_code
def yJx4a65c_grow_92f84 : MethodName := ⟨RJx4a65c, "grow", "(I)[Ljava/lang/Object;"⟩
abbrev cJx4a65c_grow_d5877 : ByteArray := prog_43_method_7_code
def yJx4a65c_grow_d5877 : MethodName := ⟨RJx4a65c, "grow", "()[Ljava/lang/Object;"⟩
abbrev cJx4a65c_size_8abf5 : ByteArray := prog_43_method_8_code
def yJx4a65c_size_8abf5 : MethodName := ⟨RJx4a65c, "size", "()I"⟩
abbrev cJx4a65c_toArray_d5877 : ByteArray := prog_43_method_16_code
def yJx4a65c_toArray_d5877 : MethodName := ⟨RJx4a65c, "toArray", "()[Ljava/lang/Object;"⟩
abbrev cJx4a65c_elementData_915e3 : ByteArray := prog_43_method_18_code
def yJx4a65c_elementData_915e3 : MethodName := ⟨RJx4a65c, "elementData", "(I)Ljava/lang/Object;"⟩
abbrev cJx4a65c_get_915e3 : ByteArray := prog_43_method_20_code
def yJx4a65c_get_915e3 : MethodName := ⟨RJx4a65c, "get", "(I)Ljava/lang/Object;"⟩
abbrev cJx4a65c_set_bcc79 : ByteArray := prog_43_method_23_code
def yJx4a65c_set_bcc79 : MethodName := ⟨RJx4a65c, "set", "(ILjava/lang/Object;)Ljava/lang/Object;"⟩
abbrev cJx4a65c_add_72be8 : ByteArray := prog_43_method_24_code
def yJx4a65c_add_72be8 : MethodName := ⟨RJx4a65c, "add", "(Ljava/lang/Object;[Ljava/lang/Object;I)V"⟩
abbrev cJx4a65c_add_9ea2d : ByteArray := prog_43_method_25_code
def yJx4a65c_add_9ea2d : MethodName := ⟨RJx4a65c, "add", "(Ljava/lang/Object;)Z"⟩
abbrev cJx4a65c_add_7a177 : ByteArray := prog_43_method_26_code
def yJx4a65c_add_7a177 : MethodName := ⟨RJx4a65c, "add", "(ILjava/lang/Object;)V"⟩
abbrev cJx4a65c_addAll_f0b43 : ByteArray := prog_43_method_41_code
def yJx4a65c_addAll_f0b43 : MethodName := ⟨RJx4a65c, "addAll", "(Ljava/util/Collection;)Z"⟩
abbrev cJx4a65c_rangeCheckForAdd_d00df : ByteArray := prog_43_method_45_code
def yJx4a65c_rangeCheckForAdd_d00df : MethodName := ⟨RJx4a65c, "rangeCheckForAdd", "(I)V"⟩
abbrev cJx4a65c_outOfBoundsMsg_b52d3 : ByteArray := prog_43_method_46_code
def yJx4a65c_outOfBoundsMsg_b52d3 : MethodName := ⟨RJx4a65c, "outOfBoundsMsg", "(I)Ljava/lang/String;"⟩
abbrev cJx4a65c_iterator_32c93 : ByteArray := prog_43_method_55_code
def yJx4a65c_iterator_32c93 : MethodName := ⟨RJx4a65c, "iterator", "()Ljava/util/Iterator;"⟩
def RJ7 : String := "java/util/Arrays"
def TJ7 : u_T := fun k => match k with
  | _ => ("", "", "", false)
def tyJ7 : Nat → FieldType := fun k => match k with
  | _ => .int
abbrev wsJ70 : List Cond := u_ws RJ7 TJ7 0
theorem nmJ7 : ∀ a, a < 0 → ∀ b, b < 0 → a ≠ b → (TJ7 a).2.1 ≠ (TJ7 b).2.1 := by decide +kernel
theorem tyJ7_ok : ∀ k, k < 0 → parseFieldDescriptor (TJ7 k).2.2.1 = some (tyJ7 k) := by decide +kernel
abbrev cJ7_copyOf_1904c : ByteArray := prog_45_method_119_code
def yJ7_copyOf_1904c : MethodName := ⟨RJ7, "copyOf", "([Ljava/lang/Object;I)[Ljava/lang/Object;"⟩
abbrev cJ7_copyOf_6403c : ByteArray := prog_45_method_120_code
def yJ7_copyOf_6403c : MethodName := ⟨RJ7, "copyOf", "([Ljava/lang/Object;ILjava/lang/Class;)[Ljava/lang/Object;"⟩
abbrev cJ7_copyOf_9075b : ByteArray := prog_45_method_121_code
def yJ7_copyOf_9075b : MethodName := ⟨RJ7, "copyOf", "([BI)[B"⟩
abbrev cJ7_checkLength_df160 : ByteArray := prog_45_method_131_code
def yJ7_checkLength_df160 : MethodName := ⟨RJ7, "checkLength", "(II)V"⟩
abbrev cJ7_copyOfRange_39247 : ByteArray := prog_45_method_132_code
def yJ7_copyOfRange_39247 : MethodName := ⟨RJ7, "copyOfRange", "([BII)[B"⟩
abbrev cJ7_copyOfRangeByte_39247 : ByteArray := prog_45_method_133_code
def yJ7_copyOfRangeByte_39247 : MethodName := ⟨RJ7, "copyOfRangeByte", "([BII)[B"⟩
def RJx5ef63 : String := "java/util/Collection"
def TJx5ef63 : u_T := fun k => match k with
  | _ => ("", "", "", false)
def tyJx5ef63 : Nat → FieldType := fun k => match k with
  | _ => .int
abbrev wsJx5ef630 : List Cond := u_ws RJx5ef63 TJx5ef63 0
theorem nmJx5ef63 : ∀ a, a < 0 → ∀ b, b < 0 → a ≠ b → (TJx5ef63 a).2.1 ≠ (TJx5ef63 b).2.1 := by decide +kernel
theorem tyJx5ef63_ok : ∀ k, k < 0 → parseFieldDescriptor (TJx5ef63 k).2.2.1 = some (tyJx5ef63 k) := by decide +kernel
def RJx4d0d8 : String := "java/util/Iterator"
def TJx4d0d8 : u_T := fun k => match k with
  | _ => ("", "", "", false)
def tyJx4d0d8 : Nat → FieldType := fun k => match k with
  | _ => .int
abbrev wsJx4d0d80 : List Cond := u_ws RJx4d0d8 TJx4d0d8 0
theorem nmJx4d0d8 : ∀ a, a < 0 → ∀ b, b < 0 → a ≠ b → (TJx4d0d8 a).2.1 ≠ (TJx4d0d8 b).2.1 := by decide +kernel
theorem tyJx4d0d8_ok : ∀ k, k < 0 → parseFieldDescriptor (TJx4d0d8 k).2.2.1 = some (tyJx4d0d8 k) := by decide +kernel
def RJxbd725 : String := "java/util/List"
def TJxbd725 : u_T := fun k => match k with
  | _ => ("", "", "", false)
def tyJxbd725 : Nat → FieldType := fun k => match k with
  | _ => .int
abbrev wsJxbd7250 : List Cond := u_ws RJxbd725 TJxbd725 0
theorem nmJxbd725 : ∀ a, a < 0 → ∀ b, b < 0 → a ≠ b → (TJxbd725 a).2.1 ≠ (TJxbd725 b).2.1 := by decide +kernel
theorem tyJxbd725_ok : ∀ k, k < 0 → parseFieldDescriptor (TJxbd725 k).2.2.1 = some (tyJxbd725 k) := by decide +kernel
def RJ15 : String := "java/util/Objects"
def TJ15 : u_T := fun k => match k with
  | _ => ("", "", "", false)
def tyJ15 : Nat → FieldType := fun k => match k with
  | _ => .int
abbrev wsJ150 : List Cond := u_ws RJ15 TJ15 0
theorem nmJ15 : ∀ a, a < 0 → ∀ b, b < 0 → a ≠ b → (TJ15 a).2.1 ≠ (TJ15 b).2.1 := by decide +kernel
theorem tyJ15_ok : ∀ k, k < 0 → parseFieldDescriptor (TJ15 k).2.2.1 = some (tyJ15 k) := by decide +kernel
abbrev cJ15_checkIndex_7cf53 : ByteArray := prog_49_method_17_code
def yJ15_checkIndex_7cf53 : MethodName := ⟨RJ15, "checkIndex", "(II)I"⟩
def RJxf0a74 : String := "java/util/RandomAccess"
def TJxf0a74 : u_T := fun k => match k with
  | _ => ("", "", "", false)
def tyJxf0a74 : Nat → FieldType := fun k => match k with
  | _ => .int
abbrev wsJxf0a740 : List Cond := u_ws RJxf0a74 TJxf0a74 0
theorem nmJxf0a74 : ∀ a, a < 0 → ∀ b, b < 0 → a ≠ b → (TJxf0a74 a).2.1 ≠ (TJxf0a74 b).2.1 := by decide +kernel
theorem tyJxf0a74_ok : ∀ k, k < 0 → parseFieldDescriptor (TJxf0a74 k).2.2.1 = some (tyJxf0a74 k) := by decide +kernel
def RJxa66e6 : String := "java/util/SequencedCollection"
def TJxa66e6 : u_T := fun k => match k with
  | _ => ("", "", "", false)
def tyJxa66e6 : Nat → FieldType := fun k => match k with
  | _ => .int
abbrev wsJxa66e60 : List Cond := u_ws RJxa66e6 TJxa66e6 0
theorem nmJxa66e6 : ∀ a, a < 0 → ∀ b, b < 0 → a ≠ b → (TJxa66e6 a).2.1 ≠ (TJxa66e6 b).2.1 := by decide +kernel
theorem tyJxa66e6_ok : ∀ k, k < 0 → parseFieldDescriptor (TJxa66e6 k).2.2.1 = some (tyJxa66e6 k) := by decide +kernel
def RJ8 : String := "jdk/internal/util/ArraysSupport"
def TJ8 : u_T := fun k => match k with
  | _ => ("", "", "", false)
def tyJ8 : Nat → FieldType := fun k => match k with
  | _ => .int
abbrev wsJ80 : List Cond := u_ws RJ8 TJ8 0
theorem nmJ8 : ∀ a, a < 0 → ∀ b, b < 0 → a ≠ b → (TJ8 a).2.1 ≠ (TJ8 b).2.1 := by decide +kernel
theorem tyJ8_ok : ∀ k, k < 0 → parseFieldDescriptor (TJ8 k).2.2.1 = some (tyJ8 k) := by decide +kernel
abbrev cJ8_newLength_cabcc : ByteArray := prog_52_method_27_code
def yJ8_newLength_cabcc : MethodName := ⟨RJ8, "newLength", "(III)I"⟩
abbrev cJ8_hugeLength_7cf53 : ByteArray := prog_52_method_28_code
def yJ8_hugeLength_7cf53 : MethodName := ⟨RJ8, "hugeLength", "(II)I"⟩
def RJ3 : String := "jdk/internal/util/Preconditions"
def TJ3 : u_T := fun k => match k with
  | _ => ("", "", "", false)
def tyJ3 : Nat → FieldType := fun k => match k with
  | _ => .int
abbrev wsJ30 : List Cond := u_ws RJ3 TJ3 0
theorem nmJ3 : ∀ a, a < 0 → ∀ b, b < 0 → a ≠ b → (TJ3 a).2.1 ≠ (TJ3 b).2.1 := by decide +kernel
theorem tyJ3_ok : ∀ k, k < 0 → parseFieldDescriptor (TJ3 k).2.2.1 = some (tyJ3 k) := by decide +kernel
abbrev cJ3_checkIndex_8e157 : ByteArray := prog_53_method_11_code
def yJ3_checkIndex_8e157 : MethodName := ⟨RJ3, "checkIndex", "(IILjava/util/function/BiFunction;)I"⟩
abbrev cJ3_checkFromToIndex_8c36e : ByteArray := prog_53_method_12_code
def yJ3_checkFromToIndex_8c36e : MethodName := ⟨RJ3, "checkFromToIndex", "(IIILjava/util/function/BiFunction;)I"⟩
abbrev cJ3_checkFromIndexSize_8c36e : ByteArray := prog_53_method_13_code
def yJ3_checkFromIndexSize_8c36e : MethodName := ⟨RJ3, "checkFromIndexSize", "(IIILjava/util/function/BiFunction;)I"⟩
def RL : String := "HarbourmintLaw"
abbrev cL_addHouse : ByteArray := method_3_code
def yL_addHouse : MethodName := ⟨RL, "addHouse", "(LHarbourmint;C[J)I"⟩
abbrev cL_kindOf : ByteArray := method_4_code
def yL_kindOf : MethodName := ⟨RL, "kindOf", "(LHarbourmint;I[J)I"⟩
abbrev cL_dig : ByteArray := method_5_code
def yL_dig : MethodName := ⟨RL, "dig", "(LHarbourmint;ICI[J)I"⟩
abbrev cL_decree : ByteArray := method_6_code
def yL_decree : MethodName := ⟨RL, "decree", "(LHarbourmint;CII[J)I"⟩
abbrev cL_mint : ByteArray := method_7_code
def yL_mint : MethodName := ⟨RL, "mint", "(LHarbourmint;ICI[J)I"⟩
abbrev cL_clip : ByteArray := method_8_code
def yL_clip : MethodName := ⟨RL, "clip", "(LHarbourmint;II[J)I"⟩
abbrev cL_hoard : ByteArray := method_9_code
def yL_hoard : MethodName := ⟨RL, "hoard", "(LHarbourmint;IZ[J)I"⟩
abbrev cL_recoin : ByteArray := method_10_code
def yL_recoin : MethodName := ⟨RL, "recoin", "(LHarbourmint;IC[J)I"⟩
abbrev cL_pay : ByteArray := method_11_code
def yL_pay : MethodName := ⟨RL, "pay", "(LHarbourmint;IICI[J)I"⟩
abbrev cL_deposit : ByteArray := method_12_code
def yL_deposit : MethodName := ⟨RL, "deposit", "(LHarbourmint;IICI[J)I"⟩
abbrev cL_withdraw : ByteArray := method_13_code
def yL_withdraw : MethodName := ⟨RL, "withdraw", "(LHarbourmint;IICI[J)I"⟩
abbrev cL_lend : ByteArray := method_14_code
def yL_lend : MethodName := ⟨RL, "lend", "(LHarbourmint;III[J)I"⟩
abbrev cL_hand : ByteArray := method_15_code
def yL_hand : MethodName := ⟨RL, "hand", "(LHarbourmint;IIII[J)I"⟩
abbrev cL_forgive : ByteArray := method_16_code
def yL_forgive : MethodName := ⟨RL, "forgive", "(LHarbourmint;III[J)I"⟩
abbrev cL_claim : ByteArray := method_17_code
def yL_claim : MethodName := ⟨RL, "claim", "(LHarbourmint;II[J)I"⟩
abbrev cL_draw : ByteArray := method_18_code
def yL_draw : MethodName := ⟨RL, "draw", "(LHarbourmint;IIII[J)I"⟩
abbrev cL_endorse : ByteArray := method_19_code
def yL_endorse : MethodName := ⟨RL, "endorse", "(LHarbourmint;II[J)I"⟩
abbrev cL_holderOf : ByteArray := method_20_code
def yL_holderOf : MethodName := ⟨RL, "holderOf", "(LHarbourmint;I[J)I"⟩
abbrev cL_addShare : ByteArray := method_21_code
def yL_addShare : MethodName := ⟨RL, "addShare", "(LHarbourmint;III[J)I"⟩
abbrev cL_throwOver : ByteArray := method_22_code
def yL_throwOver : MethodName := ⟨RL, "throwOver", "(LHarbourmint;III[J)I"⟩
abbrev cL_coins : ByteArray := method_23_code
def yL_coins : MethodName := ⟨RL, "coins", "(LHarbourmint;IC[J)I"⟩
abbrev cL_weightOf : ByteArray := method_24_code
def yL_weightOf : MethodName := ⟨RL, "weightOf", "(LHarbourmint;I[J)I"⟩
abbrev cL_ownerOf : ByteArray := method_25_code
def yL_ownerOf : MethodName := ⟨RL, "ownerOf", "(LHarbourmint;I[J)I"⟩
abbrev cL_owners : ByteArray := method_26_code
def yL_owners : MethodName := ⟨RL, "owners", "(LHarbourmint;I[J)I"⟩
abbrev cL_ore : ByteArray := method_27_code
def yL_ore : MethodName := ⟨RL, "ore", "(LHarbourmint;IC[J)I"⟩
abbrev cL_wealth : ByteArray := method_28_code
def yL_wealth : MethodName := ⟨RL, "wealth", "(LHarbourmint;I[J)I"⟩
abbrev cL_lightShare : ByteArray := method_29_code
def yL_lightShare : MethodName := ⟨RL, "lightShare", "(LHarbourmint;[D)I"⟩
abbrev cL_meanWeight : ByteArray := method_30_code
def yL_meanWeight : MethodName := ⟨RL, "meanWeight", "(LHarbourmint;[D)I"⟩
abbrev cL_law : ByteArray := code
def yL_law : MethodName := ⟨RL, "law", "([I)Z"⟩

