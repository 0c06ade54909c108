def RX0 : String := "LeafMint$Payments"
def TX0 : u_T := fun k => match k with
  | 0 => ("LeafMint$Payments", "used", "[I", true)
  | 1 => ("LeafMint$Payments", "table", "[[I", true)
  | 2 => ("LeafMint$Payments", "lowSets", "[J", true)
  | 3 => ("LeafMint$Payments", "highSets", "[J", true)
  | 4 => ("LeafMint$Payments", "values", "I", false)
  | _ => ("LeafMint$Payments", "coins", "I", false)
def tyX0 : Nat → FieldType := fun k => match k with
  | 0 => .array .int
  | 1 => .array (.array .int)
  | 2 => .array .long
  | 3 => .array .long
  | 4 => .int
  | _ => .int
theorem nmX0 : ∀ a, a < 6 → ∀ b, b < 6 → a ≠ b → (TX0 a).2.1 ≠ (TX0 b).2.1 := by decide +kernel
theorem tyX0_ok : ∀ k, k < 6 → parseFieldDescriptor (TX0 k).2.2.1 = some (tyX0 k) := by decide +kernel
abbrev cX0_init : ByteArray := prog_2_method_1_code
def yX0_init : MethodName := ⟨RX0, "<init>", "()V"⟩
abbrev cX0_tabulate : ByteArray := prog_2_method_2_code
def yX0_tabulate : MethodName := ⟨RX0, "tabulate", "(LLeafMint$State;)V"⟩
abbrev cX0_addValue : ByteArray := prog_2_method_3_code
def yX0_addValue : MethodName := ⟨RX0, "addValue", "([I[III)V"⟩
abbrev cX0_tableAnswer : ByteArray := prog_2_method_4_code
def yX0_tableAnswer : MethodName := ⟨RX0, "tableAnswer", "(I)I"⟩
abbrev cX0_collectSets : ByteArray := prog_2_method_5_code
def yX0_collectSets : MethodName := ⟨RX0, "collectSets", "(LLeafMint$State;)V"⟩
abbrev cX0_addCoin : ByteArray := prog_2_method_6_code
def yX0_addCoin : MethodName := ⟨RX0, "addCoin", "(II)V"⟩
abbrev cX0_setsAnswer : ByteArray := prog_2_method_7_code
def yX0_setsAnswer : MethodName := ⟨RX0, "setsAnswer", "(I)I"⟩
abbrev cX0_isInSet : ByteArray := prog_2_method_8_code
def yX0_isInSet : MethodName := ⟨RX0, "isInSet", "(II)Z"⟩
abbrev cX0_payGreedily : ByteArray := prog_2_method_9_code
def yX0_payGreedily : MethodName := ⟨RX0, "payGreedily", "(LLeafMint$State;I)I"⟩
abbrev cX0_plan : ByteArray := prog_2_method_10_code
def yX0_plan : MethodName := ⟨RX0, "plan", "(LLeafMint$State;I)Z"⟩
abbrev cX0_mostOfValue : ByteArray := prog_2_method_11_code
def yX0_mostOfValue : MethodName := ⟨RX0, "mostOfValue", "(IIII)I"⟩
def RX1 : String := "LeafMint$Script"
def TX1 : u_T := fun k => match k with
  | 0 => ("LeafMint$Script", "signs", "[C", true)
  | 1 => ("LeafMint$Script", "length", "I", false)
  | 2 => ("LeafMint$Script", "position", "I", false)
  | 3 => ("LeafMint$Script", "commands", "I", false)
  | 4 => ("LeafMint$Script", "verb", "[I", true)
  | 5 => ("LeafMint$Script", "first", "[I", true)
  | _ => ("LeafMint$Script", "second", "[I", true)
def tyX1 : Nat → FieldType := fun k => match k with
  | 0 => .array .char
  | 1 => .int
  | 2 => .int
  | 3 => .int
  | 4 => .array .int
  | 5 => .array .int
  | _ => .array .int
theorem nmX1 : ∀ a, a < 7 → ∀ b, b < 7 → a ≠ b → (TX1 a).2.1 ≠ (TX1 b).2.1 := by decide +kernel
theorem tyX1_ok : ∀ k, k < 7 → parseFieldDescriptor (TX1 k).2.2.1 = some (tyX1 k) := by decide +kernel
abbrev cX1_init : ByteArray := prog_3_method_1_code
def yX1_init : MethodName := ⟨RX1, "<init>", "()V"⟩
abbrev cX1_append : ByteArray := prog_3_method_2_code
def yX1_append : MethodName := ⟨RX1, "append", "(C)V"⟩
abbrev cX1_parse : ByteArray := prog_3_method_3_code
def yX1_parse : MethodName := ⟨RX1, "parse", "()Z"⟩
abbrev cX1_readCommand : ByteArray := prog_3_method_4_code
def yX1_readCommand : MethodName := ⟨RX1, "readCommand", "()Z"⟩
abbrev cX1_readVerb : ByteArray := prog_3_method_5_code
def yX1_readVerb : MethodName := ⟨RX1, "readVerb", "()Z"⟩
abbrev cX1_signsMatching : ByteArray := prog_3_method_6_code
def yX1_signsMatching : MethodName := ⟨RX1, "signsMatching", "(Ljava/lang/String;)I"⟩
abbrev cX1_wordOf : ByteArray := prog_3_method_7_code
def yX1_wordOf : MethodName := ⟨RX1, "wordOf", "(I)Ljava/lang/String;"⟩
abbrev cX1_readYears : ByteArray := prog_3_method_8_code
def yX1_readYears : MethodName := ⟨RX1, "readYears", "()Z"⟩
abbrev cX1_readNumber : ByteArray := prog_3_method_9_code
def yX1_readNumber : MethodName := ⟨RX1, "readNumber", "()Z"⟩
abbrev cX1_readDigit : ByteArray := prog_3_method_10_code
def yX1_readDigit : MethodName := ⟨RX1, "readDigit", "()Z"⟩
abbrev cX1_readSecond : ByteArray := prog_3_method_11_code
def yX1_readSecond : MethodName := ⟨RX1, "readSecond", "()Z"⟩
abbrev cX1_isAtDigit : ByteArray := prog_3_method_12_code
def yX1_isAtDigit : MethodName := ⟨RX1, "isAtDigit", "()Z"⟩
abbrev cX1_takeDigit : ByteArray := prog_3_method_13_code
def yX1_takeDigit : MethodName := ⟨RX1, "takeDigit", "()I"⟩
abbrev cX1_readSign : ByteArray := prog_3_method_14_code
def yX1_readSign : MethodName := ⟨RX1, "readSign", "(C)Z"⟩
def RX2 : String := "LeafMint$State"
def TX2 : u_T := fun k => match k with
  | 0 => ("LeafMint$State", "dies", "I", false)
  | 1 => ("LeafMint$State", "dieValue", "[I", true)
  | 2 => ("LeafMint$State", "dieWeight", "[I", true)
  | 3 => ("LeafMint$State", "dieWear", "[I", true)
  | 4 => ("LeafMint$State", "diesByValue", "[I", true)
  | 5 => ("LeafMint$State", "coins", "I", false)
  | 6 => ("LeafMint$State", "coinDie", "[I", true)
  | 7 => ("LeafMint$State", "coinYear", "[I", true)
  | 8 => ("LeafMint$State", "coinGrade", "[I", true)
  | 9 => ("LeafMint$State", "leaves", "I", false)
  | 10 => ("LeafMint$State", "year", "I", false)
  | 11 => ("LeafMint$State", "struckTotal", "I", false)
  | 12 => ("LeafMint$State", "paidTotal", "I", false)
  | 13 => ("LeafMint$State", "paidWeight", "I", false)
  | 14 => ("LeafMint$State", "lostWeight", "I", false)
  | _ => ("LeafMint$State", "addedWeight", "I", false)
def tyX2 : Nat → FieldType := fun k => match k with
  | 0 => .int
  | 1 => .array .int
  | 2 => .array .int
  | 3 => .array .int
  | 4 => .array .int
  | 5 => .int
  | 6 => .array .int
  | 7 => .array .int
  | 8 => .array .int
  | 9 => .int
  | 10 => .int
  | 11 => .int
  | 12 => .int
  | 13 => .int
  | 14 => .int
  | _ => .int
theorem nmX2 : ∀ a, a < 16 → ∀ b, b < 16 → a ≠ b → (TX2 a).2.1 ≠ (TX2 b).2.1 := by decide +kernel
theorem tyX2_ok : ∀ k, k < 16 → parseFieldDescriptor (TX2 k).2.2.1 = some (tyX2 k) := by decide +kernel
abbrev cX2_init : ByteArray := prog_4_method_1_code
def yX2_init : MethodName := ⟨RX2, "<init>", "()V"⟩
abbrev cX2_copyFrom : ByteArray := prog_4_method_2_code
def yX2_copyFrom : MethodName := ⟨RX2, "copyFrom", "(LLeafMint$State;)V"⟩
abbrev cX2_hasDie : ByteArray := prog_4_method_3_code
def yX2_hasDie : MethodName := ⟨RX2, "hasDie", "(I)Z"⟩
abbrev cX2_dieWithValue : ByteArray := prog_4_method_4_code
def yX2_dieWithValue : MethodName := ⟨RX2, "dieWithValue", "(I)I"⟩
abbrev cX2_diesWornMoreThan : ByteArray := prog_4_method_5_code
def yX2_diesWornMoreThan : MethodName := ⟨RX2, "diesWornMoreThan", "(I)I"⟩
abbrev cX2_coinsFrom : ByteArray := prog_4_method_6_code
def yX2_coinsFrom : MethodName := ⟨RX2, "coinsFrom", "(I)I"⟩
abbrev cX2_coinsStruckIn : ByteArray := prog_4_method_7_code
def yX2_coinsStruckIn : MethodName := ⟨RX2, "coinsStruckIn", "(I)I"⟩
abbrev cX2_coinsGraded : ByteArray := prog_4_method_8_code
def yX2_coinsGraded : MethodName := ⟨RX2, "coinsGraded", "(I)I"⟩
abbrev cX2_isFirstOfItsKind : ByteArray := prog_4_method_9_code
def yX2_isFirstOfItsKind : MethodName := ⟨RX2, "isFirstOfItsKind", "(I)Z"⟩
abbrev cX2_weightOfCoins : ByteArray := prog_4_method_10_code
def yX2_weightOfCoins : MethodName := ⟨RX2, "weightOfCoins", "()I"⟩
abbrev cX2_gramsFromMelting : ByteArray := prog_4_method_11_code
def yX2_gramsFromMelting : MethodName := ⟨RX2, "gramsFromMelting", "(I)I"⟩
abbrev cX2_faultOfNewDie : ByteArray := prog_4_method_12_code
def yX2_faultOfNewDie : MethodName := ⟨RX2, "faultOfNewDie", "(II)I"⟩
abbrev cX2_putDie : ByteArray := prog_4_method_13_code
def yX2_putDie : MethodName := ⟨RX2, "putDie", "(II)I"⟩
abbrev cX2_faultOfSharpening : ByteArray := prog_4_method_14_code
def yX2_faultOfSharpening : MethodName := ⟨RX2, "faultOfSharpening", "(I)I"⟩
abbrev cX2_grind : ByteArray := prog_4_method_15_code
def yX2_grind : MethodName := ⟨RX2, "grind", "(I)I"⟩
abbrev cX2_faultOfLeaves : ByteArray := prog_4_method_16_code
def yX2_faultOfLeaves : MethodName := ⟨RX2, "faultOfLeaves", "(I)I"⟩
abbrev cX2_putLeaves : ByteArray := prog_4_method_17_code
def yX2_putLeaves : MethodName := ⟨RX2, "putLeaves", "(I)I"⟩
abbrev cX2_faultOfStriking : ByteArray := prog_4_method_18_code
def yX2_faultOfStriking : MethodName := ⟨RX2, "faultOfStriking", "(II)I"⟩
abbrev cX2_makeCoins : ByteArray := prog_4_method_19_code
def yX2_makeCoins : MethodName := ⟨RX2, "makeCoins", "(II)I"⟩
abbrev cX2_age : ByteArray := prog_4_method_20_code
def yX2_age : MethodName := ⟨RX2, "age", "(I)I"⟩
abbrev cX2_lowerAgedCoins : ByteArray := prog_4_method_21_code
def yX2_lowerAgedCoins : MethodName := ⟨RX2, "lowerAgedCoins", "()I"⟩
abbrev cX2_faultOfMelting : ByteArray := prog_4_method_22_code
def yX2_faultOfMelting : MethodName := ⟨RX2, "faultOfMelting", "(I)I"⟩
abbrev cX2_melt : ByteArray := prog_4_method_23_code
def yX2_melt : MethodName := ⟨RX2, "melt", "(I)I"⟩
abbrev cX2_removeCoinsStruckIn : ByteArray := prog_4_method_24_code
def yX2_removeCoinsStruckIn : MethodName := ⟨RX2, "removeCoinsStruckIn", "(I)V"⟩
abbrev cX2_payOut : ByteArray := prog_4_method_25_code
def yX2_payOut : MethodName := ⟨RX2, "payOut", "(I[I)I"⟩
abbrev cX2_spendCoin : ByteArray := prog_4_method_26_code
def yX2_spendCoin : MethodName := ⟨RX2, "spendCoin", "(I)V"⟩
abbrev cX2_isSpentBefore : ByteArray := prog_4_method_27_code
def yX2_isSpentBefore : MethodName := ⟨RX2, "isSpentBefore", "(II)Z"⟩
abbrev cX2_removeCoin : ByteArray := prog_4_method_28_code
def yX2_removeCoin : MethodName := ⟨RX2, "removeCoin", "(I)V"⟩
def RX3 : String := "LeafMint"
def TX3 : u_T := fun k => match k with
  | 0 => ("LeafMint", "state", "LLeafMint$State;", true)
  | 1 => ("LeafMint", "trial", "LLeafMint$State;", true)
  | 2 => ("LeafMint", "saved", "LLeafMint$State;", true)
  | 3 => ("LeafMint", "past", "[LLeafMint$State;", true)
  | 4 => ("LeafMint", "payments", "LLeafMint$Payments;", true)
  | 5 => ("LeafMint", "script", "LLeafMint$Script;", true)
  | 6 => ("LeafMint", "output", "Ljava/lang/StringBuilder;", true)
  | 7 => ("LeafMint", "hasSaved", "Z", false)
  | 8 => ("LeafMint", "pastChanges", "I", false)
  | 9 => ("LeafMint", "lastErrorPosition", "I", false)
  | _ => ("LeafMint", "lastFailedCommand", "I", false)
def tyX3 : Nat → FieldType := fun k => match k with
  | 0 => .object "LeafMint$State"
  | 1 => .object "LeafMint$State"
  | 2 => .object "LeafMint$State"
  | 3 => .array (.object "LeafMint$State")
  | 4 => .object "LeafMint$Payments"
  | 5 => .object "LeafMint$Script"
  | 6 => .object "java/lang/StringBuilder"
  | 7 => .boolean
  | 8 => .int
  | 9 => .int
  | _ => .int
theorem nmX3 : ∀ a, a < 11 → ∀ b, b < 11 → a ≠ b → (TX3 a).2.1 ≠ (TX3 b).2.1 := by decide +kernel
theorem tyX3_ok : ∀ k, k < 11 → parseFieldDescriptor (TX3 k).2.2.1 = some (tyX3 k) := by decide +kernel
abbrev cX3_init : ByteArray := prog_1_method_1_code
def yX3_init : MethodName := ⟨RX3, "<init>", "()V"⟩
abbrev cX3_addDie : ByteArray := prog_1_method_2_code
def yX3_addDie : MethodName := ⟨RX3, "addDie", "(II)I"⟩
abbrev cX3_sharpen : ByteArray := prog_1_method_3_code
def yX3_sharpen : MethodName := ⟨RX3, "sharpen", "(I)I"⟩
abbrev cX3_addLeaves : ByteArray := prog_1_method_4_code
def yX3_addLeaves : MethodName := ⟨RX3, "addLeaves", "(I)I"⟩
abbrev cX3_strike : ByteArray := prog_1_method_5_code
def yX3_strike : MethodName := ⟨RX3, "strike", "(II)I"⟩
abbrev cX3_passYears : ByteArray := prog_1_method_6_code
def yX3_passYears : MethodName := ⟨RX3, "passYears", "(I)I"⟩
abbrev cX3_recall : ByteArray := prog_1_method_7_code
def yX3_recall : MethodName := ⟨RX3, "recall", "(I)I"⟩
abbrev cX3_pay : ByteArray := prog_1_method_8_code
def yX3_pay : MethodName := ⟨RX3, "pay", "(I)I"⟩
abbrev cX3_dieCount : ByteArray := prog_1_method_9_code
def yX3_dieCount : MethodName := ⟨RX3, "dieCount", "()I"⟩
abbrev cX3_dieValue : ByteArray := prog_1_method_10_code
def yX3_dieValue : MethodName := ⟨RX3, "dieValue", "(I)I"⟩
abbrev cX3_coinWeight : ByteArray := prog_1_method_11_code
def yX3_coinWeight : MethodName := ⟨RX3, "coinWeight", "(I)I"⟩
abbrev cX3_wear : ByteArray := prog_1_method_12_code
def yX3_wear : MethodName := ⟨RX3, "wear", "(I)I"⟩
abbrev cX3_nextGrade : ByteArray := prog_1_method_13_code
def yX3_nextGrade : MethodName := ⟨RX3, "nextGrade", "(I)C"⟩
abbrev cX3_dieByWear : ByteArray := prog_1_method_14_code
def yX3_dieByWear : MethodName := ⟨RX3, "dieByWear", "(I)I"⟩
abbrev cX3_leaves : ByteArray := prog_1_method_15_code
def yX3_leaves : MethodName := ⟨RX3, "leaves", "()I"⟩
abbrev cX3_year : ByteArray := prog_1_method_16_code
def yX3_year : MethodName := ⟨RX3, "year", "()I"⟩
abbrev cX3_vaultCoins : ByteArray := prog_1_method_17_code
def yX3_vaultCoins : MethodName := ⟨RX3, "vaultCoins", "()I"⟩
abbrev cX3_vaultValue : ByteArray := prog_1_method_18_code
def yX3_vaultValue : MethodName := ⟨RX3, "vaultValue", "()I"⟩
abbrev cX3_vaultValueByDies : ByteArray := prog_1_method_19_code
def yX3_vaultValueByDies : MethodName := ⟨RX3, "vaultValueByDies", "()I"⟩
abbrev cX3_vaultWeight : ByteArray := prog_1_method_20_code
def yX3_vaultWeight : MethodName := ⟨RX3, "vaultWeight", "()I"⟩
abbrev cX3_coinsOfValue : ByteArray := prog_1_method_21_code
def yX3_coinsOfValue : MethodName := ⟨RX3, "coinsOfValue", "(I)I"⟩
abbrev cX3_coinsOfYear : ByteArray := prog_1_method_22_code
def yX3_coinsOfYear : MethodName := ⟨RX3, "coinsOfYear", "(I)I"⟩
abbrev cX3_coinsOfGrade : ByteArray := prog_1_method_23_code
def yX3_coinsOfGrade : MethodName := ⟨RX3, "coinsOfGrade", "(C)I"⟩
abbrev cX3_kinds : ByteArray := prog_1_method_24_code
def yX3_kinds : MethodName := ⟨RX3, "kinds", "()I"⟩
abbrev cX3_canPay : ByteArray := prog_1_method_25_code
def yX3_canPay : MethodName := ⟨RX3, "canPay", "(I)Z"⟩
abbrev cX3_fewestCoins : ByteArray := prog_1_method_26_code
def yX3_fewestCoins : MethodName := ⟨RX3, "fewestCoins", "(I)I"⟩
abbrev cX3_fewestCoinsBySets : ByteArray := prog_1_method_27_code
def yX3_fewestCoinsBySets : MethodName := ⟨RX3, "fewestCoinsBySets", "(I)I"⟩
abbrev cX3_greedyCoins : ByteArray := prog_1_method_28_code
def yX3_greedyCoins : MethodName := ⟨RX3, "greedyCoins", "(I)I"⟩
abbrev cX3_coinsUsed : ByteArray := prog_1_method_29_code
def yX3_coinsUsed : MethodName := ⟨RX3, "coinsUsed", "(II)I"⟩
abbrev cX3_payableAmounts : ByteArray := prog_1_method_30_code
def yX3_payableAmounts : MethodName := ⟨RX3, "payableAmounts", "()I"⟩
abbrev cX3_recallGrams : ByteArray := prog_1_method_31_code
def yX3_recallGrams : MethodName := ⟨RX3, "recallGrams", "(I)I"⟩
abbrev cX3_struckTotal : ByteArray := prog_1_method_32_code
def yX3_struckTotal : MethodName := ⟨RX3, "struckTotal", "()I"⟩
abbrev cX3_paidTotal : ByteArray := prog_1_method_33_code
def yX3_paidTotal : MethodName := ⟨RX3, "paidTotal", "()I"⟩
abbrev cX3_paidWeight : ByteArray := prog_1_method_34_code
def yX3_paidWeight : MethodName := ⟨RX3, "paidWeight", "()I"⟩
abbrev cX3_lostWeight : ByteArray := prog_1_method_35_code
def yX3_lostWeight : MethodName := ⟨RX3, "lostWeight", "()I"⟩
abbrev cX3_addedWeight : ByteArray := prog_1_method_36_code
def yX3_addedWeight : MethodName := ⟨RX3, "addedWeight", "()I"⟩
abbrev cX3_meanWear : ByteArray := prog_1_method_37_code
def yX3_meanWear : MethodName := ⟨RX3, "meanWear", "()D"⟩
abbrev cX3_gradeShare : ByteArray := prog_1_method_38_code
def yX3_gradeShare : MethodName := ⟨RX3, "gradeShare", "(C)F"⟩
abbrev cX3_isConsistent : ByteArray := prog_1_method_39_code
def yX3_isConsistent : MethodName := ⟨RX3, "isConsistent", "()Z"⟩
abbrev cX3_renderDie : ByteArray := prog_1_method_40_code
def yX3_renderDie : MethodName := ⟨RX3, "renderDie", "(I)I"⟩
abbrev cX3_renderVault : ByteArray := prog_1_method_41_code
def yX3_renderVault : MethodName := ⟨RX3, "renderVault", "()I"⟩
abbrev cX3_outputAt : ByteArray := prog_1_method_42_code
def yX3_outputAt : MethodName := ⟨RX3, "outputAt", "(I)C"⟩
abbrev cX3_type : ByteArray := prog_1_method_43_code
def yX3_type : MethodName := ⟨RX3, "type", "(C)I"⟩
abbrev cX3_runScript : ByteArray := prog_1_method_44_code
def yX3_runScript : MethodName := ⟨RX3, "runScript", "()I"⟩
abbrev cX3_errorPosition : ByteArray := prog_1_method_45_code
def yX3_errorPosition : MethodName := ⟨RX3, "errorPosition", "()I"⟩
abbrev cX3_failedCommand : ByteArray := prog_1_method_46_code
def yX3_failedCommand : MethodName := ⟨RX3, "failedCommand", "()I"⟩
abbrev cX3_undo : ByteArray := prog_1_method_47_code
def yX3_undo : MethodName := ⟨RX3, "undo", "()I"⟩
abbrev cX3_save : ByteArray := prog_1_method_48_code
def yX3_save : MethodName := ⟨RX3, "save", "()I"⟩
abbrev cX3_restore : ByteArray := prog_1_method_49_code
def yX3_restore : MethodName := ⟨RX3, "restore", "()I"⟩
abbrev cX3_change : ByteArray := prog_1_method_50_code
def yX3_change : MethodName := ⟨RX3, "change", "(III)I"⟩
abbrev cX3_faultOf : ByteArray := prog_1_method_51_code
def yX3_faultOf : MethodName := ⟨RX3, "faultOf", "(LLeafMint$State;III)I"⟩
abbrev cX3_faultOfPayment : ByteArray := prog_1_method_52_code
def yX3_faultOfPayment : MethodName := ⟨RX3, "faultOfPayment", "(LLeafMint$State;I)I"⟩
abbrev cX3_perform : ByteArray := prog_1_method_53_code
def yX3_perform : MethodName := ⟨RX3, "perform", "(LLeafMint$State;III)I"⟩
abbrev cX3_throwFor : ByteArray := prog_1_method_54_code
def yX3_throwFor : MethodName := ⟨RX3, "throwFor", "(I)V"⟩
abbrev cX3_remember : ByteArray := prog_1_method_55_code
def yX3_remember : MethodName := ⟨RX3, "remember", "()V"⟩
abbrev cX3_dropOldestChange : ByteArray := prog_1_method_56_code
def yX3_dropOldestChange : MethodName := ⟨RX3, "dropOldestChange", "()V"⟩
abbrev cX3_bothWaysAgree : ByteArray := prog_1_method_57_code
def yX3_bothWaysAgree : MethodName := ⟨RX3, "bothWaysAgree", "()Z"⟩
abbrev cX3_requireDie : ByteArray := prog_1_method_58_code
def yX3_requireDie : MethodName := ⟨RX3, "requireDie", "(I)V"⟩
abbrev cX3_requireValue : ByteArray := prog_1_method_59_code
def yX3_requireValue : MethodName := ⟨RX3, "requireValue", "(I)I"⟩
abbrev cX3_requireGrade : ByteArray := prog_1_method_60_code
def yX3_requireGrade : MethodName := ⟨RX3, "requireGrade", "(C)I"⟩
abbrev cX3_requireAmount : ByteArray := prog_1_method_61_code
def yX3_requireAmount : MethodName := ⟨RX3, "requireAmount", "(I)V"⟩
abbrev cX3_requirePayable : ByteArray := prog_1_method_62_code
def yX3_requirePayable : MethodName := ⟨RX3, "requirePayable", "(I)I"⟩
abbrev cX3_isAmount : ByteArray := prog_1_method_63_code
def yX3_isAmount : MethodName := ⟨RX3, "isAmount", "(I)Z"⟩
abbrev cX3_gradeOfWear : ByteArray := prog_1_method_64_code
def yX3_gradeOfWear : MethodName := ⟨RX3, "gradeOfWear", "(I)I"⟩
def RX4 : String := "LeafMintModel"
def TX4 : u_T := fun k => match k with
  | 0 => ("LeafMintModel", "m", "[I", true)
  | 1 => ("LeafMintModel", "aside", "[I", true)
  | 2 => ("LeafMintModel", "saved", "[I", true)
  | 3 => ("LeafMintModel", "isSaved", "Z", false)
  | 4 => ("LeafMintModel", "past", "[I", true)
  | 5 => ("LeafMintModel", "changes", "I", false)
  | 6 => ("LeafMintModel", "errorAt", "I", false)
  | 7 => ("LeafMintModel", "failed", "I", false)
  | 8 => ("LeafMintModel", "thrown", "I", false)
  | 9 => ("LeafMintModel", "input", "[I", true)
  | 10 => ("LeafMintModel", "inputMany", "I", false)
  | 11 => ("LeafMintModel", "byValue", "[I", true)
  | 12 => ("LeafMintModel", "fewest", "[I", true)
  | 13 => ("LeafMintModel", "uses", "[I", true)
  | 14 => ("LeafMintModel", "line", "[I", true)
  | 15 => ("LeafMintModel", "lineMany", "I", false)
  | 16 => ("LeafMintModel", "letters", "[C", true)
  | 17 => ("LeafMintModel", "begins0", "[I", true)
  | 18 => ("LeafMintModel", "commands", "[I", true)
  | 19 => ("LeafMintModel", "commandMany", "I", false)
  | 20 => ("LeafMintModel", "place0", "I", false)
  | 21 => ("LeafMintModel", "size0", "I", false)
  | _ => ("LeafMintModel", "isWrong", "Z", false)
def tyX4 : Nat → FieldType := fun k => match k with
  | 0 => .array .int
  | 1 => .array .int
  | 2 => .array .int
  | 3 => .boolean
  | 4 => .array .int
  | 5 => .int
  | 6 => .int
  | 7 => .int
  | 8 => .int
  | 9 => .array .int
  | 10 => .int
  | 11 => .array .int
  | 12 => .array .int
  | 13 => .array .int
  | 14 => .array .int
  | 15 => .int
  | 16 => .array .char
  | 17 => .array .int
  | 18 => .array .int
  | 19 => .int
  | 20 => .int
  | 21 => .int
  | _ => .boolean
theorem nmX4 : ∀ a, a < 23 → ∀ b, b < 23 → a ≠ b → (TX4 a).2.1 ≠ (TX4 b).2.1 := by decide +kernel
theorem tyX4_ok : ∀ k, k < 23 → parseFieldDescriptor (TX4 k).2.2.1 = some (tyX4 k) := by decide +kernel
abbrev cX4_init : ByteArray := prog_6_method_1_code
def yX4_init : MethodName := ⟨RX4, "<init>", "()V"⟩
abbrev cX4_thrown : ByteArray := prog_6_method_2_code
def yX4_thrown : MethodName := ⟨RX4, "thrown", "()I"⟩
abbrev cX4_throwing : ByteArray := prog_6_method_3_code
def yX4_throwing : MethodName := ⟨RX4, "throwing", "(I)I"⟩
abbrev cX4_in : ByteArray := prog_6_method_4_code
def yX4_in : MethodName := ⟨RX4, "in", "(JJJ)Z"⟩
abbrev cX4_starts : ByteArray := prog_6_method_5_code
def yX4_starts : MethodName := ⟨RX4, "starts", "()V"⟩
abbrev cX4_changed : ByteArray := prog_6_method_6_code
def yX4_changed : MethodName := ⟨RX4, "changed", "(I)I"⟩
abbrev cX4_dieAt : ByteArray := prog_6_method_7_code
def yX4_dieAt : MethodName := ⟨RX4, "dieAt", "(I)I"⟩
abbrev cX4_coinAt : ByteArray := prog_6_method_8_code
def yX4_coinAt : MethodName := ⟨RX4, "coinAt", "(I)I"⟩
abbrev cX4_isDie : ByteArray := prog_6_method_9_code
def yX4_isDie : MethodName := ⟨RX4, "isDie", "(I)Z"⟩
abbrev cX4_dieOf : ByteArray := prog_6_method_10_code
def yX4_dieOf : MethodName := ⟨RX4, "dieOf", "(I)I"⟩
abbrev cX4_weightOfCoin : ByteArray := prog_6_method_11_code
def yX4_weightOfCoin : MethodName := ⟨RX4, "weightOfCoin", "(I)I"⟩
abbrev cX4_valueOfCoin : ByteArray := prog_6_method_12_code
def yX4_valueOfCoin : MethodName := ⟨RX4, "valueOfCoin", "(I)I"⟩
abbrev cX4_many : ByteArray := prog_6_method_13_code
def yX4_many : MethodName := ⟨RX4, "many", "(I)I"⟩
abbrev cX4_takesOut : ByteArray := prog_6_method_14_code
def yX4_takesOut : MethodName := ⟨RX4, "takesOut", "(I)V"⟩
abbrev cX4_gradeBy : ByteArray := prog_6_method_15_code
def yX4_gradeBy : MethodName := ⟨RX4, "gradeBy", "(I)I"⟩
abbrev cX4_dieIt : ByteArray := prog_6_method_16_code
def yX4_dieIt : MethodName := ⟨RX4, "dieIt", "(II)I"⟩
abbrev cX4_addDie : ByteArray := prog_6_method_17_code
def yX4_addDie : MethodName := ⟨RX4, "addDie", "(II)I"⟩
abbrev cX4_sharpenIt : ByteArray := prog_6_method_18_code
def yX4_sharpenIt : MethodName := ⟨RX4, "sharpenIt", "(I)I"⟩
abbrev cX4_sharpen : ByteArray := prog_6_method_19_code
def yX4_sharpen : MethodName := ⟨RX4, "sharpen", "(I)I"⟩
abbrev cX4_leafIt : ByteArray := prog_6_method_20_code
def yX4_leafIt : MethodName := ⟨RX4, "leafIt", "(I)I"⟩
abbrev cX4_addLeaves : ByteArray := prog_6_method_21_code
def yX4_addLeaves : MethodName := ⟨RX4, "addLeaves", "(I)I"⟩
abbrev cX4_strikeIt : ByteArray := prog_6_method_22_code
def yX4_strikeIt : MethodName := ⟨RX4, "strikeIt", "(II)I"⟩
abbrev cX4_strike : ByteArray := prog_6_method_23_code
def yX4_strike : MethodName := ⟨RX4, "strike", "(II)I"⟩
abbrev cX4_yearsIt : ByteArray := prog_6_method_24_code
def yX4_yearsIt : MethodName := ⟨RX4, "yearsIt", "(I)I"⟩
abbrev cX4_passYears : ByteArray := prog_6_method_25_code
def yX4_passYears : MethodName := ⟨RX4, "passYears", "(I)I"⟩
abbrev cX4_grams : ByteArray := prog_6_method_26_code
def yX4_grams : MethodName := ⟨RX4, "grams", "(I)I"⟩
abbrev cX4_manyOfYear : ByteArray := prog_6_method_27_code
def yX4_manyOfYear : MethodName := ⟨RX4, "manyOfYear", "(I)I"⟩
abbrev cX4_recallIt : ByteArray := prog_6_method_28_code
def yX4_recallIt : MethodName := ⟨RX4, "recallIt", "(I)I"⟩
abbrev cX4_recall : ByteArray := prog_6_method_29_code
def yX4_recall : MethodName := ⟨RX4, "recall", "(I)I"⟩
abbrev cX4_cell : ByteArray := prog_6_method_30_code
def yX4_cell : MethodName := ⟨RX4, "cell", "(II)I"⟩
abbrev cX4_sortsDies : ByteArray := prog_6_method_31_code
def yX4_sortsDies : MethodName := ⟨RX4, "sortsDies", "()V"⟩
abbrev cX4_works : ByteArray := prog_6_method_32_code
def yX4_works : MethodName := ⟨RX4, "works", "()V"⟩
abbrev cX4_fewestFor : ByteArray := prog_6_method_33_code
def yX4_fewestFor : MethodName := ⟨RX4, "fewestFor", "(I)I"⟩
abbrev cX4_used : ByteArray := prog_6_method_34_code
def yX4_used : MethodName := ⟨RX4, "used", "(II)I"⟩
abbrev cX4_firstCoin : ByteArray := prog_6_method_35_code
def yX4_firstCoin : MethodName := ⟨RX4, "firstCoin", "(I)I"⟩
abbrev cX4_payIt : ByteArray := prog_6_method_36_code
def yX4_payIt : MethodName := ⟨RX4, "payIt", "(I)I"⟩
abbrev cX4_pay : ByteArray := prog_6_method_37_code
def yX4_pay : MethodName := ⟨RX4, "pay", "(I)I"⟩
abbrev cX4_total : ByteArray := prog_6_method_38_code
def yX4_total : MethodName := ⟨RX4, "total", "(I)I"⟩
abbrev cX4_ofDie : ByteArray := prog_6_method_39_code
def yX4_ofDie : MethodName := ⟨RX4, "ofDie", "(II)I"⟩
abbrev cX4_dieCount : ByteArray := prog_6_method_40_code
def yX4_dieCount : MethodName := ⟨RX4, "dieCount", "()I"⟩
abbrev cX4_dieValue : ByteArray := prog_6_method_41_code
def yX4_dieValue : MethodName := ⟨RX4, "dieValue", "(I)I"⟩
abbrev cX4_coinWeight : ByteArray := prog_6_method_42_code
def yX4_coinWeight : MethodName := ⟨RX4, "coinWeight", "(I)I"⟩
abbrev cX4_wear : ByteArray := prog_6_method_43_code
def yX4_wear : MethodName := ⟨RX4, "wear", "(I)I"⟩
abbrev cX4_nextGrade : ByteArray := prog_6_method_44_code
def yX4_nextGrade : MethodName := ⟨RX4, "nextGrade", "(I)C"⟩
abbrev cX4_dieByWear : ByteArray := prog_6_method_45_code
def yX4_dieByWear : MethodName := ⟨RX4, "dieByWear", "(I)I"⟩
abbrev cX4_leaves : ByteArray := prog_6_method_46_code
def yX4_leaves : MethodName := ⟨RX4, "leaves", "()I"⟩
abbrev cX4_year : ByteArray := prog_6_method_47_code
def yX4_year : MethodName := ⟨RX4, "year", "()I"⟩
abbrev cX4_vaultCoins : ByteArray := prog_6_method_48_code
def yX4_vaultCoins : MethodName := ⟨RX4, "vaultCoins", "()I"⟩
abbrev cX4_vaultValue : ByteArray := prog_6_method_49_code
def yX4_vaultValue : MethodName := ⟨RX4, "vaultValue", "()I"⟩
abbrev cX4_vaultValueByDies : ByteArray := prog_6_method_50_code
def yX4_vaultValueByDies : MethodName := ⟨RX4, "vaultValueByDies", "()I"⟩
abbrev cX4_vaultWeight : ByteArray := prog_6_method_51_code
def yX4_vaultWeight : MethodName := ⟨RX4, "vaultWeight", "()I"⟩
abbrev cX4_coinsOfValue : ByteArray := prog_6_method_52_code
def yX4_coinsOfValue : MethodName := ⟨RX4, "coinsOfValue", "(I)I"⟩
abbrev cX4_coinsOfYear : ByteArray := prog_6_method_53_code
def yX4_coinsOfYear : MethodName := ⟨RX4, "coinsOfYear", "(I)I"⟩
abbrev cX4_manyOfGrade : ByteArray := prog_6_method_54_code
def yX4_manyOfGrade : MethodName := ⟨RX4, "manyOfGrade", "(I)I"⟩
abbrev cX4_coinsOfGrade : ByteArray := prog_6_method_55_code
def yX4_coinsOfGrade : MethodName := ⟨RX4, "coinsOfGrade", "(C)I"⟩
abbrev cX4_kinds : ByteArray := prog_6_method_56_code
def yX4_kinds : MethodName := ⟨RX4, "kinds", "()I"⟩
abbrev cX4_canPay : ByteArray := prog_6_method_57_code
def yX4_canPay : MethodName := ⟨RX4, "canPay", "(I)Z"⟩
abbrev cX4_fewestCoins : ByteArray := prog_6_method_58_code
def yX4_fewestCoins : MethodName := ⟨RX4, "fewestCoins", "(I)I"⟩
abbrev cX4_fewestCoinsBySets : ByteArray := prog_6_method_59_code
def yX4_fewestCoinsBySets : MethodName := ⟨RX4, "fewestCoinsBySets", "(I)I"⟩
abbrev cX4_greedyCoins : ByteArray := prog_6_method_60_code
def yX4_greedyCoins : MethodName := ⟨RX4, "greedyCoins", "(I)I"⟩
abbrev cX4_coinsUsed : ByteArray := prog_6_method_61_code
def yX4_coinsUsed : MethodName := ⟨RX4, "coinsUsed", "(II)I"⟩
abbrev cX4_payableAmounts : ByteArray := prog_6_method_62_code
def yX4_payableAmounts : MethodName := ⟨RX4, "payableAmounts", "()I"⟩
abbrev cX4_recallGrams : ByteArray := prog_6_method_63_code
def yX4_recallGrams : MethodName := ⟨RX4, "recallGrams", "(I)I"⟩
abbrev cX4_struckTotal : ByteArray := prog_6_method_64_code
def yX4_struckTotal : MethodName := ⟨RX4, "struckTotal", "()I"⟩
abbrev cX4_paidTotal : ByteArray := prog_6_method_65_code
def yX4_paidTotal : MethodName := ⟨RX4, "paidTotal", "()I"⟩
abbrev cX4_paidWeight : ByteArray := prog_6_method_66_code
def yX4_paidWeight : MethodName := ⟨RX4, "paidWeight", "()I"⟩
abbrev cX4_lostWeight : ByteArray := prog_6_method_67_code
def yX4_lostWeight : MethodName := ⟨RX4, "lostWeight", "()I"⟩
abbrev cX4_addedWeight : ByteArray := prog_6_method_68_code
def yX4_addedWeight : MethodName := ⟨RX4, "addedWeight", "()I"⟩
abbrev cX4_meanWear : ByteArray := prog_6_method_69_code
def yX4_meanWear : MethodName := ⟨RX4, "meanWear", "()D"⟩
abbrev cX4_gradeShare : ByteArray := prog_6_method_70_code
def yX4_gradeShare : MethodName := ⟨RX4, "gradeShare", "(C)F"⟩
abbrev cX4_isConsistent : ByteArray := prog_6_method_71_code
def yX4_isConsistent : MethodName := ⟨RX4, "isConsistent", "()Z"⟩
abbrev cX4_sign : ByteArray := prog_6_method_72_code
def yX4_sign : MethodName := ⟨RX4, "sign", "(I)V"⟩
abbrev cX4_writesNumber : ByteArray := prog_6_method_73_code
def yX4_writesNumber : MethodName := ⟨RX4, "writesNumber", "(I)V"⟩
abbrev cX4_renderDie : ByteArray := prog_6_method_74_code
def yX4_renderDie : MethodName := ⟨RX4, "renderDie", "(I)I"⟩
abbrev cX4_renderVault : ByteArray := prog_6_method_75_code
def yX4_renderVault : MethodName := ⟨RX4, "renderVault", "()I"⟩
abbrev cX4_outputAt : ByteArray := prog_6_method_76_code
def yX4_outputAt : MethodName := ⟨RX4, "outputAt", "(I)C"⟩
abbrev cX4_type : ByteArray := prog_6_method_77_code
def yX4_type : MethodName := ⟨RX4, "type", "(C)I"⟩
abbrev cX4_here : ByteArray := prog_6_method_78_code
def yX4_here : MethodName := ⟨RX4, "here", "()I"⟩
abbrev cX4_expects : ByteArray := prog_6_method_79_code
def yX4_expects : MethodName := ⟨RX4, "expects", "(I)V"⟩
abbrev cX4_digit : ByteArray := prog_6_method_80_code
def yX4_digit : MethodName := ⟨RX4, "digit", "()I"⟩
abbrev cX4_number : ByteArray := prog_6_method_81_code
def yX4_number : MethodName := ⟨RX4, "number", "()I"⟩
abbrev cX4_digitBehind : ByteArray := prog_6_method_82_code
def yX4_digitBehind : MethodName := ⟨RX4, "digitBehind", "()I"⟩
abbrev cX4_numberBehind : ByteArray := prog_6_method_83_code
def yX4_numberBehind : MethodName := ⟨RX4, "numberBehind", "()I"⟩
abbrev cX4_likeness : ByteArray := prog_6_method_84_code
def yX4_likeness : MethodName := ⟨RX4, "likeness", "(I)I"⟩
abbrev cX4_readArguments : ByteArray := prog_6_method_85_code
def yX4_readArguments : MethodName := ⟨RX4, "readArguments", "(II)V"⟩
abbrev cX4_readCommand : ByteArray := prog_6_method_86_code
def yX4_readCommand : MethodName := ⟨RX4, "readCommand", "()V"⟩
abbrev cX4_does : ByteArray := prog_6_method_87_code
def yX4_does : MethodName := ⟨RX4, "does", "(I)V"⟩
abbrev cX4_runScript : ByteArray := prog_6_method_88_code
def yX4_runScript : MethodName := ⟨RX4, "runScript", "()I"⟩
abbrev cX4_errorPosition : ByteArray := prog_6_method_89_code
def yX4_errorPosition : MethodName := ⟨RX4, "errorPosition", "()I"⟩
abbrev cX4_failedCommand : ByteArray := prog_6_method_90_code
def yX4_failedCommand : MethodName := ⟨RX4, "failedCommand", "()I"⟩
abbrev cX4_undo : ByteArray := prog_6_method_91_code
def yX4_undo : MethodName := ⟨RX4, "undo", "()I"⟩
abbrev cX4_save : ByteArray := prog_6_method_92_code
def yX4_save : MethodName := ⟨RX4, "save", "()I"⟩
abbrev cX4_restore : ByteArray := prog_6_method_93_code
def yX4_restore : MethodName := ⟨RX4, "restore", "()I"⟩
def RJx145de : String := "java/io/Serializable"
def TJx145de : u_T := fun k => match k with
  | _ => ("", "", "", false)
def tyJx145de : Nat → FieldType := fun k => match k with
  | _ => .int
theorem nmJx145de : ∀ a, a < 0 → ∀ b, b < 0 → a ≠ b → (TJx145de a).2.1 ≠ (TJx145de b).2.1 := by decide +kernel
theorem tyJx145de_ok : ∀ k, k < 0 → parseFieldDescriptor (TJx145de k).2.2.1 = some (tyJx145de k) := by decide +kernel
def RJ5 : String := "java/lang/AbstractStringBuilder"
def TJ5 : u_T := fun k => match k with
  | _ => ("", "", "", false)
def tyJ5 : Nat → FieldType := fun k => match k with
  | _ => .int
theorem nmJ5 : ∀ a, a < 0 → ∀ b, b < 0 → a ≠ b → (TJ5 a).2.1 ≠ (TJ5 b).2.1 := by decide +kernel
theorem tyJ5_ok : ∀ k, k < 0 → parseFieldDescriptor (TJ5 k).2.2.1 = some (tyJ5 k) := by decide +kernel
abbrev cJ5_init_d00df : ByteArray := prog_8_method_2_code
def yJ5_init_d00df : MethodName := ⟨RJ5, "<init>", "(I)V"⟩
abbrev cJ5_length_8abf5 : ByteArray := prog_8_method_6_code
def yJ5_length_8abf5 : MethodName := ⟨RJ5, "length", "()I"⟩
abbrev cJ5_ensureCapacityInternal_d00df : ByteArray := prog_8_method_9_code
def yJ5_ensureCapacityInternal_d00df : MethodName := ⟨RJ5, "ensureCapacityInternal", "(I)V"⟩
abbrev cJ5_newCapacity_0f7a4 : ByteArray := prog_8_method_10_code
def yJ5_newCapacity_0f7a4 : MethodName := ⟨RJ5, "newCapacity", "(I)I"⟩
abbrev cJ5_inflate_da8c8 : ByteArray := prog_8_method_11_code
def yJ5_inflate_da8c8 : MethodName := ⟨RJ5, "inflate", "()V"⟩
abbrev cJ5_setLength_d00df : ByteArray := prog_8_method_13_code
def yJ5_setLength_d00df : MethodName := ⟨RJ5, "setLength", "(I)V"⟩
abbrev cJ5_charAt_5068e : ByteArray := prog_8_method_14_code
def yJ5_charAt_5068e : MethodName := ⟨RJ5, "charAt", "(I)C"⟩
abbrev cJ5_append_cf1ce : ByteArray := prog_8_method_22_code
def yJ5_append_cf1ce : MethodName := ⟨RJ5, "append", "(Ljava/lang/String;)Ljava/lang/AbstractStringBuilder;"⟩
abbrev cJ5_appendNull_278bc : ByteArray := prog_8_method_26_code
def yJ5_appendNull_278bc : MethodName := ⟨RJ5, "appendNull", "()Ljava/lang/AbstractStringBuilder;"⟩
abbrev cJ5_append_3fe6f : ByteArray := prog_8_method_31_code
def yJ5_append_3fe6f : MethodName := ⟨RJ5, "append", "(C)Ljava/lang/AbstractStringBuilder;"⟩
abbrev cJ5_append_c97b9 : ByteArray := prog_8_method_32_code
def yJ5_append_c97b9 : MethodName := ⟨RJ5, "append", "(I)Ljava/lang/AbstractStringBuilder;"⟩
abbrev cJ5_getValue_6d5f1 : ByteArray := prog_8_method_64_code
def yJ5_getValue_6d5f1 : MethodName := ⟨RJ5, "getValue", "()[B"⟩
abbrev cJ5_isLatin1_aae02 : ByteArray := prog_8_method_68_code
def yJ5_isLatin1_aae02 : MethodName := ⟨RJ5, "isLatin1", "()Z"⟩
abbrev cJ5_inflateIfNeededFor_a7421 : ByteArray := prog_8_method_71_code
def yJ5_inflateIfNeededFor_a7421 : MethodName := ⟨RJ5, "inflateIfNeededFor", "(Ljava/lang/String;)V"⟩
abbrev cJ5_putStringAt_47b60 : ByteArray := prog_8_method_73_code
def yJ5_putStringAt_47b60 : MethodName := ⟨RJ5, "putStringAt", "(ILjava/lang/String;)V"⟩
def RJx2cfe8 : String := "java/lang/Appendable"
def TJx2cfe8 : u_T := fun k => match k with
  | _ => ("", "", "", false)
def tyJx2cfe8 : Nat → FieldType := fun k => match k with
  | _ => .int
theorem nmJx2cfe8 : ∀ a, a < 0 → ∀ b, b < 0 → a ≠ b → (TJx2cfe8 a).2.1 ≠ (TJx2cfe8 b).2.1 := by decide +kernel
theorem tyJx2cfe8_ok : ∀ k, k < 0 → parseFieldDescriptor (TJx2cfe8 k).2.2.1 = some (tyJx2cfe8 k) := by decide +kernel
def RJx00060 : String := "java/lang/ArrayIndexOutOfBoundsException"
def TJx00060 : u_T := fun k => match k with
  | 0 => ("java/lang/Throwable", "cause", "Ljava/lang/Throwable;", false)
  | 1 => ("java/lang/Throwable", "stackTrace", "[Ljava/lang/StackTraceElement;", false)
  | 2 => ("java/lang/Throwable", "suppressedExceptions", "Ljava/util/List;", false)
  | 3 => ("java/lang/Throwable", "detailMessage", "Ljava/lang/String;", false)
  | 4 => ("java/lang/Throwable", "backtrace", "Ljava/lang/Object;", false)
  | _ => ("java/lang/Throwable", "depth", "I", false)
def tyJx00060 : Nat → FieldType := fun k => match k with
  | 0 => .object "java/lang/Throwable"
  | 1 => .array (.object "java/lang/StackTraceElement")
  | 2 => .object "java/util/List"
  | 3 => .object "java/lang/String"
  | 4 => .object "java/lang/Object"
  | _ => .int
theorem nmJx00060 : ∀ a, a < 6 → ∀ b, b < 6 → a ≠ b → (TJx00060 a).2.1 ≠ (TJx00060 b).2.1 := by decide +kernel
theorem tyJx00060_ok : ∀ k, k < 6 → parseFieldDescriptor (TJx00060 k).2.2.1 = some (tyJx00060 k) := by decide +kernel
abbrev cJx00060_init_a7421 : ByteArray := prog_11_method_2_code
def yJx00060_init_a7421 : MethodName := ⟨RJx00060, "<init>", "(Ljava/lang/String;)V"⟩
abbrev cJx00060_init_d00df : ByteArray := prog_11_method_3_code
def yJx00060_init_d00df : MethodName := ⟨RJx00060, "<init>", "(I)V"⟩
def RJx9f9b0 : String := "java/lang/CharSequence"
def TJx9f9b0 : u_T := fun k => match k with
  | _ => ("", "", "", false)
def tyJx9f9b0 : Nat → FieldType := fun k => match k with
  | _ => .int
theorem nmJx9f9b0 : ∀ a, a < 0 → ∀ b, b < 0 → a ≠ b → (TJx9f9b0 a).2.1 ≠ (TJx9f9b0 b).2.1 := by decide +kernel
theorem tyJx9f9b0_ok : ∀ k, k < 0 → parseFieldDescriptor (TJx9f9b0 k).2.2.1 = some (tyJx9f9b0 k) := by decide +kernel
def RJx8e188 : String := "java/lang/Cloneable"
def TJx8e188 : u_T := fun k => match k with
  | _ => ("", "", "", false)
def tyJx8e188 : Nat → FieldType := fun k => match k with
  | _ => .int
theorem nmJx8e188 : ∀ a, a < 0 → ∀ b, b < 0 → a ≠ b → (TJx8e188 a).2.1 ≠ (TJx8e188 b).2.1 := by decide +kernel
theorem tyJx8e188_ok : ∀ k, k < 0 → parseFieldDescriptor (TJx8e188 k).2.2.1 = some (tyJx8e188 k) := by decide +kernel
def RJxb160c : String := "java/lang/Comparable"
def TJxb160c : u_T := fun k => match k with
  | _ => ("", "", "", false)
def tyJxb160c : Nat → FieldType := fun k => match k with
  | _ => .int
theorem nmJxb160c : ∀ a, a < 0 → ∀ b, b < 0 → a ≠ b → (TJxb160c a).2.1 ≠ (TJxb160c b).2.1 := by decide +kernel
theorem tyJxb160c_ok : ∀ k, k < 0 → parseFieldDescriptor (TJxb160c k).2.2.1 = some (tyJxb160c k) := by decide +kernel
def RJ6 : String := "java/lang/Integer"
def TJ6 : u_T := fun k => match k with
  | _ => ("", "", "", false)
def tyJ6 : Nat → FieldType := fun k => match k with
  | _ => .int
theorem nmJ6 : ∀ a, a < 0 → ∀ b, b < 0 → a ≠ b → (TJ6 a).2.1 ≠ (TJ6 b).2.1 := by decide +kernel
theorem tyJ6_ok : ∀ k, k < 0 → parseFieldDescriptor (TJ6 k).2.2.1 = some (tyJ6 k) := by decide +kernel
abbrev cJ6_getChars_ba4f3 : ByteArray := prog_19_method_12_code
def yJ6_getChars_ba4f3 : MethodName := ⟨RJ6, "getChars", "(II[B)I"⟩
abbrev cJ6_stringSize_0f7a4 : ByteArray := prog_19_method_13_code
def yJ6_stringSize_0f7a4 : MethodName := ⟨RJ6, "stringSize", "(I)I"⟩
def RJ9 : String := "java/lang/Math"
def TJ9 : u_T := fun k => match k with
  | _ => ("", "", "", false)
def tyJ9 : Nat → FieldType := fun k => match k with
  | _ => .int
theorem nmJ9 : ∀ a, a < 0 → ∀ b, b < 0 → a ≠ b → (TJ9 a).2.1 ≠ (TJ9 b).2.1 := by decide +kernel
theorem tyJ9_ok : ∀ k, k < 0 → parseFieldDescriptor (TJ9 k).2.2.1 = some (tyJ9 k) := by decide +kernel
abbrev cJ9_max_7cf53 : ByteArray := prog_20_method_65_code
def yJ9_max_7cf53 : MethodName := ⟨RJ9, "max", "(II)I"⟩
abbrev cJ9_min_7cf53 : ByteArray := prog_20_method_69_code
def yJ9_min_7cf53 : MethodName := ⟨RJ9, "min", "(II)I"⟩
def RJxd2413 : String := "java/lang/Number"
def TJxd2413 : u_T := fun k => match k with
  | _ => ("", "", "", false)
def tyJxd2413 : Nat → FieldType := fun k => match k with
  | _ => .int
theorem nmJxd2413 : ∀ a, a < 0 → ∀ b, b < 0 → a ≠ b → (TJxd2413 a).2.1 ≠ (TJxd2413 b).2.1 := by decide +kernel
theorem tyJxd2413_ok : ∀ k, k < 0 → parseFieldDescriptor (TJxd2413 k).2.2.1 = some (tyJxd2413 k) := by decide +kernel
def RJ0 : String := "java/lang/String"
def TJ0 : u_T := fun k => match k with
  | 0 => ("java/lang/String", "value", "[B", true)
  | 1 => ("java/lang/String", "coder", "B", true)
  | 2 => ("java/lang/String", "hash", "I", false)
  | _ => ("java/lang/String", "hashIsZero", "Z", false)
def tyJ0 : Nat → FieldType := fun k => match k with
  | 0 => .array .byte
  | 1 => .byte
  | 2 => .int
  | _ => .boolean
theorem nmJ0 : ∀ a, a < 4 → ∀ b, b < 4 → a ≠ b → (TJ0 a).2.1 ≠ (TJ0 b).2.1 := by decide +kernel
theorem tyJ0_ok : ∀ k, k < 4 → parseFieldDescriptor (TJ0 k).2.2.1 = some (tyJ0 k) := by decide +kernel
abbrev cJ0_init_81219 : ByteArray := prog_23_method_53_code
def yJ0_init_81219 : MethodName := ⟨RJ0, "<init>", "(Ljava/lang/StringBuilder;)V"⟩
abbrev cJ0_length_8abf5 : ByteArray := prog_23_method_54_code
def yJ0_length_8abf5 : MethodName := ⟨RJ0, "length", "()I"⟩
abbrev cJ0_charAt_5068e : ByteArray := prog_23_method_56_code
def yJ0_charAt_5068e : MethodName := ⟨RJ0, "charAt", "(I)C"⟩
abbrev cJ0_getBytes_840e7 : ByteArray := prog_23_method_147_code
def yJ0_getBytes_840e7 : MethodName := ⟨RJ0, "getBytes", "([BIB)V"⟩
abbrev cJ0_init_db425 : ByteArray := prog_23_method_150_code
def yJ0_init_db425 : MethodName := ⟨RJ0, "<init>", "(Ljava/lang/AbstractStringBuilder;Ljava/lang/Void;)V"⟩
abbrev cJ0_coder_7d493 : ByteArray := prog_23_method_152_code
def yJ0_coder_7d493 : MethodName := ⟨RJ0, "coder", "()B"⟩
abbrev cJ0_isLatin1_aae02 : ByteArray := prog_23_method_154_code
def yJ0_isLatin1_aae02 : MethodName := ⟨RJ0, "isLatin1", "()Z"⟩
abbrev cJ0_checkIndex_df160 : ByteArray := prog_23_method_155_code
def yJ0_checkIndex_df160 : MethodName := ⟨RJ0, "checkIndex", "(II)V"⟩
abbrev cJ0_checkBoundsOffCount_cabcc : ByteArray := prog_23_method_157_code
def yJ0_checkBoundsOffCount_cabcc : MethodName := ⟨RJ0, "checkBoundsOffCount", "(III)I"⟩
abbrev cJ0_checkBoundsBeginEnd_23922 : ByteArray := prog_23_method_158_code
def yJ0_checkBoundsBeginEnd_23922 : MethodName := ⟨RJ0, "checkBoundsBeginEnd", "(III)V"⟩
def RJ4 : String := "java/lang/StringBuilder"
def TJ4 : u_T := fun k => match k with
  | 0 => ("java/lang/AbstractStringBuilder", "value", "[B", false)
  | 1 => ("java/lang/AbstractStringBuilder", "coder", "B", false)
  | 2 => ("java/lang/AbstractStringBuilder", "maybeLatin1", "Z", false)
  | _ => ("java/lang/AbstractStringBuilder", "count", "I", false)
def tyJ4 : Nat → FieldType := fun k => match k with
  | 0 => .array .byte
  | 1 => .byte
  | 2 => .boolean
  | _ => .int
theorem nmJ4 : ∀ a, a < 4 → ∀ b, b < 4 → a ≠ b → (TJ4 a).2.1 ≠ (TJ4 b).2.1 := by decide +kernel
theorem tyJ4_ok : ∀ k, k < 4 → parseFieldDescriptor (TJ4 k).2.2.1 = some (tyJ4 k) := by decide +kernel
abbrev cJ4_init_da8c8 : ByteArray := prog_24_method_1_code
def yJ4_init_da8c8 : MethodName := ⟨RJ4, "<init>", "()V"⟩
abbrev cJ4_append_15ec4 : ByteArray := prog_24_method_7_code
def yJ4_append_15ec4 : MethodName := ⟨RJ4, "append", "(Ljava/lang/String;)Ljava/lang/StringBuilder;"⟩
abbrev cJ4_append_cf468 : ByteArray := prog_24_method_14_code
def yJ4_append_cf468 : MethodName := ⟨RJ4, "append", "(C)Ljava/lang/StringBuilder;"⟩
abbrev cJ4_append_bf812 : ByteArray := prog_24_method_15_code
def yJ4_append_bf812 : MethodName := ⟨RJ4, "append", "(I)Ljava/lang/StringBuilder;"⟩
abbrev cJ4_toString_0e30d : ByteArray := prog_24_method_42_code
def yJ4_toString_0e30d : MethodName := ⟨RJ4, "toString", "()Ljava/lang/String;"⟩
abbrev cJ4_charAt_5068e : ByteArray := prog_24_method_88_code
def yJ4_charAt_5068e : MethodName := ⟨RJ4, "charAt", "(I)C"⟩
abbrev cJ4_setLength_d00df : ByteArray := prog_24_method_89_code
def yJ4_setLength_d00df : MethodName := ⟨RJ4, "setLength", "(I)V"⟩
abbrev cJ4_length_8abf5 : ByteArray := prog_24_method_93_code
def yJ4_length_8abf5 : MethodName := ⟨RJ4, "length", "()I"⟩
def RJx7c733 : String := "java/lang/StringIndexOutOfBoundsException"
def TJx7c733 : u_T := fun k => match k with
  | 0 => ("java/lang/Throwable", "backtrace", "Ljava/lang/Object;", false)
  | 1 => ("java/lang/Throwable", "detailMessage", "Ljava/lang/String;", false)
  | 2 => ("java/lang/Throwable", "cause", "Ljava/lang/Throwable;", false)
  | 3 => ("java/lang/Throwable", "stackTrace", "[Ljava/lang/StackTraceElement;", false)
  | 4 => ("java/lang/Throwable", "depth", "I", false)
  | _ => ("java/lang/Throwable", "suppressedExceptions", "Ljava/util/List;", false)
def tyJx7c733 : Nat → FieldType := fun k => match k with
  | 0 => .object "java/lang/Object"
  | 1 => .object "java/lang/String"
  | 2 => .object "java/lang/Throwable"
  | 3 => .array (.object "java/lang/StackTraceElement")
  | 4 => .int
  | _ => .object "java/util/List"
theorem nmJx7c733 : ∀ a, a < 6 → ∀ b, b < 6 → a ≠ b → (TJx7c733 a).2.1 ≠ (TJx7c733 b).2.1 := by decide +kernel
theorem tyJx7c733_ok : ∀ k, k < 6 → parseFieldDescriptor (TJx7c733 k).2.2.1 = some (tyJx7c733 k) := by decide +kernel
abbrev cJx7c733_init_d00df : ByteArray := prog_25_method_3_code
def yJx7c733_init_d00df : MethodName := ⟨RJx7c733, "<init>", "(I)V"⟩
def RJ1 : String := "java/lang/StringLatin1"
def TJ1 : u_T := fun k => match k with
  | _ => ("", "", "", false)
def tyJ1 : Nat → FieldType := fun k => match k with
  | _ => .int
theorem nmJ1 : ∀ a, a < 0 → ∀ b, b < 0 → a ≠ b → (TJ1 a).2.1 ≠ (TJ1 b).2.1 := by decide +kernel
theorem tyJ1_ok : ∀ k, k < 0 → parseFieldDescriptor (TJ1 k).2.2.1 = some (tyJ1 k) := by decide +kernel
abbrev cJ1_charAt_3b067 : ByteArray := prog_26_method_2_code
def yJ1_charAt_3b067 : MethodName := ⟨RJ1, "charAt", "([BI)C"⟩
abbrev cJ1_canEncode_fc78d : ByteArray := prog_26_method_3_code
def yJ1_canEncode_fc78d : MethodName := ⟨RJ1, "canEncode", "(C)Z"⟩
abbrev cJ1_fillNull_b72d1 : ByteArray := prog_26_method_48_code
def yJ1_fillNull_b72d1 : MethodName := ⟨RJ1, "fillNull", "([BII)V"⟩
abbrev cJ1_inflate_0e8fd : ByteArray := prog_26_method_50_code
def yJ1_inflate_0e8fd : MethodName := ⟨RJ1, "inflate", "([BI[BII)V"⟩
def RJ2 : String := "java/lang/StringUTF16"
def TJ2 : u_T := fun k => match k with
  | _ => ("", "", "", false)
def tyJ2 : Nat → FieldType := fun k => match k with
  | _ => .int
theorem nmJ2 : ∀ a, a < 0 → ∀ b, b < 0 → a ≠ b → (TJ2 a).2.1 ≠ (TJ2 b).2.1 := by decide +kernel
theorem tyJ2_ok : ∀ k, k < 0 → parseFieldDescriptor (TJ2 k).2.2.1 = some (tyJ2 k) := by decide +kernel
abbrev cJ2_newBytesFor_77867 : ByteArray := prog_27_method_2_code
def yJ2_newBytesFor_77867 : MethodName := ⟨RJ2, "newBytesFor", "(I)[B"⟩
abbrev cJ2_newBytesLength_0f7a4 : ByteArray := prog_27_method_3_code
def yJ2_newBytesLength_0f7a4 : MethodName := ⟨RJ2, "newBytesLength", "(I)I"⟩
abbrev cJ2_putChar_b72d1 : ByteArray := prog_27_method_4_code
def yJ2_putChar_b72d1 : MethodName := ⟨RJ2, "putChar", "([BII)V"⟩
abbrev cJ2_getChar_3b067 : ByteArray := prog_27_method_5_code
def yJ2_getChar_3b067 : MethodName := ⟨RJ2, "getChar", "([BI)C"⟩
abbrev cJ2_length_9d52b : ByteArray := prog_27_method_6_code
def yJ2_length_9d52b : MethodName := ⟨RJ2, "length", "([B)I"⟩
abbrev cJ2_coderFromArrayLen_85cad : ByteArray := prog_27_method_15_code
def yJ2_coderFromArrayLen_85cad : MethodName := ⟨RJ2, "coderFromArrayLen", "([BI)B"⟩
abbrev cJ2_compress_39247 : ByteArray := prog_27_method_17_code
def yJ2_compress_39247 : MethodName := ⟨RJ2, "compress", "([BII)[B"⟩
abbrev cJ2_compress_5af95 : ByteArray := prog_27_method_22_code
def yJ2_compress_5af95 : MethodName := ⟨RJ2, "compress", "([BI[BII)I"⟩
abbrev cJ2_fillNull_b72d1 : ByteArray := prog_27_method_70_code
def yJ2_fillNull_b72d1 : MethodName := ⟨RJ2, "fillNull", "([BII)V"⟩
abbrev cJ2_putCharSB_b72d1 : ByteArray := prog_27_method_71_code
def yJ2_putCharSB_b72d1 : MethodName := ⟨RJ2, "putCharSB", "([BII)V"⟩
abbrev cJ2_getChars_46870 : ByteArray := prog_27_method_77_code
def yJ2_getChars_46870 : MethodName := ⟨RJ2, "getChars", "(III[B)I"⟩
abbrev cJ2_putCharsAt_cd4e5 : ByteArray := prog_27_method_81_code
def yJ2_putCharsAt_cd4e5 : MethodName := ⟨RJ2, "putCharsAt", "([BICCCC)I"⟩
abbrev cJ2_charAt_3b067 : ByteArray := prog_27_method_83_code
def yJ2_charAt_3b067 : MethodName := ⟨RJ2, "charAt", "([BI)C"⟩
abbrev cJ2_inflate_0e8fd : ByteArray := prog_27_method_86_code
def yJ2_inflate_0e8fd : MethodName := ⟨RJ2, "inflate", "([BI[BII)V"⟩
abbrev cJ2_getChars_ba4f3 : ByteArray := prog_27_method_89_code
def yJ2_getChars_ba4f3 : MethodName := ⟨RJ2, "getChars", "(II[B)I"⟩
abbrev cJ2_checkIndex_2214a : ByteArray := prog_27_method_91_code
def yJ2_checkIndex_2214a : MethodName := ⟨RJ2, "checkIndex", "(I[B)V"⟩
abbrev cJ2_checkBoundsBeginEnd_d044e : ByteArray := prog_27_method_93_code
def yJ2_checkBoundsBeginEnd_d044e : MethodName := ⟨RJ2, "checkBoundsBeginEnd", "(II[B)V"⟩
abbrev cJ2_checkBoundsOffCount_d044e : ByteArray := prog_27_method_94_code
def yJ2_checkBoundsOffCount_d044e : MethodName := ⟨RJ2, "checkBoundsOffCount", "(II[B)V"⟩
def RJ10 : String := "java/lang/System"
def TJ10 : u_T := fun k => match k with
  | _ => ("", "", "", false)
def tyJ10 : Nat → FieldType := fun k => match k with
  | _ => .int
theorem nmJ10 : ∀ a, a < 0 → ∀ b, b < 0 → a ≠ b → (TJ10 a).2.1 ≠ (TJ10 b).2.1 := by decide +kernel
theorem tyJ10_ok : ∀ k, k < 0 → parseFieldDescriptor (TJ10 k).2.2.1 = some (tyJ10 k) := by decide +kernel
def RJxfd54e : String := "java/lang/constant/Constable"
def TJxfd54e : u_T := fun k => match k with
  | _ => ("", "", "", false)
def tyJxfd54e : Nat → FieldType := fun k => match k with
  | _ => .int
theorem nmJxfd54e : ∀ a, a < 0 → ∀ b, b < 0 → a ≠ b → (TJxfd54e a).2.1 ≠ (TJxfd54e b).2.1 := by decide +kernel
theorem tyJxfd54e_ok : ∀ k, k < 0 → parseFieldDescriptor (TJxfd54e k).2.2.1 = some (tyJxfd54e k) := by decide +kernel
def RJx3cf43 : String := "java/lang/constant/ConstantDesc"
def TJx3cf43 : u_T := fun k => match k with
  | _ => ("", "", "", false)
def tyJx3cf43 : Nat → FieldType := fun k => match k with
  | _ => .int
theorem nmJx3cf43 : ∀ a, a < 0 → ∀ b, b < 0 → a ≠ b → (TJx3cf43 a).2.1 ≠ (TJx3cf43 b).2.1 := by decide +kernel
theorem tyJx3cf43_ok : ∀ k, k < 0 → parseFieldDescriptor (TJx3cf43 k).2.2.1 = some (tyJx3cf43 k) := by decide +kernel
def RJ7 : String := "java/util/Arrays"
def TJ7 : u_T := fun k => match k with
  | _ => ("", "", "", false)
def tyJ7 : Nat → FieldType := fun k => match k with
  | _ => .int
theorem nmJ7 : ∀ a, a < 0 → ∀ b, b < 0 → a ≠ b → (TJ7 a).2.1 ≠ (TJ7 b).2.1 := by decide +kernel
theorem tyJ7_ok : ∀ k, k < 0 → parseFieldDescriptor (TJ7 k).2.2.1 = some (tyJ7 k) := by decide +kernel
abbrev cJ7_rangeCheck_23922 : ByteArray := prog_33_method_30_code
def yJ7_rangeCheck_23922 : MethodName := ⟨RJ7, "rangeCheck", "(III)V"⟩
abbrev cJ7_fill_d0a16 : ByteArray := prog_33_method_101_code
def yJ7_fill_d0a16 : MethodName := ⟨RJ7, "fill", "([JJ)V"⟩
abbrev cJ7_fill_53178 : ByteArray := prog_33_method_103_code
def yJ7_fill_53178 : MethodName := ⟨RJ7, "fill", "([II)V"⟩
abbrev cJ7_fill_eb02e : ByteArray := prog_33_method_110_code
def yJ7_fill_eb02e : MethodName := ⟨RJ7, "fill", "([BIIB)V"⟩
abbrev cJ7_copyOf_9075b : ByteArray := prog_33_method_121_code
def yJ7_copyOf_9075b : MethodName := ⟨RJ7, "copyOf", "([BI)[B"⟩
abbrev cJ7_checkLength_df160 : ByteArray := prog_33_method_131_code
def yJ7_checkLength_df160 : MethodName := ⟨RJ7, "checkLength", "(II)V"⟩
abbrev cJ7_copyOfRange_39247 : ByteArray := prog_33_method_132_code
def yJ7_copyOfRange_39247 : MethodName := ⟨RJ7, "copyOfRange", "([BII)[B"⟩
abbrev cJ7_copyOfRangeByte_39247 : ByteArray := prog_33_method_133_code
def yJ7_copyOfRangeByte_39247 : MethodName := ⟨RJ7, "copyOfRangeByte", "([BII)[B"⟩
def RJ8 : String := "jdk/internal/util/ArraysSupport"
def TJ8 : u_T := fun k => match k with
  | _ => ("", "", "", false)
def tyJ8 : Nat → FieldType := fun k => match k with
  | _ => .int
theorem nmJ8 : ∀ a, a < 0 → ∀ b, b < 0 → a ≠ b → (TJ8 a).2.1 ≠ (TJ8 b).2.1 := by decide +kernel
theorem tyJ8_ok : ∀ k, k < 0 → parseFieldDescriptor (TJ8 k).2.2.1 = some (tyJ8 k) := by decide +kernel
abbrev cJ8_newLength_cabcc : ByteArray := prog_35_method_27_code
def yJ8_newLength_cabcc : MethodName := ⟨RJ8, "newLength", "(III)I"⟩
abbrev cJ8_hugeLength_7cf53 : ByteArray := prog_35_method_28_code
def yJ8_hugeLength_7cf53 : MethodName := ⟨RJ8, "hugeLength", "(II)I"⟩
def RJ3 : String := "jdk/internal/util/Preconditions"
def TJ3 : u_T := fun k => match k with
  | _ => ("", "", "", false)
def tyJ3 : Nat → FieldType := fun k => match k with
  | _ => .int
theorem nmJ3 : ∀ a, a < 0 → ∀ b, b < 0 → a ≠ b → (TJ3 a).2.1 ≠ (TJ3 b).2.1 := by decide +kernel
theorem tyJ3_ok : ∀ k, k < 0 → parseFieldDescriptor (TJ3 k).2.2.1 = some (tyJ3 k) := by decide +kernel
abbrev cJ3_checkIndex_8e157 : ByteArray := prog_36_method_11_code
def yJ3_checkIndex_8e157 : MethodName := ⟨RJ3, "checkIndex", "(IILjava/util/function/BiFunction;)I"⟩
abbrev cJ3_checkFromToIndex_8c36e : ByteArray := prog_36_method_12_code
def yJ3_checkFromToIndex_8c36e : MethodName := ⟨RJ3, "checkFromToIndex", "(IIILjava/util/function/BiFunction;)I"⟩
abbrev cJ3_checkFromIndexSize_8c36e : ByteArray := prog_36_method_13_code
def yJ3_checkFromIndexSize_8c36e : MethodName := ⟨RJ3, "checkFromIndexSize", "(IIILjava/util/function/BiFunction;)I"⟩
def RL : String := "LeafMintLaw"
abbrev cL_addDie : ByteArray := method_3_code
def yL_addDie : MethodName := ⟨RL, "addDie", "(LLeafMint;II[J)I"⟩
abbrev cL_sharpen : ByteArray := method_4_code
def yL_sharpen : MethodName := ⟨RL, "sharpen", "(LLeafMint;I[J)I"⟩
abbrev cL_addLeaves : ByteArray := method_5_code
def yL_addLeaves : MethodName := ⟨RL, "addLeaves", "(LLeafMint;I[J)I"⟩
abbrev cL_strike : ByteArray := method_6_code
def yL_strike : MethodName := ⟨RL, "strike", "(LLeafMint;II[J)I"⟩
abbrev cL_passYears : ByteArray := method_7_code
def yL_passYears : MethodName := ⟨RL, "passYears", "(LLeafMint;I[J)I"⟩
abbrev cL_recall : ByteArray := method_8_code
def yL_recall : MethodName := ⟨RL, "recall", "(LLeafMint;I[J)I"⟩
abbrev cL_pay : ByteArray := method_9_code
def yL_pay : MethodName := ⟨RL, "pay", "(LLeafMint;I[J)I"⟩
abbrev cL_dieValue : ByteArray := method_10_code
def yL_dieValue : MethodName := ⟨RL, "dieValue", "(LLeafMint;I[J)I"⟩
abbrev cL_coinWeight : ByteArray := method_11_code
def yL_coinWeight : MethodName := ⟨RL, "coinWeight", "(LLeafMint;I[J)I"⟩
abbrev cL_wear : ByteArray := method_12_code
def yL_wear : MethodName := ⟨RL, "wear", "(LLeafMint;I[J)I"⟩
abbrev cL_nextGrade : ByteArray := method_13_code
def yL_nextGrade : MethodName := ⟨RL, "nextGrade", "(LLeafMint;I[J)I"⟩
abbrev cL_dieByWear : ByteArray := method_14_code
def yL_dieByWear : MethodName := ⟨RL, "dieByWear", "(LLeafMint;I[J)I"⟩
abbrev cL_coinsOfValue : ByteArray := method_15_code
def yL_coinsOfValue : MethodName := ⟨RL, "coinsOfValue", "(LLeafMint;I[J)I"⟩
abbrev cL_coinsOfGrade : ByteArray := method_16_code
def yL_coinsOfGrade : MethodName := ⟨RL, "coinsOfGrade", "(LLeafMint;C[J)I"⟩
abbrev cL_canPay : ByteArray := method_17_code
def yL_canPay : MethodName := ⟨RL, "canPay", "(LLeafMint;I[J)I"⟩
abbrev cL_fewestCoins : ByteArray := method_18_code
def yL_fewestCoins : MethodName := ⟨RL, "fewestCoins", "(LLeafMint;I[J)I"⟩
abbrev cL_fewestCoinsBySets : ByteArray := method_19_code
def yL_fewestCoinsBySets : MethodName := ⟨RL, "fewestCoinsBySets", "(LLeafMint;I[J)I"⟩
abbrev cL_greedyCoins : ByteArray := method_20_code
def yL_greedyCoins : MethodName := ⟨RL, "greedyCoins", "(LLeafMint;I[J)I"⟩
abbrev cL_coinsUsed : ByteArray := method_21_code
def yL_coinsUsed : MethodName := ⟨RL, "coinsUsed", "(LLeafMint;II[J)I"⟩
abbrev cL_meanWear : ByteArray := method_22_code
def yL_meanWear : MethodName := ⟨RL, "meanWear", "(LLeafMint;[D)I"⟩
abbrev cL_gradeShare : ByteArray := method_23_code
def yL_gradeShare : MethodName := ⟨RL, "gradeShare", "(LLeafMint;C[D)I"⟩
abbrev cL_renderDie : ByteArray := method_24_code
def yL_renderDie : MethodName := ⟨RL, "renderDie", "(LLeafMint;I[J)I"⟩
abbrev cL_outputAt : ByteArray := method_25_code
def yL_outputAt : MethodName := ⟨RL, "outputAt", "(LLeafMint;I[J)I"⟩
abbrev cL_type : ByteArray := method_26_code
def yL_type : MethodName := ⟨RL, "type", "(LLeafMint;C[J)I"⟩
abbrev cL_runScript : ByteArray := method_27_code
def yL_runScript : MethodName := ⟨RL, "runScript", "(LLeafMint;[J)I"⟩
abbrev cL_errorPosition : ByteArray := method_28_code
def yL_errorPosition : MethodName := ⟨RL, "errorPosition", "(LLeafMint;[J)I"⟩
abbrev cL_failedCommand : ByteArray := method_29_code
def yL_failedCommand : MethodName := ⟨RL, "failedCommand", "(LLeafMint;[J)I"⟩
abbrev cL_undo : ByteArray := method_30_code
def yL_undo : MethodName := ⟨RL, "undo", "(LLeafMint;[J)I"⟩
abbrev cL_restore : ByteArray := method_31_code
def yL_restore : MethodName := ⟨RL, "restore", "(LLeafMint;[J)I"⟩
abbrev cL_law : ByteArray := code
def yL_law : MethodName := ⟨RL, "law", "([I)Z"⟩
theorem dX0_init_0 : decode cX0_init 0 = .ok (.aload_n 0, 1) := by decide +kernel
theorem dX0_init_1 : decode cX0_init 1 = .ok (.invokespecial 3, 3) := by decide +kernel
theorem dX0_init_4 : decode cX0_init 4 = .ok (.aload_n 0, 1) := by decide +kernel
theorem dX0_init_5 : decode cX0_init 5 = .ok (.iconst 5, 1) := by decide +kernel
theorem dX0_init_6 : decode cX0_init 6 = .ok (.newarray .int, 2) := by decide +kernel
theorem dX0_init_8 : decode cX0_init 8 = .ok (.putfield 9, 3) := by decide +kernel
theorem dX0_init_11 : decode cX0_init 11 = .ok (.aload_n 0, 1) := by decide +kernel
theorem dX0_init_12 : decode cX0_init 12 = .ok (.bipush 6, 2) := by decide +kernel
theorem dX0_init_14 : decode cX0_init 14 = .ok (.bipush 100, 2) := by decide +kernel
theorem dX0_init_16 : decode cX0_init 16 = .ok (.multianewarray 15 2, 4) := by decide +kernel
theorem dX0_init_20 : decode cX0_init 20 = .ok (.putfield 17, 3) := by decide +kernel
theorem dX0_init_23 : decode cX0_init 23 = .ok (.aload_n 0, 1) := by decide +kernel
theorem dX0_init_24 : decode cX0_init 24 = .ok (.bipush 41, 2) := by decide +kernel
theorem dX0_init_26 : decode cX0_init 26 = .ok (.newarray .long, 2) := by decide +kernel
theorem dX0_init_28 : decode cX0_init 28 = .ok (.putfield 20, 3) := by decide +kernel
theorem dX0_init_31 : decode cX0_init 31 = .ok (.aload_n 0, 1) := by decide +kernel
theorem dX0_init_32 : decode cX0_init 32 = .ok (.bipush 41, 2) := by decide +kernel
theorem dX0_init_34 : decode cX0_init 34 = .ok (.newarray .long, 2) := by decide +kernel
theorem dX0_init_36 : decode cX0_init 36 = .ok (.putfield 24, 3) := by decide +kernel
theorem dX0_init_39 : decode cX0_init 39 = .ok (.return_, 1) := by decide +kernel
theorem dX0_tabulate_0 : decode cX0_tabulate 0 = .ok (.aload_n 0, 1) := by decide +kernel
theorem dX0_tabulate_1 : decode cX0_tabulate 1 = .ok (.aload_n 1, 1) := by decide +kernel
theorem dX0_tabulate_2 : decode cX0_tabulate 2 = .ok (.getfield 27, 3) := by decide +kernel
theorem dX0_tabulate_5 : decode cX0_tabulate 5 = .ok (.putfield 33, 3) := by decide +kernel
theorem dX0_tabulate_8 : decode cX0_tabulate 8 = .ok (.aload_n 0, 1) := by decide +kernel
theorem dX0_tabulate_9 : decode cX0_tabulate 9 = .ok (.getfield 17, 3) := by decide +kernel
theorem dX0_tabulate_12 : decode cX0_tabulate 12 = .ok (.iconst 0, 1) := by decide +kernel
theorem dX0_tabulate_13 : decode cX0_tabulate 13 = .ok (.aaload, 1) := by decide +kernel
theorem dX0_tabulate_14 : decode cX0_tabulate 14 = .ok (.sipush 1000, 3) := by decide +kernel
theorem dX0_tabulate_17 : decode cX0_tabulate 17 = .ok (.invokestatic 36, 3) := by decide +kernel
theorem dX0_tabulate_20 : decode cX0_tabulate 20 = .ok (.aload_n 0, 1) := by decide +kernel
theorem dX0_tabulate_21 : decode cX0_tabulate 21 = .ok (.getfield 17, 3) := by decide +kernel
theorem dX0_tabulate_24 : decode cX0_tabulate 24 = .ok (.iconst 0, 1) := by decide +kernel
theorem dX0_tabulate_25 : decode cX0_tabulate 25 = .ok (.aaload, 1) := by decide +kernel
theorem dX0_tabulate_26 : decode cX0_tabulate 26 = .ok (.iconst 0, 1) := by decide +kernel
theorem dX0_tabulate_27 : decode cX0_tabulate 27 = .ok (.iconst 0, 1) := by decide +kernel
theorem dX0_tabulate_28 : decode cX0_tabulate 28 = .ok (.iastore, 1) := by decide +kernel
theorem dX0_tabulate_29 : decode cX0_tabulate 29 = .ok (.iconst 0, 1) := by decide +kernel
theorem dX0_tabulate_30 : decode cX0_tabulate 30 = .ok (.istore_n 2, 1) := by decide +kernel
theorem dX0_tabulate_31 : decode cX0_tabulate 31 = .ok (.iload_n 2, 1) := by decide +kernel
theorem dX0_tabulate_32 : decode cX0_tabulate 32 = .ok (.aload_n 0, 1) := by decide +kernel
theorem dX0_tabulate_33 : decode cX0_tabulate 33 = .ok (.getfield 33, 3) := by decide +kernel
theorem dX0_tabulate_36 : decode cX0_tabulate 36 = .ok (.if_icmp .ge 44, 3) := by decide +kernel
theorem dX0_tabulate_39 : decode cX0_tabulate 39 = .ok (.aload_n 1, 1) := by decide +kernel
theorem dX0_tabulate_40 : decode cX0_tabulate 40 = .ok (.getfield 42, 3) := by decide +kernel
theorem dX0_tabulate_43 : decode cX0_tabulate 43 = .ok (.iload_n 2, 1) := by decide +kernel
theorem dX0_tabulate_44 : decode cX0_tabulate 44 = .ok (.iaload, 1) := by decide +kernel
theorem dX0_tabulate_45 : decode cX0_tabulate 45 = .ok (.istore_n 3, 1) := by decide +kernel
theorem dX0_tabulate_46 : decode cX0_tabulate 46 = .ok (.aload_n 0, 1) := by decide +kernel
theorem dX0_tabulate_47 : decode cX0_tabulate 47 = .ok (.getfield 17, 3) := by decide +kernel
theorem dX0_tabulate_50 : decode cX0_tabulate 50 = .ok (.iload_n 2, 1) := by decide +kernel
theorem dX0_tabulate_51 : decode cX0_tabulate 51 = .ok (.aaload, 1) := by decide +kernel
theorem dX0_tabulate_52 : decode cX0_tabulate 52 = .ok (.aload_n 0, 1) := by decide +kernel
theorem dX0_tabulate_53 : decode cX0_tabulate 53 = .ok (.getfield 17, 3) := by decide +kernel
theorem dX0_tabulate_56 : decode cX0_tabulate 56 = .ok (.iload_n 2, 1) := by decide +kernel
theorem dX0_tabulate_57 : decode cX0_tabulate 57 = .ok (.iconst 1, 1) := by decide +kernel
theorem dX0_tabulate_58 : decode cX0_tabulate 58 = .ok (.iadd, 1) := by decide +kernel
theorem dX0_tabulate_59 : decode cX0_tabulate 59 = .ok (.aaload, 1) := by decide +kernel
theorem dX0_tabulate_60 : decode cX0_tabulate 60 = .ok (.aload_n 1, 1) := by decide +kernel
theorem dX0_tabulate_61 : decode cX0_tabulate 61 = .ok (.getfield 45, 3) := by decide +kernel
theorem dX0_tabulate_64 : decode cX0_tabulate 64 = .ok (.iload_n 3, 1) := by decide +kernel
theorem dX0_tabulate_65 : decode cX0_tabulate 65 = .ok (.iaload, 1) := by decide +kernel
theorem dX0_tabulate_66 : decode cX0_tabulate 66 = .ok (.aload_n 1, 1) := by decide +kernel
theorem dX0_tabulate_67 : decode cX0_tabulate 67 = .ok (.iload_n 3, 1) := by decide +kernel
theorem dX0_tabulate_68 : decode cX0_tabulate 68 = .ok (.invokevirtual 48, 3) := by decide +kernel
theorem dX0_tabulate_71 : decode cX0_tabulate 71 = .ok (.invokestatic 52, 3) := by decide +kernel
theorem dX0_tabulate_74 : decode cX0_tabulate 74 = .ok (.iinc 2 1, 3) := by decide +kernel
theorem dX0_tabulate_77 : decode cX0_tabulate 77 = .ok (.goto (-46), 3) := by decide +kernel
theorem dX0_tabulate_80 : decode cX0_tabulate 80 = .ok (.return_, 1) := by decide +kernel
theorem dX0_addValue_0 : decode cX0_addValue 0 = .ok (.iconst 0, 1) := by decide +kernel
theorem dX0_addValue_1 : decode cX0_addValue 1 = .ok (.istore 4, 2) := by decide +kernel
theorem dX0_addValue_3 : decode cX0_addValue 3 = .ok (.iload 4, 2) := by decide +kernel
theorem dX0_addValue_5 : decode cX0_addValue 5 = .ok (.bipush 99, 2) := by decide +kernel
theorem dX0_addValue_7 : decode cX0_addValue 7 = .ok (.if_icmp .gt 69, 3) := by decide +kernel
theorem dX0_addValue_10 : decode cX0_addValue 10 = .ok (.sipush 1000, 3) := by decide +kernel
theorem dX0_addValue_13 : decode cX0_addValue 13 = .ok (.istore 5, 2) := by decide +kernel
theorem dX0_addValue_15 : decode cX0_addValue 15 = .ok (.iconst 0, 1) := by decide +kernel
theorem dX0_addValue_16 : decode cX0_addValue 16 = .ok (.istore 6, 2) := by decide +kernel
theorem dX0_addValue_18 : decode cX0_addValue 18 = .ok (.iload 6, 2) := by decide +kernel
theorem dX0_addValue_20 : decode cX0_addValue 20 = .ok (.iload_n 3, 1) := by decide +kernel
theorem dX0_addValue_21 : decode cX0_addValue 21 = .ok (.if_icmp .gt 43, 3) := by decide +kernel
theorem dX0_addValue_24 : decode cX0_addValue 24 = .ok (.iload 6, 2) := by decide +kernel
theorem dX0_addValue_26 : decode cX0_addValue 26 = .ok (.iload_n 2, 1) := by decide +kernel
theorem dX0_addValue_27 : decode cX0_addValue 27 = .ok (.imul, 1) := by decide +kernel
theorem dX0_addValue_28 : decode cX0_addValue 28 = .ok (.iload 4, 2) := by decide +kernel
theorem dX0_addValue_30 : decode cX0_addValue 30 = .ok (.if_icmp .gt 34, 3) := by decide +kernel
theorem dX0_addValue_33 : decode cX0_addValue 33 = .ok (.aload_n 0, 1) := by decide +kernel
theorem dX0_addValue_34 : decode cX0_addValue 34 = .ok (.iload 4, 2) := by decide +kernel
theorem dX0_addValue_36 : decode cX0_addValue 36 = .ok (.iload 6, 2) := by decide +kernel
theorem dX0_addValue_38 : decode cX0_addValue 38 = .ok (.iload_n 2, 1) := by decide +kernel
theorem dX0_addValue_39 : decode cX0_addValue 39 = .ok (.imul, 1) := by decide +kernel
theorem dX0_addValue_40 : decode cX0_addValue 40 = .ok (.isub, 1) := by decide +kernel
theorem dX0_addValue_41 : decode cX0_addValue 41 = .ok (.iaload, 1) := by decide +kernel
theorem dX0_addValue_42 : decode cX0_addValue 42 = .ok (.iload 6, 2) := by decide +kernel
theorem dX0_addValue_44 : decode cX0_addValue 44 = .ok (.iadd, 1) := by decide +kernel
theorem dX0_addValue_45 : decode cX0_addValue 45 = .ok (.istore 7, 2) := by decide +kernel
theorem dX0_addValue_47 : decode cX0_addValue 47 = .ok (.iload 7, 2) := by decide +kernel
theorem dX0_addValue_49 : decode cX0_addValue 49 = .ok (.iload 5, 2) := by decide +kernel
theorem dX0_addValue_51 : decode cX0_addValue 51 = .ok (.if_icmp .ge 7, 3) := by decide +kernel
theorem dX0_addValue_54 : decode cX0_addValue 54 = .ok (.iload 7, 2) := by decide +kernel
theorem dX0_addValue_56 : decode cX0_addValue 56 = .ok (.istore 5, 2) := by decide +kernel
theorem dX0_addValue_58 : decode cX0_addValue 58 = .ok (.iinc 6 1, 3) := by decide +kernel
theorem dX0_addValue_61 : decode cX0_addValue 61 = .ok (.goto (-43), 3) := by decide +kernel
theorem dX0_addValue_64 : decode cX0_addValue 64 = .ok (.aload_n 1, 1) := by decide +kernel
theorem dX0_addValue_65 : decode cX0_addValue 65 = .ok (.iload 4, 2) := by decide +kernel
theorem dX0_addValue_67 : decode cX0_addValue 67 = .ok (.iload 5, 2) := by decide +kernel
theorem dX0_addValue_69 : decode cX0_addValue 69 = .ok (.iastore, 1) := by decide +kernel
theorem dX0_addValue_70 : decode cX0_addValue 70 = .ok (.iinc 4 1, 3) := by decide +kernel
theorem dX0_addValue_73 : decode cX0_addValue 73 = .ok (.goto (-70), 3) := by decide +kernel
theorem dX0_addValue_76 : decode cX0_addValue 76 = .ok (.return_, 1) := by decide +kernel
theorem dX0_tableAnswer_0 : decode cX0_tableAnswer 0 = .ok (.aload_n 0, 1) := by decide +kernel
theorem dX0_tableAnswer_1 : decode cX0_tableAnswer 1 = .ok (.getfield 17, 3) := by decide +kernel
theorem dX0_tableAnswer_4 : decode cX0_tableAnswer 4 = .ok (.aload_n 0, 1) := by decide +kernel
theorem dX0_tableAnswer_5 : decode cX0_tableAnswer 5 = .ok (.getfield 33, 3) := by decide +kernel
theorem dX0_tableAnswer_8 : decode cX0_tableAnswer 8 = .ok (.aaload, 1) := by decide +kernel
theorem dX0_tableAnswer_9 : decode cX0_tableAnswer 9 = .ok (.iload_n 1, 1) := by decide +kernel
theorem dX0_tableAnswer_10 : decode cX0_tableAnswer 10 = .ok (.iaload, 1) := by decide +kernel
theorem dX0_tableAnswer_11 : decode cX0_tableAnswer 11 = .ok (.ireturn, 1) := by decide +kernel
theorem dX0_collectSets_0 : decode cX0_collectSets 0 = .ok (.aload_n 0, 1) := by decide +kernel
theorem dX0_collectSets_1 : decode cX0_collectSets 1 = .ok (.aload_n 1, 1) := by decide +kernel
theorem dX0_collectSets_2 : decode cX0_collectSets 2 = .ok (.getfield 56, 3) := by decide +kernel
theorem dX0_collectSets_5 : decode cX0_collectSets 5 = .ok (.putfield 59, 3) := by decide +kernel
theorem dX0_collectSets_8 : decode cX0_collectSets 8 = .ok (.aload_n 0, 1) := by decide +kernel
theorem dX0_collectSets_9 : decode cX0_collectSets 9 = .ok (.getfield 20, 3) := by decide +kernel
theorem dX0_collectSets_12 : decode cX0_collectSets 12 = .ok (.lconst 0, 1) := by decide +kernel
theorem dX0_collectSets_13 : decode cX0_collectSets 13 = .ok (.invokestatic 60, 3) := by decide +kernel
theorem dX0_collectSets_16 : decode cX0_collectSets 16 = .ok (.aload_n 0, 1) := by decide +kernel
theorem dX0_collectSets_17 : decode cX0_collectSets 17 = .ok (.getfield 24, 3) := by decide +kernel
theorem dX0_collectSets_20 : decode cX0_collectSets 20 = .ok (.lconst 0, 1) := by decide +kernel
theorem dX0_collectSets_21 : decode cX0_collectSets 21 = .ok (.invokestatic 60, 3) := by decide +kernel
theorem dX0_collectSets_24 : decode cX0_collectSets 24 = .ok (.aload_n 0, 1) := by decide +kernel
theorem dX0_collectSets_25 : decode cX0_collectSets 25 = .ok (.getfield 20, 3) := by decide +kernel
theorem dX0_collectSets_28 : decode cX0_collectSets 28 = .ok (.iconst 0, 1) := by decide +kernel
theorem dX0_collectSets_29 : decode cX0_collectSets 29 = .ok (.lconst 1, 1) := by decide +kernel
theorem dX0_collectSets_30 : decode cX0_collectSets 30 = .ok (.lastore, 1) := by decide +kernel
theorem dX0_collectSets_31 : decode cX0_collectSets 31 = .ok (.iconst 0, 1) := by decide +kernel
theorem dX0_collectSets_32 : decode cX0_collectSets 32 = .ok (.istore_n 2, 1) := by decide +kernel
theorem dX0_collectSets_33 : decode cX0_collectSets 33 = .ok (.iload_n 2, 1) := by decide +kernel
theorem dX0_collectSets_34 : decode cX0_collectSets 34 = .ok (.aload_n 0, 1) := by decide +kernel
theorem dX0_collectSets_35 : decode cX0_collectSets 35 = .ok (.getfield 59, 3) := by decide +kernel
theorem dX0_collectSets_38 : decode cX0_collectSets 38 = .ok (.if_icmp .ge 25, 3) := by decide +kernel
theorem dX0_collectSets_41 : decode cX0_collectSets 41 = .ok (.aload_n 0, 1) := by decide +kernel
theorem dX0_collectSets_42 : decode cX0_collectSets 42 = .ok (.iload_n 2, 1) := by decide +kernel
theorem dX0_collectSets_43 : decode cX0_collectSets 43 = .ok (.aload_n 1, 1) := by decide +kernel
theorem dX0_collectSets_44 : decode cX0_collectSets 44 = .ok (.getfield 45, 3) := by decide +kernel
theorem dX0_collectSets_47 : decode cX0_collectSets 47 = .ok (.aload_n 1, 1) := by decide +kernel
theorem dX0_collectSets_48 : decode cX0_collectSets 48 = .ok (.getfield 63, 3) := by decide +kernel
theorem dX0_collectSets_51 : decode cX0_collectSets 51 = .ok (.iload_n 2, 1) := by decide +kernel
theorem dX0_collectSets_52 : decode cX0_collectSets 52 = .ok (.iaload, 1) := by decide +kernel
theorem dX0_collectSets_53 : decode cX0_collectSets 53 = .ok (.iaload, 1) := by decide +kernel
theorem dX0_collectSets_54 : decode cX0_collectSets 54 = .ok (.invokevirtual 66, 3) := by decide +kernel
theorem dX0_collectSets_57 : decode cX0_collectSets 57 = .ok (.iinc 2 1, 3) := by decide +kernel
theorem dX0_collectSets_60 : decode cX0_collectSets 60 = .ok (.goto (-27), 3) := by decide +kernel
theorem dX0_collectSets_63 : decode cX0_collectSets 63 = .ok (.return_, 1) := by decide +kernel
theorem dX0_addCoin_0 : decode cX0_addCoin 0 = .ok (.iload_n 1, 1) := by decide +kernel
theorem dX0_addCoin_1 : decode cX0_addCoin 1 = .ok (.istore_n 3, 1) := by decide +kernel
theorem dX0_addCoin_2 : decode cX0_addCoin 2 = .ok (.iload_n 3, 1) := by decide +kernel
theorem dX0_addCoin_3 : decode cX0_addCoin 3 = .ok (.ifCond .lt 63, 3) := by decide +kernel
theorem dX0_addCoin_6 : decode cX0_addCoin 6 = .ok (.aload_n 0, 1) := by decide +kernel
theorem dX0_addCoin_7 : decode cX0_addCoin 7 = .ok (.getfield 20, 3) := by decide +kernel
theorem dX0_addCoin_10 : decode cX0_addCoin 10 = .ok (.iload_n 3, 1) := by decide +kernel
theorem dX0_addCoin_11 : decode cX0_addCoin 11 = .ok (.laload, 1) := by decide +kernel
theorem dX0_addCoin_12 : decode cX0_addCoin 12 = .ok (.bipush 64, 2) := by decide +kernel
theorem dX0_addCoin_14 : decode cX0_addCoin 14 = .ok (.iload_n 2, 1) := by decide +kernel
theorem dX0_addCoin_15 : decode cX0_addCoin 15 = .ok (.isub, 1) := by decide +kernel
theorem dX0_addCoin_16 : decode cX0_addCoin 16 = .ok (.lushr, 1) := by decide +kernel
theorem dX0_addCoin_17 : decode cX0_addCoin 17 = .ok (.lstore 4, 2) := by decide +kernel
theorem dX0_addCoin_19 : decode cX0_addCoin 19 = .ok (.aload_n 0, 1) := by decide +kernel
theorem dX0_addCoin_20 : decode cX0_addCoin 20 = .ok (.getfield 20, 3) := by decide +kernel
theorem dX0_addCoin_23 : decode cX0_addCoin 23 = .ok (.iload_n 3, 1) := by decide +kernel
theorem dX0_addCoin_24 : decode cX0_addCoin 24 = .ok (.iconst 1, 1) := by decide +kernel
theorem dX0_addCoin_25 : decode cX0_addCoin 25 = .ok (.iadd, 1) := by decide +kernel
theorem dX0_addCoin_26 : decode cX0_addCoin 26 = .ok (.dup2, 1) := by decide +kernel
theorem dX0_addCoin_27 : decode cX0_addCoin 27 = .ok (.laload, 1) := by decide +kernel
theorem dX0_addCoin_28 : decode cX0_addCoin 28 = .ok (.aload_n 0, 1) := by decide +kernel
theorem dX0_addCoin_29 : decode cX0_addCoin 29 = .ok (.getfield 20, 3) := by decide +kernel
theorem dX0_addCoin_32 : decode cX0_addCoin 32 = .ok (.iload_n 3, 1) := by decide +kernel
theorem dX0_addCoin_33 : decode cX0_addCoin 33 = .ok (.laload, 1) := by decide +kernel
theorem dX0_addCoin_34 : decode cX0_addCoin 34 = .ok (.iload_n 2, 1) := by decide +kernel
theorem dX0_addCoin_35 : decode cX0_addCoin 35 = .ok (.lshl, 1) := by decide +kernel
theorem dX0_addCoin_36 : decode cX0_addCoin 36 = .ok (.lor, 1) := by decide +kernel
theorem dX0_addCoin_37 : decode cX0_addCoin 37 = .ok (.lastore, 1) := by decide +kernel
theorem dX0_addCoin_38 : decode cX0_addCoin 38 = .ok (.aload_n 0, 1) := by decide +kernel
theorem dX0_addCoin_39 : decode cX0_addCoin 39 = .ok (.getfield 24, 3) := by decide +kernel
theorem dX0_addCoin_42 : decode cX0_addCoin 42 = .ok (.iload_n 3, 1) := by decide +kernel
theorem dX0_addCoin_43 : decode cX0_addCoin 43 = .ok (.iconst 1, 1) := by decide +kernel
theorem dX0_addCoin_44 : decode cX0_addCoin 44 = .ok (.iadd, 1) := by decide +kernel
theorem dX0_addCoin_45 : decode cX0_addCoin 45 = .ok (.dup2, 1) := by decide +kernel
theorem dX0_addCoin_46 : decode cX0_addCoin 46 = .ok (.laload, 1) := by decide +kernel
theorem dX0_addCoin_47 : decode cX0_addCoin 47 = .ok (.aload_n 0, 1) := by decide +kernel
theorem dX0_addCoin_48 : decode cX0_addCoin 48 = .ok (.getfield 24, 3) := by decide +kernel
theorem dX0_addCoin_51 : decode cX0_addCoin 51 = .ok (.iload_n 3, 1) := by decide +kernel
theorem dX0_addCoin_52 : decode cX0_addCoin 52 = .ok (.laload, 1) := by decide +kernel
theorem dX0_addCoin_53 : decode cX0_addCoin 53 = .ok (.iload_n 2, 1) := by decide +kernel
theorem dX0_addCoin_54 : decode cX0_addCoin 54 = .ok (.lshl, 1) := by decide +kernel
theorem dX0_addCoin_55 : decode cX0_addCoin 55 = .ok (.lload 4, 2) := by decide +kernel
theorem dX0_addCoin_57 : decode cX0_addCoin 57 = .ok (.lor, 1) := by decide +kernel
theorem dX0_addCoin_58 : decode cX0_addCoin 58 = .ok (.lor, 1) := by decide +kernel
theorem dX0_addCoin_59 : decode cX0_addCoin 59 = .ok (.lastore, 1) := by decide +kernel
theorem dX0_addCoin_60 : decode cX0_addCoin 60 = .ok (.iinc 3 (-1), 3) := by decide +kernel
theorem dX0_addCoin_63 : decode cX0_addCoin 63 = .ok (.goto (-61), 3) := by decide +kernel
theorem dX0_addCoin_66 : decode cX0_addCoin 66 = .ok (.return_, 1) := by decide +kernel
theorem dX0_setsAnswer_0 : decode cX0_setsAnswer 0 = .ok (.iconst 0, 1) := by decide +kernel
theorem dX0_setsAnswer_1 : decode cX0_setsAnswer 1 = .ok (.istore_n 2, 1) := by decide +kernel
theorem dX0_setsAnswer_2 : decode cX0_setsAnswer 2 = .ok (.iload_n 2, 1) := by decide +kernel
theorem dX0_setsAnswer_3 : decode cX0_setsAnswer 3 = .ok (.aload_n 0, 1) := by decide +kernel
theorem dX0_setsAnswer_4 : decode cX0_setsAnswer 4 = .ok (.getfield 59, 3) := by decide +kernel
theorem dX0_setsAnswer_7 : decode cX0_setsAnswer 7 = .ok (.if_icmp .gt 20, 3) := by decide +kernel
theorem dX0_setsAnswer_10 : decode cX0_setsAnswer 10 = .ok (.aload_n 0, 1) := by decide +kernel
theorem dX0_setsAnswer_11 : decode cX0_setsAnswer 11 = .ok (.iload_n 2, 1) := by decide +kernel
theorem dX0_setsAnswer_12 : decode cX0_setsAnswer 12 = .ok (.iload_n 1, 1) := by decide +kernel
theorem dX0_setsAnswer_13 : decode cX0_setsAnswer 13 = .ok (.invokevirtual 70, 3) := by decide +kernel
theorem dX0_setsAnswer_16 : decode cX0_setsAnswer 16 = .ok (.ifCond .eq 5, 3) := by decide +kernel
theorem dX0_setsAnswer_19 : decode cX0_setsAnswer 19 = .ok (.iload_n 2, 1) := by decide +kernel
theorem dX0_setsAnswer_20 : decode cX0_setsAnswer 20 = .ok (.ireturn, 1) := by decide +kernel
theorem dX0_setsAnswer_21 : decode cX0_setsAnswer 21 = .ok (.iinc 2 1, 3) := by decide +kernel
theorem dX0_setsAnswer_24 : decode cX0_setsAnswer 24 = .ok (.goto (-22), 3) := by decide +kernel
theorem dX0_setsAnswer_27 : decode cX0_setsAnswer 27 = .ok (.sipush 1000, 3) := by decide +kernel
theorem dX0_setsAnswer_30 : decode cX0_setsAnswer 30 = .ok (.ireturn, 1) := by decide +kernel
theorem dX0_isInSet_0 : decode cX0_isInSet 0 = .ok (.iload_n 2, 1) := by decide +kernel
theorem dX0_isInSet_1 : decode cX0_isInSet 1 = .ok (.bipush 64, 2) := by decide +kernel
theorem dX0_isInSet_3 : decode cX0_isInSet 3 = .ok (.if_icmp .ge 24, 3) := by decide +kernel
theorem dX0_isInSet_6 : decode cX0_isInSet 6 = .ok (.aload_n 0, 1) := by decide +kernel
theorem dX0_isInSet_7 : decode cX0_isInSet 7 = .ok (.getfield 20, 3) := by decide +kernel
theorem dX0_isInSet_10 : decode cX0_isInSet 10 = .ok (.iload_n 1, 1) := by decide +kernel
theorem dX0_isInSet_11 : decode cX0_isInSet 11 = .ok (.laload, 1) := by decide +kernel
theorem dX0_isInSet_12 : decode cX0_isInSet 12 = .ok (.iload_n 2, 1) := by decide +kernel
theorem dX0_isInSet_13 : decode cX0_isInSet 13 = .ok (.lushr, 1) := by decide +kernel
theorem dX0_isInSet_14 : decode cX0_isInSet 14 = .ok (.lconst 1, 1) := by decide +kernel
theorem dX0_isInSet_15 : decode cX0_isInSet 15 = .ok (.land, 1) := by decide +kernel
theorem dX0_isInSet_16 : decode cX0_isInSet 16 = .ok (.lconst 1, 1) := by decide +kernel
theorem dX0_isInSet_17 : decode cX0_isInSet 17 = .ok (.lcmp, 1) := by decide +kernel
theorem dX0_isInSet_18 : decode cX0_isInSet 18 = .ok (.ifCond .ne 7, 3) := by decide +kernel
theorem dX0_isInSet_21 : decode cX0_isInSet 21 = .ok (.iconst 1, 1) := by decide +kernel
theorem dX0_isInSet_22 : decode cX0_isInSet 22 = .ok (.goto 4, 3) := by decide +kernel
theorem dX0_isInSet_25 : decode cX0_isInSet 25 = .ok (.iconst 0, 1) := by decide +kernel
theorem dX0_isInSet_26 : decode cX0_isInSet 26 = .ok (.ireturn, 1) := by decide +kernel
theorem dX0_isInSet_27 : decode cX0_isInSet 27 = .ok (.aload_n 0, 1) := by decide +kernel
theorem dX0_isInSet_28 : decode cX0_isInSet 28 = .ok (.getfield 24, 3) := by decide +kernel
theorem dX0_isInSet_31 : decode cX0_isInSet 31 = .ok (.iload_n 1, 1) := by decide +kernel
theorem dX0_isInSet_32 : decode cX0_isInSet 32 = .ok (.laload, 1) := by decide +kernel
theorem dX0_isInSet_33 : decode cX0_isInSet 33 = .ok (.iload_n 2, 1) := by decide +kernel
theorem dX0_isInSet_34 : decode cX0_isInSet 34 = .ok (.bipush 64, 2) := by decide +kernel
theorem dX0_isInSet_36 : decode cX0_isInSet 36 = .ok (.isub, 1) := by decide +kernel
theorem dX0_isInSet_37 : decode cX0_isInSet 37 = .ok (.lushr, 1) := by decide +kernel
theorem dX0_isInSet_38 : decode cX0_isInSet 38 = .ok (.lconst 1, 1) := by decide +kernel
theorem dX0_isInSet_39 : decode cX0_isInSet 39 = .ok (.land, 1) := by decide +kernel
theorem dX0_isInSet_40 : decode cX0_isInSet 40 = .ok (.lconst 1, 1) := by decide +kernel
theorem dX0_isInSet_41 : decode cX0_isInSet 41 = .ok (.lcmp, 1) := by decide +kernel
theorem dX0_isInSet_42 : decode cX0_isInSet 42 = .ok (.ifCond .ne 7, 3) := by decide +kernel
theorem dX0_isInSet_45 : decode cX0_isInSet 45 = .ok (.iconst 1, 1) := by decide +kernel
theorem dX0_isInSet_46 : decode cX0_isInSet 46 = .ok (.goto 4, 3) := by decide +kernel
theorem dX0_isInSet_49 : decode cX0_isInSet 49 = .ok (.iconst 0, 1) := by decide +kernel
theorem dX0_isInSet_50 : decode cX0_isInSet 50 = .ok (.ireturn, 1) := by decide +kernel
theorem dX0_payGreedily_0 : decode cX0_payGreedily 0 = .ok (.iconst 0, 1) := by decide +kernel
theorem dX0_payGreedily_1 : decode cX0_payGreedily 1 = .ok (.istore_n 3, 1) := by decide +kernel
theorem dX0_payGreedily_2 : decode cX0_payGreedily 2 = .ok (.iload_n 2, 1) := by decide +kernel
theorem dX0_payGreedily_3 : decode cX0_payGreedily 3 = .ok (.istore 4, 2) := by decide +kernel
theorem dX0_payGreedily_5 : decode cX0_payGreedily 5 = .ok (.aload_n 1, 1) := by decide +kernel
theorem dX0_payGreedily_6 : decode cX0_payGreedily 6 = .ok (.getfield 27, 3) := by decide +kernel
theorem dX0_payGreedily_9 : decode cX0_payGreedily 9 = .ok (.iconst 1, 1) := by decide +kernel
theorem dX0_payGreedily_10 : decode cX0_payGreedily 10 = .ok (.isub, 1) := by decide +kernel
theorem dX0_payGreedily_11 : decode cX0_payGreedily 11 = .ok (.istore 5, 2) := by decide +kernel
theorem dX0_payGreedily_13 : decode cX0_payGreedily 13 = .ok (.iload 5, 2) := by decide +kernel
theorem dX0_payGreedily_15 : decode cX0_payGreedily 15 = .ok (.ifCond .lt 63, 3) := by decide +kernel
theorem dX0_payGreedily_18 : decode cX0_payGreedily 18 = .ok (.aload_n 1, 1) := by decide +kernel
theorem dX0_payGreedily_19 : decode cX0_payGreedily 19 = .ok (.getfield 42, 3) := by decide +kernel
theorem dX0_payGreedily_22 : decode cX0_payGreedily 22 = .ok (.iload 5, 2) := by decide +kernel
theorem dX0_payGreedily_24 : decode cX0_payGreedily 24 = .ok (.iaload, 1) := by decide +kernel
theorem dX0_payGreedily_25 : decode cX0_payGreedily 25 = .ok (.istore 6, 2) := by decide +kernel
theorem dX0_payGreedily_27 : decode cX0_payGreedily 27 = .ok (.aload_n 1, 1) := by decide +kernel
theorem dX0_payGreedily_28 : decode cX0_payGreedily 28 = .ok (.getfield 45, 3) := by decide +kernel
theorem dX0_payGreedily_31 : decode cX0_payGreedily 31 = .ok (.iload 6, 2) := by decide +kernel
theorem dX0_payGreedily_33 : decode cX0_payGreedily 33 = .ok (.iaload, 1) := by decide +kernel
theorem dX0_payGreedily_34 : decode cX0_payGreedily 34 = .ok (.istore 7, 2) := by decide +kernel
theorem dX0_payGreedily_36 : decode cX0_payGreedily 36 = .ok (.aload_n 1, 1) := by decide +kernel
theorem dX0_payGreedily_37 : decode cX0_payGreedily 37 = .ok (.iload 6, 2) := by decide +kernel
theorem dX0_payGreedily_39 : decode cX0_payGreedily 39 = .ok (.invokevirtual 48, 3) := by decide +kernel
theorem dX0_payGreedily_42 : decode cX0_payGreedily 42 = .ok (.istore 8, 2) := by decide +kernel
theorem dX0_payGreedily_44 : decode cX0_payGreedily 44 = .ok (.iload 8, 2) := by decide +kernel
theorem dX0_payGreedily_46 : decode cX0_payGreedily 46 = .ok (.ifCond .le 26, 3) := by decide +kernel
theorem dX0_payGreedily_49 : decode cX0_payGreedily 49 = .ok (.iload 7, 2) := by decide +kernel
theorem dX0_payGreedily_51 : decode cX0_payGreedily 51 = .ok (.iload 4, 2) := by decide +kernel
theorem dX0_payGreedily_53 : decode cX0_payGreedily 53 = .ok (.if_icmp .gt 19, 3) := by decide +kernel
theorem dX0_payGreedily_56 : decode cX0_payGreedily 56 = .ok (.iinc 8 (-1), 3) := by decide +kernel
theorem dX0_payGreedily_59 : decode cX0_payGreedily 59 = .ok (.iload 4, 2) := by decide +kernel
theorem dX0_payGreedily_61 : decode cX0_payGreedily 61 = .ok (.iload 7, 2) := by decide +kernel
theorem dX0_payGreedily_63 : decode cX0_payGreedily 63 = .ok (.isub, 1) := by decide +kernel
theorem dX0_payGreedily_64 : decode cX0_payGreedily 64 = .ok (.istore 4, 2) := by decide +kernel
theorem dX0_payGreedily_66 : decode cX0_payGreedily 66 = .ok (.iinc 3 1, 3) := by decide +kernel
theorem dX0_payGreedily_69 : decode cX0_payGreedily 69 = .ok (.goto (-25), 3) := by decide +kernel
theorem dX0_payGreedily_72 : decode cX0_payGreedily 72 = .ok (.iinc 5 (-1), 3) := by decide +kernel
theorem dX0_payGreedily_75 : decode cX0_payGreedily 75 = .ok (.goto (-62), 3) := by decide +kernel
theorem dX0_payGreedily_78 : decode cX0_payGreedily 78 = .ok (.iload 4, 2) := by decide +kernel
theorem dX0_payGreedily_80 : decode cX0_payGreedily 80 = .ok (.ifCond .ne 7, 3) := by decide +kernel
theorem dX0_payGreedily_83 : decode cX0_payGreedily 83 = .ok (.iload_n 3, 1) := by decide +kernel
theorem dX0_payGreedily_84 : decode cX0_payGreedily 84 = .ok (.goto 6, 3) := by decide +kernel
theorem dX0_payGreedily_87 : decode cX0_payGreedily 87 = .ok (.sipush 1000, 3) := by decide +kernel
theorem dX0_payGreedily_90 : decode cX0_payGreedily 90 = .ok (.ireturn, 1) := by decide +kernel
theorem dX0_plan_0 : decode cX0_plan 0 = .ok (.aload_n 0, 1) := by decide +kernel
theorem dX0_plan_1 : decode cX0_plan 1 = .ok (.aload_n 1, 1) := by decide +kernel
theorem dX0_plan_2 : decode cX0_plan 2 = .ok (.invokevirtual 74, 3) := by decide +kernel
theorem dX0_plan_5 : decode cX0_plan 5 = .ok (.aload_n 0, 1) := by decide +kernel
theorem dX0_plan_6 : decode cX0_plan 6 = .ok (.iload_n 2, 1) := by decide +kernel
theorem dX0_plan_7 : decode cX0_plan 7 = .ok (.invokevirtual 78, 3) := by decide +kernel
theorem dX0_plan_10 : decode cX0_plan 10 = .ok (.sipush 1000, 3) := by decide +kernel
theorem dX0_plan_13 : decode cX0_plan 13 = .ok (.if_icmp .ne 5, 3) := by decide +kernel
theorem dX0_plan_16 : decode cX0_plan 16 = .ok (.iconst 0, 1) := by decide +kernel
theorem dX0_plan_17 : decode cX0_plan 17 = .ok (.ireturn, 1) := by decide +kernel
theorem dX0_plan_18 : decode cX0_plan 18 = .ok (.iload_n 2, 1) := by decide +kernel
theorem dX0_plan_19 : decode cX0_plan 19 = .ok (.istore_n 3, 1) := by decide +kernel
theorem dX0_plan_20 : decode cX0_plan 20 = .ok (.aload_n 0, 1) := by decide +kernel
theorem dX0_plan_21 : decode cX0_plan 21 = .ok (.getfield 33, 3) := by decide +kernel
theorem dX0_plan_24 : decode cX0_plan 24 = .ok (.iconst 1, 1) := by decide +kernel
theorem dX0_plan_25 : decode cX0_plan 25 = .ok (.isub, 1) := by decide +kernel
theorem dX0_plan_26 : decode cX0_plan 26 = .ok (.istore 4, 2) := by decide +kernel
theorem dX0_plan_28 : decode cX0_plan 28 = .ok (.iload 4, 2) := by decide +kernel
theorem dX0_plan_30 : decode cX0_plan 30 = .ok (.ifCond .lt 62, 3) := by decide +kernel
theorem dX0_plan_33 : decode cX0_plan 33 = .ok (.aload_n 1, 1) := by decide +kernel
theorem dX0_plan_34 : decode cX0_plan 34 = .ok (.getfield 42, 3) := by decide +kernel
theorem dX0_plan_37 : decode cX0_plan 37 = .ok (.iload 4, 2) := by decide +kernel
theorem dX0_plan_39 : decode cX0_plan 39 = .ok (.iaload, 1) := by decide +kernel
theorem dX0_plan_40 : decode cX0_plan 40 = .ok (.istore 5, 2) := by decide +kernel
theorem dX0_plan_42 : decode cX0_plan 42 = .ok (.aload_n 1, 1) := by decide +kernel
theorem dX0_plan_43 : decode cX0_plan 43 = .ok (.getfield 45, 3) := by decide +kernel
theorem dX0_plan_46 : decode cX0_plan 46 = .ok (.iload 5, 2) := by decide +kernel
theorem dX0_plan_48 : decode cX0_plan 48 = .ok (.iaload, 1) := by decide +kernel
theorem dX0_plan_49 : decode cX0_plan 49 = .ok (.istore 6, 2) := by decide +kernel
theorem dX0_plan_51 : decode cX0_plan 51 = .ok (.aload_n 0, 1) := by decide +kernel
theorem dX0_plan_52 : decode cX0_plan 52 = .ok (.getfield 9, 3) := by decide +kernel
theorem dX0_plan_55 : decode cX0_plan 55 = .ok (.iload 5, 2) := by decide +kernel
theorem dX0_plan_57 : decode cX0_plan 57 = .ok (.aload_n 0, 1) := by decide +kernel
theorem dX0_plan_58 : decode cX0_plan 58 = .ok (.iload 4, 2) := by decide +kernel
theorem dX0_plan_60 : decode cX0_plan 60 = .ok (.iload 6, 2) := by decide +kernel
theorem dX0_plan_62 : decode cX0_plan 62 = .ok (.aload_n 1, 1) := by decide +kernel
theorem dX0_plan_63 : decode cX0_plan 63 = .ok (.iload 5, 2) := by decide +kernel
theorem dX0_plan_65 : decode cX0_plan 65 = .ok (.invokevirtual 48, 3) := by decide +kernel
theorem dX0_plan_68 : decode cX0_plan 68 = .ok (.iload_n 3, 1) := by decide +kernel
theorem dX0_plan_69 : decode cX0_plan 69 = .ok (.invokevirtual 81, 3) := by decide +kernel
theorem dX0_plan_72 : decode cX0_plan 72 = .ok (.iastore, 1) := by decide +kernel
theorem dX0_plan_73 : decode cX0_plan 73 = .ok (.iload_n 3, 1) := by decide +kernel
theorem dX0_plan_74 : decode cX0_plan 74 = .ok (.aload_n 0, 1) := by decide +kernel
theorem dX0_plan_75 : decode cX0_plan 75 = .ok (.getfield 9, 3) := by decide +kernel
theorem dX0_plan_78 : decode cX0_plan 78 = .ok (.iload 5, 2) := by decide +kernel
theorem dX0_plan_80 : decode cX0_plan 80 = .ok (.iaload, 1) := by decide +kernel
theorem dX0_plan_81 : decode cX0_plan 81 = .ok (.iload 6, 2) := by decide +kernel
theorem dX0_plan_83 : decode cX0_plan 83 = .ok (.imul, 1) := by decide +kernel
theorem dX0_plan_84 : decode cX0_plan 84 = .ok (.isub, 1) := by decide +kernel
theorem dX0_plan_85 : decode cX0_plan 85 = .ok (.istore_n 3, 1) := by decide +kernel
theorem dX0_plan_86 : decode cX0_plan 86 = .ok (.iinc 4 (-1), 3) := by decide +kernel
theorem dX0_plan_89 : decode cX0_plan 89 = .ok (.goto (-61), 3) := by decide +kernel
theorem dX0_plan_92 : decode cX0_plan 92 = .ok (.iconst 1, 1) := by decide +kernel
theorem dX0_plan_93 : decode cX0_plan 93 = .ok (.ireturn, 1) := by decide +kernel
theorem dX0_mostOfValue_0 : decode cX0_mostOfValue 0 = .ok (.aload_n 0, 1) := by decide +kernel
theorem dX0_mostOfValue_1 : decode cX0_mostOfValue 1 = .ok (.getfield 17, 3) := by decide +kernel
theorem dX0_mostOfValue_4 : decode cX0_mostOfValue 4 = .ok (.iload_n 1, 1) := by decide +kernel
theorem dX0_mostOfValue_5 : decode cX0_mostOfValue 5 = .ok (.iconst 1, 1) := by decide +kernel
theorem dX0_mostOfValue_6 : decode cX0_mostOfValue 6 = .ok (.iadd, 1) := by decide +kernel
theorem dX0_mostOfValue_7 : decode cX0_mostOfValue 7 = .ok (.aaload, 1) := by decide +kernel
theorem dX0_mostOfValue_8 : decode cX0_mostOfValue 8 = .ok (.iload 4, 2) := by decide +kernel
theorem dX0_mostOfValue_10 : decode cX0_mostOfValue 10 = .ok (.iaload, 1) := by decide +kernel
theorem dX0_mostOfValue_11 : decode cX0_mostOfValue 11 = .ok (.istore 5, 2) := by decide +kernel
theorem dX0_mostOfValue_13 : decode cX0_mostOfValue 13 = .ok (.iload_n 3, 1) := by decide +kernel
theorem dX0_mostOfValue_14 : decode cX0_mostOfValue 14 = .ok (.istore 6, 2) := by decide +kernel
theorem dX0_mostOfValue_16 : decode cX0_mostOfValue 16 = .ok (.iload 6, 2) := by decide +kernel
theorem dX0_mostOfValue_18 : decode cX0_mostOfValue 18 = .ok (.ifCond .le 43, 3) := by decide +kernel
theorem dX0_mostOfValue_21 : decode cX0_mostOfValue 21 = .ok (.iload 4, 2) := by decide +kernel
theorem dX0_mostOfValue_23 : decode cX0_mostOfValue 23 = .ok (.iload 6, 2) := by decide +kernel
theorem dX0_mostOfValue_25 : decode cX0_mostOfValue 25 = .ok (.iload_n 2, 1) := by decide +kernel
theorem dX0_mostOfValue_26 : decode cX0_mostOfValue 26 = .ok (.imul, 1) := by decide +kernel
theorem dX0_mostOfValue_27 : decode cX0_mostOfValue 27 = .ok (.isub, 1) := by decide +kernel
theorem dX0_mostOfValue_28 : decode cX0_mostOfValue 28 = .ok (.istore 7, 2) := by decide +kernel
theorem dX0_mostOfValue_30 : decode cX0_mostOfValue 30 = .ok (.iload 7, 2) := by decide +kernel
theorem dX0_mostOfValue_32 : decode cX0_mostOfValue 32 = .ok (.ifCond .lt 23, 3) := by decide +kernel
theorem dX0_mostOfValue_35 : decode cX0_mostOfValue 35 = .ok (.aload_n 0, 1) := by decide +kernel
theorem dX0_mostOfValue_36 : decode cX0_mostOfValue 36 = .ok (.getfield 17, 3) := by decide +kernel
theorem dX0_mostOfValue_39 : decode cX0_mostOfValue 39 = .ok (.iload_n 1, 1) := by decide +kernel
theorem dX0_mostOfValue_40 : decode cX0_mostOfValue 40 = .ok (.aaload, 1) := by decide +kernel
theorem dX0_mostOfValue_41 : decode cX0_mostOfValue 41 = .ok (.iload 7, 2) := by decide +kernel
theorem dX0_mostOfValue_43 : decode cX0_mostOfValue 43 = .ok (.iaload, 1) := by decide +kernel
theorem dX0_mostOfValue_44 : decode cX0_mostOfValue 44 = .ok (.iload 6, 2) := by decide +kernel
theorem dX0_mostOfValue_46 : decode cX0_mostOfValue 46 = .ok (.iadd, 1) := by decide +kernel
theorem dX0_mostOfValue_47 : decode cX0_mostOfValue 47 = .ok (.iload 5, 2) := by decide +kernel
theorem dX0_mostOfValue_49 : decode cX0_mostOfValue 49 = .ok (.if_icmp .ne 6, 3) := by decide +kernel
theorem dX0_mostOfValue_52 : decode cX0_mostOfValue 52 = .ok (.iload 6, 2) := by decide +kernel
theorem dX0_mostOfValue_54 : decode cX0_mostOfValue 54 = .ok (.ireturn, 1) := by decide +kernel
theorem dX0_mostOfValue_55 : decode cX0_mostOfValue 55 = .ok (.iinc 6 (-1), 3) := by decide +kernel
theorem dX0_mostOfValue_58 : decode cX0_mostOfValue 58 = .ok (.goto (-42), 3) := by decide +kernel
theorem dX0_mostOfValue_61 : decode cX0_mostOfValue 61 = .ok (.iconst 0, 1) := by decide +kernel
theorem dX0_mostOfValue_62 : decode cX0_mostOfValue 62 = .ok (.ireturn, 1) := by decide +kernel
theorem dX1_init_0 : decode cX1_init 0 = .ok (.aload_n 0, 1) := by decide +kernel
theorem dX1_init_1 : decode cX1_init 1 = .ok (.invokespecial 3, 3) := by decide +kernel
theorem dX1_init_4 : decode cX1_init 4 = .ok (.aload_n 0, 1) := by decide +kernel
theorem dX1_init_5 : decode cX1_init 5 = .ok (.bipush 60, 2) := by decide +kernel
theorem dX1_init_7 : decode cX1_init 7 = .ok (.newarray .char, 2) := by decide +kernel
theorem dX1_init_9 : decode cX1_init 9 = .ok (.putfield 9, 3) := by decide +kernel
theorem dX1_init_12 : decode cX1_init 12 = .ok (.aload_n 0, 1) := by decide +kernel
theorem dX1_init_13 : decode cX1_init 13 = .ok (.bipush 60, 2) := by decide +kernel
theorem dX1_init_15 : decode cX1_init 15 = .ok (.newarray .int, 2) := by decide +kernel
theorem dX1_init_17 : decode cX1_init 17 = .ok (.putfield 15, 3) := by decide +kernel
theorem dX1_init_20 : decode cX1_init 20 = .ok (.aload_n 0, 1) := by decide +kernel
theorem dX1_init_21 : decode cX1_init 21 = .ok (.bipush 60, 2) := by decide +kernel
theorem dX1_init_23 : decode cX1_init 23 = .ok (.newarray .int, 2) := by decide +kernel
theorem dX1_init_25 : decode cX1_init 25 = .ok (.putfield 19, 3) := by decide +kernel
theorem dX1_init_28 : decode cX1_init 28 = .ok (.aload_n 0, 1) := by decide +kernel
theorem dX1_init_29 : decode cX1_init 29 = .ok (.bipush 60, 2) := by decide +kernel
theorem dX1_init_31 : decode cX1_init 31 = .ok (.newarray .int, 2) := by decide +kernel
theorem dX1_init_33 : decode cX1_init 33 = .ok (.putfield 22, 3) := by decide +kernel
theorem dX1_init_36 : decode cX1_init 36 = .ok (.return_, 1) := by decide +kernel
theorem dX1_append_0 : decode cX1_append 0 = .ok (.aload_n 0, 1) := by decide +kernel
theorem dX1_append_1 : decode cX1_append 1 = .ok (.getfield 9, 3) := by decide +kernel
theorem dX1_append_4 : decode cX1_append 4 = .ok (.aload_n 0, 1) := by decide +kernel
theorem dX1_append_5 : decode cX1_append 5 = .ok (.getfield 25, 3) := by decide +kernel
theorem dX1_append_8 : decode cX1_append 8 = .ok (.iload_n 1, 1) := by decide +kernel
theorem dX1_append_9 : decode cX1_append 9 = .ok (.castore, 1) := by decide +kernel
theorem dX1_append_10 : decode cX1_append 10 = .ok (.aload_n 0, 1) := by decide +kernel
theorem dX1_append_11 : decode cX1_append 11 = .ok (.dup, 1) := by decide +kernel
theorem dX1_append_12 : decode cX1_append 12 = .ok (.getfield 25, 3) := by decide +kernel
theorem dX1_append_15 : decode cX1_append 15 = .ok (.iconst 1, 1) := by decide +kernel
theorem dX1_append_16 : decode cX1_append 16 = .ok (.iadd, 1) := by decide +kernel
theorem dX1_append_17 : decode cX1_append 17 = .ok (.putfield 25, 3) := by decide +kernel
theorem dX1_append_20 : decode cX1_append 20 = .ok (.return_, 1) := by decide +kernel
theorem dX1_parse_0 : decode cX1_parse 0 = .ok (.aload_n 0, 1) := by decide +kernel
theorem dX1_parse_1 : decode cX1_parse 1 = .ok (.iconst 0, 1) := by decide +kernel
theorem dX1_parse_2 : decode cX1_parse 2 = .ok (.putfield 29, 3) := by decide +kernel
theorem dX1_parse_5 : decode cX1_parse 5 = .ok (.aload_n 0, 1) := by decide +kernel
theorem dX1_parse_6 : decode cX1_parse 6 = .ok (.iconst 0, 1) := by decide +kernel
theorem dX1_parse_7 : decode cX1_parse 7 = .ok (.putfield 32, 3) := by decide +kernel
theorem dX1_parse_10 : decode cX1_parse 10 = .ok (.aload_n 0, 1) := by decide +kernel
theorem dX1_parse_11 : decode cX1_parse 11 = .ok (.getfield 32, 3) := by decide +kernel
theorem dX1_parse_14 : decode cX1_parse 14 = .ok (.bipush 60, 2) := by decide +kernel
theorem dX1_parse_16 : decode cX1_parse 16 = .ok (.if_icmp .ge 44, 3) := by decide +kernel
theorem dX1_parse_19 : decode cX1_parse 19 = .ok (.aload_n 0, 1) := by decide +kernel
theorem dX1_parse_20 : decode cX1_parse 20 = .ok (.invokevirtual 35, 3) := by decide +kernel
theorem dX1_parse_23 : decode cX1_parse 23 = .ok (.ifCond .eq 37, 3) := by decide +kernel
theorem dX1_parse_26 : decode cX1_parse 26 = .ok (.aload_n 0, 1) := by decide +kernel
theorem dX1_parse_27 : decode cX1_parse 27 = .ok (.dup, 1) := by decide +kernel
theorem dX1_parse_28 : decode cX1_parse 28 = .ok (.getfield 32, 3) := by decide +kernel
theorem dX1_parse_31 : decode cX1_parse 31 = .ok (.iconst 1, 1) := by decide +kernel
theorem dX1_parse_32 : decode cX1_parse 32 = .ok (.iadd, 1) := by decide +kernel
theorem dX1_parse_33 : decode cX1_parse 33 = .ok (.putfield 32, 3) := by decide +kernel
theorem dX1_parse_36 : decode cX1_parse 36 = .ok (.aload_n 0, 1) := by decide +kernel
theorem dX1_parse_37 : decode cX1_parse 37 = .ok (.getfield 29, 3) := by decide +kernel
theorem dX1_parse_40 : decode cX1_parse 40 = .ok (.aload_n 0, 1) := by decide +kernel
theorem dX1_parse_41 : decode cX1_parse 41 = .ok (.getfield 25, 3) := by decide +kernel
theorem dX1_parse_44 : decode cX1_parse 44 = .ok (.if_icmp .ne 5, 3) := by decide +kernel
theorem dX1_parse_47 : decode cX1_parse 47 = .ok (.iconst 1, 1) := by decide +kernel
theorem dX1_parse_48 : decode cX1_parse 48 = .ok (.ireturn, 1) := by decide +kernel
theorem dX1_parse_49 : decode cX1_parse 49 = .ok (.aload_n 0, 1) := by decide +kernel
theorem dX1_parse_50 : decode cX1_parse 50 = .ok (.bipush 59, 2) := by decide +kernel
theorem dX1_parse_52 : decode cX1_parse 52 = .ok (.invokevirtual 39, 3) := by decide +kernel
theorem dX1_parse_55 : decode cX1_parse 55 = .ok (.ifCond .ne (-45), 3) := by decide +kernel
theorem dX1_parse_58 : decode cX1_parse 58 = .ok (.iconst 0, 1) := by decide +kernel
theorem dX1_parse_59 : decode cX1_parse 59 = .ok (.ireturn, 1) := by decide +kernel
theorem dX1_parse_60 : decode cX1_parse 60 = .ok (.iconst 0, 1) := by decide +kernel
theorem dX1_parse_61 : decode cX1_parse 61 = .ok (.ireturn, 1) := by decide +kernel
theorem dX1_readCommand_0 : decode cX1_readCommand 0 = .ok (.aload_n 0, 1) := by decide +kernel
theorem dX1_readCommand_1 : decode cX1_readCommand 1 = .ok (.getfield 22, 3) := by decide +kernel
theorem dX1_readCommand_4 : decode cX1_readCommand 4 = .ok (.aload_n 0, 1) := by decide +kernel
theorem dX1_readCommand_5 : decode cX1_readCommand 5 = .ok (.getfield 32, 3) := by decide +kernel
theorem dX1_readCommand_8 : decode cX1_readCommand 8 = .ok (.iconst 0, 1) := by decide +kernel
theorem dX1_readCommand_9 : decode cX1_readCommand 9 = .ok (.iastore, 1) := by decide +kernel
theorem dX1_readCommand_10 : decode cX1_readCommand 10 = .ok (.aload_n 0, 1) := by decide +kernel
theorem dX1_readCommand_11 : decode cX1_readCommand 11 = .ok (.invokevirtual 43, 3) := by decide +kernel
theorem dX1_readCommand_14 : decode cX1_readCommand 14 = .ok (.ifCond .ne 5, 3) := by decide +kernel
theorem dX1_readCommand_17 : decode cX1_readCommand 17 = .ok (.iconst 0, 1) := by decide +kernel
theorem dX1_readCommand_18 : decode cX1_readCommand 18 = .ok (.ireturn, 1) := by decide +kernel
theorem dX1_readCommand_19 : decode cX1_readCommand 19 = .ok (.aload_n 0, 1) := by decide +kernel
theorem dX1_readCommand_20 : decode cX1_readCommand 20 = .ok (.getfield 15, 3) := by decide +kernel
theorem dX1_readCommand_23 : decode cX1_readCommand 23 = .ok (.aload_n 0, 1) := by decide +kernel
theorem dX1_readCommand_24 : decode cX1_readCommand 24 = .ok (.getfield 32, 3) := by decide +kernel
theorem dX1_readCommand_27 : decode cX1_readCommand 27 = .ok (.iaload, 1) := by decide +kernel
theorem dX1_readCommand_28 : decode cX1_readCommand 28 = .ok (.tableswitch 104 0 4 #[36, 94, 104, 65, 99], 36) := by decide +kernel
theorem dX1_readCommand_64 : decode cX1_readCommand 64 = .ok (.aload_n 0, 1) := by decide +kernel
theorem dX1_readCommand_65 : decode cX1_readCommand 65 = .ok (.invokevirtual 46, 3) := by decide +kernel
theorem dX1_readCommand_68 : decode cX1_readCommand 68 = .ok (.ifCond .eq 23, 3) := by decide +kernel
theorem dX1_readCommand_71 : decode cX1_readCommand 71 = .ok (.aload_n 0, 1) := by decide +kernel
theorem dX1_readCommand_72 : decode cX1_readCommand 72 = .ok (.bipush 32, 2) := by decide +kernel
theorem dX1_readCommand_74 : decode cX1_readCommand 74 = .ok (.invokevirtual 39, 3) := by decide +kernel
theorem dX1_readCommand_77 : decode cX1_readCommand 77 = .ok (.ifCond .eq 14, 3) := by decide +kernel
theorem dX1_readCommand_80 : decode cX1_readCommand 80 = .ok (.aload_n 0, 1) := by decide +kernel
theorem dX1_readCommand_81 : decode cX1_readCommand 81 = .ok (.invokevirtual 49, 3) := by decide +kernel
theorem dX1_readCommand_84 : decode cX1_readCommand 84 = .ok (.ifCond .eq 7, 3) := by decide +kernel
theorem dX1_readCommand_87 : decode cX1_readCommand 87 = .ok (.iconst 1, 1) := by decide +kernel
theorem dX1_readCommand_88 : decode cX1_readCommand 88 = .ok (.goto 4, 3) := by decide +kernel
theorem dX1_readCommand_91 : decode cX1_readCommand 91 = .ok (.iconst 0, 1) := by decide +kernel
theorem dX1_readCommand_92 : decode cX1_readCommand 92 = .ok (.ireturn, 1) := by decide +kernel
theorem dX1_readCommand_93 : decode cX1_readCommand 93 = .ok (.aload_n 0, 1) := by decide +kernel
theorem dX1_readCommand_94 : decode cX1_readCommand 94 = .ok (.invokevirtual 52, 3) := by decide +kernel
theorem dX1_readCommand_97 : decode cX1_readCommand 97 = .ok (.ifCond .eq 23, 3) := by decide +kernel
theorem dX1_readCommand_100 : decode cX1_readCommand 100 = .ok (.aload_n 0, 1) := by decide +kernel
theorem dX1_readCommand_101 : decode cX1_readCommand 101 = .ok (.bipush 32, 2) := by decide +kernel
theorem dX1_readCommand_103 : decode cX1_readCommand 103 = .ok (.invokevirtual 39, 3) := by decide +kernel
theorem dX1_readCommand_106 : decode cX1_readCommand 106 = .ok (.ifCond .eq 14, 3) := by decide +kernel
theorem dX1_readCommand_109 : decode cX1_readCommand 109 = .ok (.aload_n 0, 1) := by decide +kernel
theorem dX1_readCommand_110 : decode cX1_readCommand 110 = .ok (.invokevirtual 49, 3) := by decide +kernel
theorem dX1_readCommand_113 : decode cX1_readCommand 113 = .ok (.ifCond .eq 7, 3) := by decide +kernel
theorem dX1_readCommand_116 : decode cX1_readCommand 116 = .ok (.iconst 1, 1) := by decide +kernel
theorem dX1_readCommand_117 : decode cX1_readCommand 117 = .ok (.goto 4, 3) := by decide +kernel
theorem dX1_readCommand_120 : decode cX1_readCommand 120 = .ok (.iconst 0, 1) := by decide +kernel
theorem dX1_readCommand_121 : decode cX1_readCommand 121 = .ok (.ireturn, 1) := by decide +kernel
theorem dX1_readCommand_122 : decode cX1_readCommand 122 = .ok (.aload_n 0, 1) := by decide +kernel
theorem dX1_readCommand_123 : decode cX1_readCommand 123 = .ok (.invokevirtual 52, 3) := by decide +kernel
theorem dX1_readCommand_126 : decode cX1_readCommand 126 = .ok (.ireturn, 1) := by decide +kernel
theorem dX1_readCommand_127 : decode cX1_readCommand 127 = .ok (.aload_n 0, 1) := by decide +kernel
theorem dX1_readCommand_128 : decode cX1_readCommand 128 = .ok (.invokevirtual 55, 3) := by decide +kernel
theorem dX1_readCommand_131 : decode cX1_readCommand 131 = .ok (.ireturn, 1) := by decide +kernel
theorem dX1_readCommand_132 : decode cX1_readCommand 132 = .ok (.aload_n 0, 1) := by decide +kernel
theorem dX1_readCommand_133 : decode cX1_readCommand 133 = .ok (.invokevirtual 46, 3) := by decide +kernel
theorem dX1_readCommand_136 : decode cX1_readCommand 136 = .ok (.ireturn, 1) := by decide +kernel
theorem dX1_readVerb_0 : decode cX1_readVerb 0 = .ok (.iconst 0, 1) := by decide +kernel
theorem dX1_readVerb_1 : decode cX1_readVerb 1 = .ok (.istore_n 1, 1) := by decide +kernel
theorem dX1_readVerb_2 : decode cX1_readVerb 2 = .ok (.iconst 0, 1) := by decide +kernel
theorem dX1_readVerb_3 : decode cX1_readVerb 3 = .ok (.istore_n 2, 1) := by decide +kernel
theorem dX1_readVerb_4 : decode cX1_readVerb 4 = .ok (.iload_n 2, 1) := by decide +kernel
theorem dX1_readVerb_5 : decode cX1_readVerb 5 = .ok (.bipush 7, 2) := by decide +kernel
theorem dX1_readVerb_7 : decode cX1_readVerb 7 = .ok (.if_icmp .ge 60, 3) := by decide +kernel
theorem dX1_readVerb_10 : decode cX1_readVerb 10 = .ok (.iload_n 2, 1) := by decide +kernel
theorem dX1_readVerb_11 : decode cX1_readVerb 11 = .ok (.invokestatic 58, 3) := by decide +kernel
theorem dX1_readVerb_14 : decode cX1_readVerb 14 = .ok (.astore_n 3, 1) := by decide +kernel
theorem dX1_readVerb_15 : decode cX1_readVerb 15 = .ok (.aload_n 0, 1) := by decide +kernel
theorem dX1_readVerb_16 : decode cX1_readVerb 16 = .ok (.aload_n 3, 1) := by decide +kernel
theorem dX1_readVerb_17 : decode cX1_readVerb 17 = .ok (.invokevirtual 62, 3) := by decide +kernel
theorem dX1_readVerb_20 : decode cX1_readVerb 20 = .ok (.istore 4, 2) := by decide +kernel
theorem dX1_readVerb_22 : decode cX1_readVerb 22 = .ok (.iload 4, 2) := by decide +kernel
theorem dX1_readVerb_24 : decode cX1_readVerb 24 = .ok (.aload_n 3, 1) := by decide +kernel
theorem dX1_readVerb_25 : decode cX1_readVerb 25 = .ok (.invokevirtual 66, 3) := by decide +kernel
theorem dX1_readVerb_28 : decode cX1_readVerb 28 = .ok (.if_icmp .ne 26, 3) := by decide +kernel
theorem dX1_readVerb_31 : decode cX1_readVerb 31 = .ok (.aload_n 0, 1) := by decide +kernel
theorem dX1_readVerb_32 : decode cX1_readVerb 32 = .ok (.getfield 15, 3) := by decide +kernel
theorem dX1_readVerb_35 : decode cX1_readVerb 35 = .ok (.aload_n 0, 1) := by decide +kernel
theorem dX1_readVerb_36 : decode cX1_readVerb 36 = .ok (.getfield 32, 3) := by decide +kernel
theorem dX1_readVerb_39 : decode cX1_readVerb 39 = .ok (.iload_n 2, 1) := by decide +kernel
theorem dX1_readVerb_40 : decode cX1_readVerb 40 = .ok (.iastore, 1) := by decide +kernel
theorem dX1_readVerb_41 : decode cX1_readVerb 41 = .ok (.aload_n 0, 1) := by decide +kernel
theorem dX1_readVerb_42 : decode cX1_readVerb 42 = .ok (.dup, 1) := by decide +kernel
theorem dX1_readVerb_43 : decode cX1_readVerb 43 = .ok (.getfield 29, 3) := by decide +kernel
theorem dX1_readVerb_46 : decode cX1_readVerb 46 = .ok (.iload 4, 2) := by decide +kernel
theorem dX1_readVerb_48 : decode cX1_readVerb 48 = .ok (.iadd, 1) := by decide +kernel
theorem dX1_readVerb_49 : decode cX1_readVerb 49 = .ok (.putfield 29, 3) := by decide +kernel
theorem dX1_readVerb_52 : decode cX1_readVerb 52 = .ok (.iconst 1, 1) := by decide +kernel
theorem dX1_readVerb_53 : decode cX1_readVerb 53 = .ok (.ireturn, 1) := by decide +kernel
theorem dX1_readVerb_54 : decode cX1_readVerb 54 = .ok (.iload_n 1, 1) := by decide +kernel
theorem dX1_readVerb_55 : decode cX1_readVerb 55 = .ok (.iload 4, 2) := by decide +kernel
theorem dX1_readVerb_57 : decode cX1_readVerb 57 = .ok (.invokestatic 71, 3) := by decide +kernel
theorem dX1_readVerb_60 : decode cX1_readVerb 60 = .ok (.istore_n 1, 1) := by decide +kernel
theorem dX1_readVerb_61 : decode cX1_readVerb 61 = .ok (.iinc 2 1, 3) := by decide +kernel
theorem dX1_readVerb_64 : decode cX1_readVerb 64 = .ok (.goto (-60), 3) := by decide +kernel
theorem dX1_readVerb_67 : decode cX1_readVerb 67 = .ok (.aload_n 0, 1) := by decide +kernel
theorem dX1_readVerb_68 : decode cX1_readVerb 68 = .ok (.dup, 1) := by decide +kernel
theorem dX1_readVerb_69 : decode cX1_readVerb 69 = .ok (.getfield 29, 3) := by decide +kernel
theorem dX1_readVerb_72 : decode cX1_readVerb 72 = .ok (.iload_n 1, 1) := by decide +kernel
theorem dX1_readVerb_73 : decode cX1_readVerb 73 = .ok (.iadd, 1) := by decide +kernel
theorem dX1_readVerb_74 : decode cX1_readVerb 74 = .ok (.putfield 29, 3) := by decide +kernel
theorem dX1_readVerb_77 : decode cX1_readVerb 77 = .ok (.iconst 0, 1) := by decide +kernel
theorem dX1_readVerb_78 : decode cX1_readVerb 78 = .ok (.ireturn, 1) := by decide +kernel
theorem dX1_signsMatching_0 : decode cX1_signsMatching 0 = .ok (.iconst 0, 1) := by decide +kernel
theorem dX1_signsMatching_1 : decode cX1_signsMatching 1 = .ok (.istore_n 2, 1) := by decide +kernel
theorem dX1_signsMatching_2 : decode cX1_signsMatching 2 = .ok (.iload_n 2, 1) := by decide +kernel
theorem dX1_signsMatching_3 : decode cX1_signsMatching 3 = .ok (.aload_n 1, 1) := by decide +kernel
theorem dX1_signsMatching_4 : decode cX1_signsMatching 4 = .ok (.invokevirtual 66, 3) := by decide +kernel
theorem dX1_signsMatching_7 : decode cX1_signsMatching 7 = .ok (.if_icmp .ge 41, 3) := by decide +kernel
theorem dX1_signsMatching_10 : decode cX1_signsMatching 10 = .ok (.aload_n 0, 1) := by decide +kernel
theorem dX1_signsMatching_11 : decode cX1_signsMatching 11 = .ok (.getfield 29, 3) := by decide +kernel
theorem dX1_signsMatching_14 : decode cX1_signsMatching 14 = .ok (.iload_n 2, 1) := by decide +kernel
theorem dX1_signsMatching_15 : decode cX1_signsMatching 15 = .ok (.iadd, 1) := by decide +kernel
theorem dX1_signsMatching_16 : decode cX1_signsMatching 16 = .ok (.aload_n 0, 1) := by decide +kernel
theorem dX1_signsMatching_17 : decode cX1_signsMatching 17 = .ok (.getfield 25, 3) := by decide +kernel
theorem dX1_signsMatching_20 : decode cX1_signsMatching 20 = .ok (.if_icmp .ge 28, 3) := by decide +kernel
theorem dX1_signsMatching_23 : decode cX1_signsMatching 23 = .ok (.aload_n 0, 1) := by decide +kernel
theorem dX1_signsMatching_24 : decode cX1_signsMatching 24 = .ok (.getfield 9, 3) := by decide +kernel
theorem dX1_signsMatching_27 : decode cX1_signsMatching 27 = .ok (.aload_n 0, 1) := by decide +kernel
theorem dX1_signsMatching_28 : decode cX1_signsMatching 28 = .ok (.getfield 29, 3) := by decide +kernel
theorem dX1_signsMatching_31 : decode cX1_signsMatching 31 = .ok (.iload_n 2, 1) := by decide +kernel
theorem dX1_signsMatching_32 : decode cX1_signsMatching 32 = .ok (.iadd, 1) := by decide +kernel
theorem dX1_signsMatching_33 : decode cX1_signsMatching 33 = .ok (.caload, 1) := by decide +kernel
theorem dX1_signsMatching_34 : decode cX1_signsMatching 34 = .ok (.aload_n 1, 1) := by decide +kernel
theorem dX1_signsMatching_35 : decode cX1_signsMatching 35 = .ok (.iload_n 2, 1) := by decide +kernel
theorem dX1_signsMatching_36 : decode cX1_signsMatching 36 = .ok (.invokevirtual 77, 3) := by decide +kernel
theorem dX1_signsMatching_39 : decode cX1_signsMatching 39 = .ok (.if_icmp .ne 9, 3) := by decide +kernel
theorem dX1_signsMatching_42 : decode cX1_signsMatching 42 = .ok (.iinc 2 1, 3) := by decide +kernel
theorem dX1_signsMatching_45 : decode cX1_signsMatching 45 = .ok (.goto (-43), 3) := by decide +kernel
theorem dX1_signsMatching_48 : decode cX1_signsMatching 48 = .ok (.iload_n 2, 1) := by decide +kernel
theorem dX1_signsMatching_49 : decode cX1_signsMatching 49 = .ok (.ireturn, 1) := by decide +kernel
theorem dX1_wordOf_0 : decode cX1_wordOf 0 = .ok (.iload_n 0, 1) := by decide +kernel
theorem dX1_wordOf_1 : decode cX1_wordOf 1 = .ok (.tableswitch 57 0 5 #[39, 42, 45, 48, 51, 54], 39) := by decide +kernel
theorem dX1_wordOf_40 : decode cX1_wordOf 40 = .ok (.ldc 81, 2) := by decide +kernel
theorem dX1_wordOf_42 : decode cX1_wordOf 42 = .ok (.areturn, 1) := by decide +kernel
theorem dX1_wordOf_43 : decode cX1_wordOf 43 = .ok (.ldc 83, 2) := by decide +kernel
theorem dX1_wordOf_45 : decode cX1_wordOf 45 = .ok (.areturn, 1) := by decide +kernel
theorem dX1_wordOf_46 : decode cX1_wordOf 46 = .ok (.ldc 85, 2) := by decide +kernel
theorem dX1_wordOf_48 : decode cX1_wordOf 48 = .ok (.areturn, 1) := by decide +kernel
theorem dX1_wordOf_49 : decode cX1_wordOf 49 = .ok (.ldc 87, 2) := by decide +kernel
theorem dX1_wordOf_51 : decode cX1_wordOf 51 = .ok (.areturn, 1) := by decide +kernel
theorem dX1_wordOf_52 : decode cX1_wordOf 52 = .ok (.ldc 89, 2) := by decide +kernel
theorem dX1_wordOf_54 : decode cX1_wordOf 54 = .ok (.areturn, 1) := by decide +kernel
theorem dX1_wordOf_55 : decode cX1_wordOf 55 = .ok (.ldc 91, 2) := by decide +kernel
theorem dX1_wordOf_57 : decode cX1_wordOf 57 = .ok (.areturn, 1) := by decide +kernel
theorem dX1_wordOf_58 : decode cX1_wordOf 58 = .ok (.ldc 93, 2) := by decide +kernel
theorem dX1_wordOf_60 : decode cX1_wordOf 60 = .ok (.areturn, 1) := by decide +kernel
theorem dX1_readYears_0 : decode cX1_readYears 0 = .ok (.aload_n 0, 1) := by decide +kernel
theorem dX1_readYears_1 : decode cX1_readYears 1 = .ok (.bipush 32, 2) := by decide +kernel
theorem dX1_readYears_3 : decode cX1_readYears 3 = .ok (.invokevirtual 39, 3) := by decide +kernel
theorem dX1_readYears_6 : decode cX1_readYears 6 = .ok (.ifCond .ne 15, 3) := by decide +kernel
theorem dX1_readYears_9 : decode cX1_readYears 9 = .ok (.aload_n 0, 1) := by decide +kernel
theorem dX1_readYears_10 : decode cX1_readYears 10 = .ok (.getfield 19, 3) := by decide +kernel
theorem dX1_readYears_13 : decode cX1_readYears 13 = .ok (.aload_n 0, 1) := by decide +kernel
theorem dX1_readYears_14 : decode cX1_readYears 14 = .ok (.getfield 32, 3) := by decide +kernel
theorem dX1_readYears_17 : decode cX1_readYears 17 = .ok (.iconst 1, 1) := by decide +kernel
theorem dX1_readYears_18 : decode cX1_readYears 18 = .ok (.iastore, 1) := by decide +kernel
theorem dX1_readYears_19 : decode cX1_readYears 19 = .ok (.iconst 1, 1) := by decide +kernel
theorem dX1_readYears_20 : decode cX1_readYears 20 = .ok (.ireturn, 1) := by decide +kernel
theorem dX1_readYears_21 : decode cX1_readYears 21 = .ok (.aload_n 0, 1) := by decide +kernel
theorem dX1_readYears_22 : decode cX1_readYears 22 = .ok (.invokevirtual 46, 3) := by decide +kernel
theorem dX1_readYears_25 : decode cX1_readYears 25 = .ok (.ireturn, 1) := by decide +kernel
theorem dX1_readNumber_0 : decode cX1_readNumber 0 = .ok (.aload_n 0, 1) := by decide +kernel
theorem dX1_readNumber_1 : decode cX1_readNumber 1 = .ok (.invokevirtual 52, 3) := by decide +kernel
theorem dX1_readNumber_4 : decode cX1_readNumber 4 = .ok (.ifCond .ne 5, 3) := by decide +kernel
theorem dX1_readNumber_7 : decode cX1_readNumber 7 = .ok (.iconst 0, 1) := by decide +kernel
theorem dX1_readNumber_8 : decode cX1_readNumber 8 = .ok (.ireturn, 1) := by decide +kernel
theorem dX1_readNumber_9 : decode cX1_readNumber 9 = .ok (.aload_n 0, 1) := by decide +kernel
theorem dX1_readNumber_10 : decode cX1_readNumber 10 = .ok (.invokevirtual 95, 3) := by decide +kernel
theorem dX1_readNumber_13 : decode cX1_readNumber 13 = .ok (.ifCond .eq 29, 3) := by decide +kernel
theorem dX1_readNumber_16 : decode cX1_readNumber 16 = .ok (.aload_n 0, 1) := by decide +kernel
theorem dX1_readNumber_17 : decode cX1_readNumber 17 = .ok (.getfield 19, 3) := by decide +kernel
theorem dX1_readNumber_20 : decode cX1_readNumber 20 = .ok (.aload_n 0, 1) := by decide +kernel
theorem dX1_readNumber_21 : decode cX1_readNumber 21 = .ok (.getfield 32, 3) := by decide +kernel
theorem dX1_readNumber_24 : decode cX1_readNumber 24 = .ok (.bipush 10, 2) := by decide +kernel
theorem dX1_readNumber_26 : decode cX1_readNumber 26 = .ok (.aload_n 0, 1) := by decide +kernel
theorem dX1_readNumber_27 : decode cX1_readNumber 27 = .ok (.getfield 19, 3) := by decide +kernel
theorem dX1_readNumber_30 : decode cX1_readNumber 30 = .ok (.aload_n 0, 1) := by decide +kernel
theorem dX1_readNumber_31 : decode cX1_readNumber 31 = .ok (.getfield 32, 3) := by decide +kernel
theorem dX1_readNumber_34 : decode cX1_readNumber 34 = .ok (.iaload, 1) := by decide +kernel
theorem dX1_readNumber_35 : decode cX1_readNumber 35 = .ok (.imul, 1) := by decide +kernel
theorem dX1_readNumber_36 : decode cX1_readNumber 36 = .ok (.aload_n 0, 1) := by decide +kernel
theorem dX1_readNumber_37 : decode cX1_readNumber 37 = .ok (.invokevirtual 98, 3) := by decide +kernel
theorem dX1_readNumber_40 : decode cX1_readNumber 40 = .ok (.iadd, 1) := by decide +kernel
theorem dX1_readNumber_41 : decode cX1_readNumber 41 = .ok (.iastore, 1) := by decide +kernel
theorem dX1_readNumber_42 : decode cX1_readNumber 42 = .ok (.iconst 1, 1) := by decide +kernel
theorem dX1_readNumber_43 : decode cX1_readNumber 43 = .ok (.ireturn, 1) := by decide +kernel
theorem dX1_readDigit_0 : decode cX1_readDigit 0 = .ok (.aload_n 0, 1) := by decide +kernel
theorem dX1_readDigit_1 : decode cX1_readDigit 1 = .ok (.invokevirtual 95, 3) := by decide +kernel
theorem dX1_readDigit_4 : decode cX1_readDigit 4 = .ok (.ifCond .ne 5, 3) := by decide +kernel
theorem dX1_readDigit_7 : decode cX1_readDigit 7 = .ok (.iconst 0, 1) := by decide +kernel
theorem dX1_readDigit_8 : decode cX1_readDigit 8 = .ok (.ireturn, 1) := by decide +kernel
theorem dX1_readDigit_9 : decode cX1_readDigit 9 = .ok (.aload_n 0, 1) := by decide +kernel
theorem dX1_readDigit_10 : decode cX1_readDigit 10 = .ok (.getfield 19, 3) := by decide +kernel
theorem dX1_readDigit_13 : decode cX1_readDigit 13 = .ok (.aload_n 0, 1) := by decide +kernel
theorem dX1_readDigit_14 : decode cX1_readDigit 14 = .ok (.getfield 32, 3) := by decide +kernel
theorem dX1_readDigit_17 : decode cX1_readDigit 17 = .ok (.aload_n 0, 1) := by decide +kernel
theorem dX1_readDigit_18 : decode cX1_readDigit 18 = .ok (.invokevirtual 98, 3) := by decide +kernel
theorem dX1_readDigit_21 : decode cX1_readDigit 21 = .ok (.iastore, 1) := by decide +kernel
theorem dX1_readDigit_22 : decode cX1_readDigit 22 = .ok (.iconst 1, 1) := by decide +kernel
theorem dX1_readDigit_23 : decode cX1_readDigit 23 = .ok (.ireturn, 1) := by decide +kernel
theorem dX1_readSecond_0 : decode cX1_readSecond 0 = .ok (.aload_n 0, 1) := by decide +kernel
theorem dX1_readSecond_1 : decode cX1_readSecond 1 = .ok (.invokevirtual 95, 3) := by decide +kernel
theorem dX1_readSecond_4 : decode cX1_readSecond 4 = .ok (.ifCond .ne 5, 3) := by decide +kernel
theorem dX1_readSecond_7 : decode cX1_readSecond 7 = .ok (.iconst 0, 1) := by decide +kernel
theorem dX1_readSecond_8 : decode cX1_readSecond 8 = .ok (.ireturn, 1) := by decide +kernel
theorem dX1_readSecond_9 : decode cX1_readSecond 9 = .ok (.aload_n 0, 1) := by decide +kernel
theorem dX1_readSecond_10 : decode cX1_readSecond 10 = .ok (.getfield 22, 3) := by decide +kernel
theorem dX1_readSecond_13 : decode cX1_readSecond 13 = .ok (.aload_n 0, 1) := by decide +kernel
theorem dX1_readSecond_14 : decode cX1_readSecond 14 = .ok (.getfield 32, 3) := by decide +kernel
theorem dX1_readSecond_17 : decode cX1_readSecond 17 = .ok (.aload_n 0, 1) := by decide +kernel
theorem dX1_readSecond_18 : decode cX1_readSecond 18 = .ok (.invokevirtual 98, 3) := by decide +kernel
theorem dX1_readSecond_21 : decode cX1_readSecond 21 = .ok (.iastore, 1) := by decide +kernel
theorem dX1_readSecond_22 : decode cX1_readSecond 22 = .ok (.iconst 1, 1) := by decide +kernel
theorem dX1_readSecond_23 : decode cX1_readSecond 23 = .ok (.ireturn, 1) := by decide +kernel
theorem dX1_isAtDigit_0 : decode cX1_isAtDigit 0 = .ok (.aload_n 0, 1) := by decide +kernel
theorem dX1_isAtDigit_1 : decode cX1_isAtDigit 1 = .ok (.getfield 29, 3) := by decide +kernel
theorem dX1_isAtDigit_4 : decode cX1_isAtDigit 4 = .ok (.aload_n 0, 1) := by decide +kernel
theorem dX1_isAtDigit_5 : decode cX1_isAtDigit 5 = .ok (.getfield 25, 3) := by decide +kernel
theorem dX1_isAtDigit_8 : decode cX1_isAtDigit 8 = .ok (.if_icmp .ge 35, 3) := by decide +kernel
theorem dX1_isAtDigit_11 : decode cX1_isAtDigit 11 = .ok (.aload_n 0, 1) := by decide +kernel
theorem dX1_isAtDigit_12 : decode cX1_isAtDigit 12 = .ok (.getfield 9, 3) := by decide +kernel
theorem dX1_isAtDigit_15 : decode cX1_isAtDigit 15 = .ok (.aload_n 0, 1) := by decide +kernel
theorem dX1_isAtDigit_16 : decode cX1_isAtDigit 16 = .ok (.getfield 29, 3) := by decide +kernel
theorem dX1_isAtDigit_19 : decode cX1_isAtDigit 19 = .ok (.caload, 1) := by decide +kernel
theorem dX1_isAtDigit_20 : decode cX1_isAtDigit 20 = .ok (.bipush 48, 2) := by decide +kernel
theorem dX1_isAtDigit_22 : decode cX1_isAtDigit 22 = .ok (.if_icmp .lt 21, 3) := by decide +kernel
theorem dX1_isAtDigit_25 : decode cX1_isAtDigit 25 = .ok (.aload_n 0, 1) := by decide +kernel
theorem dX1_isAtDigit_26 : decode cX1_isAtDigit 26 = .ok (.getfield 9, 3) := by decide +kernel
theorem dX1_isAtDigit_29 : decode cX1_isAtDigit 29 = .ok (.aload_n 0, 1) := by decide +kernel
theorem dX1_isAtDigit_30 : decode cX1_isAtDigit 30 = .ok (.getfield 29, 3) := by decide +kernel
theorem dX1_isAtDigit_33 : decode cX1_isAtDigit 33 = .ok (.caload, 1) := by decide +kernel
theorem dX1_isAtDigit_34 : decode cX1_isAtDigit 34 = .ok (.bipush 57, 2) := by decide +kernel
theorem dX1_isAtDigit_36 : decode cX1_isAtDigit 36 = .ok (.if_icmp .gt 7, 3) := by decide +kernel
theorem dX1_isAtDigit_39 : decode cX1_isAtDigit 39 = .ok (.iconst 1, 1) := by decide +kernel
theorem dX1_isAtDigit_40 : decode cX1_isAtDigit 40 = .ok (.goto 4, 3) := by decide +kernel
theorem dX1_isAtDigit_43 : decode cX1_isAtDigit 43 = .ok (.iconst 0, 1) := by decide +kernel
theorem dX1_isAtDigit_44 : decode cX1_isAtDigit 44 = .ok (.ireturn, 1) := by decide +kernel
theorem dX1_takeDigit_0 : decode cX1_takeDigit 0 = .ok (.aload_n 0, 1) := by decide +kernel
theorem dX1_takeDigit_1 : decode cX1_takeDigit 1 = .ok (.getfield 9, 3) := by decide +kernel
theorem dX1_takeDigit_4 : decode cX1_takeDigit 4 = .ok (.aload_n 0, 1) := by decide +kernel
theorem dX1_takeDigit_5 : decode cX1_takeDigit 5 = .ok (.getfield 29, 3) := by decide +kernel
theorem dX1_takeDigit_8 : decode cX1_takeDigit 8 = .ok (.caload, 1) := by decide +kernel
theorem dX1_takeDigit_9 : decode cX1_takeDigit 9 = .ok (.bipush 48, 2) := by decide +kernel
theorem dX1_takeDigit_11 : decode cX1_takeDigit 11 = .ok (.isub, 1) := by decide +kernel
theorem dX1_takeDigit_12 : decode cX1_takeDigit 12 = .ok (.istore_n 1, 1) := by decide +kernel
theorem dX1_takeDigit_13 : decode cX1_takeDigit 13 = .ok (.aload_n 0, 1) := by decide +kernel
theorem dX1_takeDigit_14 : decode cX1_takeDigit 14 = .ok (.dup, 1) := by decide +kernel
theorem dX1_takeDigit_15 : decode cX1_takeDigit 15 = .ok (.getfield 29, 3) := by decide +kernel
theorem dX1_takeDigit_18 : decode cX1_takeDigit 18 = .ok (.iconst 1, 1) := by decide +kernel
theorem dX1_takeDigit_19 : decode cX1_takeDigit 19 = .ok (.iadd, 1) := by decide +kernel
theorem dX1_takeDigit_20 : decode cX1_takeDigit 20 = .ok (.putfield 29, 3) := by decide +kernel
theorem dX1_takeDigit_23 : decode cX1_takeDigit 23 = .ok (.iload_n 1, 1) := by decide +kernel
theorem dX1_takeDigit_24 : decode cX1_takeDigit 24 = .ok (.ireturn, 1) := by decide +kernel
theorem dX1_readSign_0 : decode cX1_readSign 0 = .ok (.aload_n 0, 1) := by decide +kernel
theorem dX1_readSign_1 : decode cX1_readSign 1 = .ok (.getfield 29, 3) := by decide +kernel
theorem dX1_readSign_4 : decode cX1_readSign 4 = .ok (.aload_n 0, 1) := by decide +kernel
theorem dX1_readSign_5 : decode cX1_readSign 5 = .ok (.getfield 25, 3) := by decide +kernel
theorem dX1_readSign_8 : decode cX1_readSign 8 = .ok (.if_icmp .ge 16, 3) := by decide +kernel
theorem dX1_readSign_11 : decode cX1_readSign 11 = .ok (.aload_n 0, 1) := by decide +kernel
theorem dX1_readSign_12 : decode cX1_readSign 12 = .ok (.getfield 9, 3) := by decide +kernel
theorem dX1_readSign_15 : decode cX1_readSign 15 = .ok (.aload_n 0, 1) := by decide +kernel
theorem dX1_readSign_16 : decode cX1_readSign 16 = .ok (.getfield 29, 3) := by decide +kernel
theorem dX1_readSign_19 : decode cX1_readSign 19 = .ok (.caload, 1) := by decide +kernel
theorem dX1_readSign_20 : decode cX1_readSign 20 = .ok (.iload_n 1, 1) := by decide +kernel
theorem dX1_readSign_21 : decode cX1_readSign 21 = .ok (.if_icmp .eq 5, 3) := by decide +kernel
theorem dX1_readSign_24 : decode cX1_readSign 24 = .ok (.iconst 0, 1) := by decide +kernel
theorem dX1_readSign_25 : decode cX1_readSign 25 = .ok (.ireturn, 1) := by decide +kernel
theorem dX1_readSign_26 : decode cX1_readSign 26 = .ok (.aload_n 0, 1) := by decide +kernel
theorem dX1_readSign_27 : decode cX1_readSign 27 = .ok (.dup, 1) := by decide +kernel
theorem dX1_readSign_28 : decode cX1_readSign 28 = .ok (.getfield 29, 3) := by decide +kernel
theorem dX1_readSign_31 : decode cX1_readSign 31 = .ok (.iconst 1, 1) := by decide +kernel
theorem dX1_readSign_32 : decode cX1_readSign 32 = .ok (.iadd, 1) := by decide +kernel
theorem dX1_readSign_33 : decode cX1_readSign 33 = .ok (.putfield 29, 3) := by decide +kernel
theorem dX1_readSign_36 : decode cX1_readSign 36 = .ok (.iconst 1, 1) := by decide +kernel
theorem dX1_readSign_37 : decode cX1_readSign 37 = .ok (.ireturn, 1) := by decide +kernel
theorem dX2_init_0 : decode cX2_init 0 = .ok (.aload_n 0, 1) := by decide +kernel
theorem dX2_init_1 : decode cX2_init 1 = .ok (.invokespecial 3, 3) := by decide +kernel
theorem dX2_init_4 : decode cX2_init 4 = .ok (.aload_n 0, 1) := by decide +kernel
theorem dX2_init_5 : decode cX2_init 5 = .ok (.iconst 5, 1) := by decide +kernel
theorem dX2_init_6 : decode cX2_init 6 = .ok (.newarray .int, 2) := by decide +kernel
theorem dX2_init_8 : decode cX2_init 8 = .ok (.putfield 9, 3) := by decide +kernel
theorem dX2_init_11 : decode cX2_init 11 = .ok (.aload_n 0, 1) := by decide +kernel
theorem dX2_init_12 : decode cX2_init 12 = .ok (.iconst 5, 1) := by decide +kernel
theorem dX2_init_13 : decode cX2_init 13 = .ok (.newarray .int, 2) := by decide +kernel
theorem dX2_init_15 : decode cX2_init 15 = .ok (.putfield 15, 3) := by decide +kernel
theorem dX2_init_18 : decode cX2_init 18 = .ok (.aload_n 0, 1) := by decide +kernel
theorem dX2_init_19 : decode cX2_init 19 = .ok (.iconst 5, 1) := by decide +kernel
theorem dX2_init_20 : decode cX2_init 20 = .ok (.newarray .int, 2) := by decide +kernel
theorem dX2_init_22 : decode cX2_init 22 = .ok (.putfield 18, 3) := by decide +kernel
theorem dX2_init_25 : decode cX2_init 25 = .ok (.aload_n 0, 1) := by decide +kernel
theorem dX2_init_26 : decode cX2_init 26 = .ok (.iconst 5, 1) := by decide +kernel
theorem dX2_init_27 : decode cX2_init 27 = .ok (.newarray .int, 2) := by decide +kernel
theorem dX2_init_29 : decode cX2_init 29 = .ok (.putfield 21, 3) := by decide +kernel
theorem dX2_init_32 : decode cX2_init 32 = .ok (.aload_n 0, 1) := by decide +kernel
theorem dX2_init_33 : decode cX2_init 33 = .ok (.bipush 40, 2) := by decide +kernel
theorem dX2_init_35 : decode cX2_init 35 = .ok (.newarray .int, 2) := by decide +kernel
theorem dX2_init_37 : decode cX2_init 37 = .ok (.putfield 24, 3) := by decide +kernel
theorem dX2_init_40 : decode cX2_init 40 = .ok (.aload_n 0, 1) := by decide +kernel
theorem dX2_init_41 : decode cX2_init 41 = .ok (.bipush 40, 2) := by decide +kernel
theorem dX2_init_43 : decode cX2_init 43 = .ok (.newarray .int, 2) := by decide +kernel
theorem dX2_init_45 : decode cX2_init 45 = .ok (.putfield 27, 3) := by decide +kernel
theorem dX2_init_48 : decode cX2_init 48 = .ok (.aload_n 0, 1) := by decide +kernel
theorem dX2_init_49 : decode cX2_init 49 = .ok (.bipush 40, 2) := by decide +kernel
theorem dX2_init_51 : decode cX2_init 51 = .ok (.newarray .int, 2) := by decide +kernel
theorem dX2_init_53 : decode cX2_init 53 = .ok (.putfield 30, 3) := by decide +kernel
theorem dX2_init_56 : decode cX2_init 56 = .ok (.return_, 1) := by decide +kernel
theorem dX2_copyFrom_0 : decode cX2_copyFrom 0 = .ok (.aload_n 0, 1) := by decide +kernel
theorem dX2_copyFrom_1 : decode cX2_copyFrom 1 = .ok (.aload_n 1, 1) := by decide +kernel
theorem dX2_copyFrom_2 : decode cX2_copyFrom 2 = .ok (.getfield 33, 3) := by decide +kernel
theorem dX2_copyFrom_5 : decode cX2_copyFrom 5 = .ok (.putfield 33, 3) := by decide +kernel
theorem dX2_copyFrom_8 : decode cX2_copyFrom 8 = .ok (.aload_n 1, 1) := by decide +kernel
theorem dX2_copyFrom_9 : decode cX2_copyFrom 9 = .ok (.getfield 9, 3) := by decide +kernel
theorem dX2_copyFrom_12 : decode cX2_copyFrom 12 = .ok (.iconst 0, 1) := by decide +kernel
theorem dX2_copyFrom_13 : decode cX2_copyFrom 13 = .ok (.aload_n 0, 1) := by decide +kernel
theorem dX2_copyFrom_14 : decode cX2_copyFrom 14 = .ok (.getfield 9, 3) := by decide +kernel
theorem dX2_copyFrom_17 : decode cX2_copyFrom 17 = .ok (.iconst 0, 1) := by decide +kernel
theorem dX2_copyFrom_18 : decode cX2_copyFrom 18 = .ok (.iconst 5, 1) := by decide +kernel
theorem dX2_copyFrom_19 : decode cX2_copyFrom 19 = .ok (.invokestatic 37, 3) := by decide +kernel
theorem dX2_copyFrom_22 : decode cX2_copyFrom 22 = .ok (.aload_n 1, 1) := by decide +kernel
theorem dX2_copyFrom_23 : decode cX2_copyFrom 23 = .ok (.getfield 15, 3) := by decide +kernel
theorem dX2_copyFrom_26 : decode cX2_copyFrom 26 = .ok (.iconst 0, 1) := by decide +kernel
theorem dX2_copyFrom_27 : decode cX2_copyFrom 27 = .ok (.aload_n 0, 1) := by decide +kernel
theorem dX2_copyFrom_28 : decode cX2_copyFrom 28 = .ok (.getfield 15, 3) := by decide +kernel
theorem dX2_copyFrom_31 : decode cX2_copyFrom 31 = .ok (.iconst 0, 1) := by decide +kernel
theorem dX2_copyFrom_32 : decode cX2_copyFrom 32 = .ok (.iconst 5, 1) := by decide +kernel
theorem dX2_copyFrom_33 : decode cX2_copyFrom 33 = .ok (.invokestatic 37, 3) := by decide +kernel
theorem dX2_copyFrom_36 : decode cX2_copyFrom 36 = .ok (.aload_n 1, 1) := by decide +kernel
theorem dX2_copyFrom_37 : decode cX2_copyFrom 37 = .ok (.getfield 18, 3) := by decide +kernel
theorem dX2_copyFrom_40 : decode cX2_copyFrom 40 = .ok (.iconst 0, 1) := by decide +kernel
theorem dX2_copyFrom_41 : decode cX2_copyFrom 41 = .ok (.aload_n 0, 1) := by decide +kernel
theorem dX2_copyFrom_42 : decode cX2_copyFrom 42 = .ok (.getfield 18, 3) := by decide +kernel
theorem dX2_copyFrom_45 : decode cX2_copyFrom 45 = .ok (.iconst 0, 1) := by decide +kernel
theorem dX2_copyFrom_46 : decode cX2_copyFrom 46 = .ok (.iconst 5, 1) := by decide +kernel
theorem dX2_copyFrom_47 : decode cX2_copyFrom 47 = .ok (.invokestatic 37, 3) := by decide +kernel
theorem dX2_copyFrom_50 : decode cX2_copyFrom 50 = .ok (.aload_n 1, 1) := by decide +kernel
theorem dX2_copyFrom_51 : decode cX2_copyFrom 51 = .ok (.getfield 21, 3) := by decide +kernel
theorem dX2_copyFrom_54 : decode cX2_copyFrom 54 = .ok (.iconst 0, 1) := by decide +kernel
theorem dX2_copyFrom_55 : decode cX2_copyFrom 55 = .ok (.aload_n 0, 1) := by decide +kernel
theorem dX2_copyFrom_56 : decode cX2_copyFrom 56 = .ok (.getfield 21, 3) := by decide +kernel
theorem dX2_copyFrom_59 : decode cX2_copyFrom 59 = .ok (.iconst 0, 1) := by decide +kernel
theorem dX2_copyFrom_60 : decode cX2_copyFrom 60 = .ok (.iconst 5, 1) := by decide +kernel
theorem dX2_copyFrom_61 : decode cX2_copyFrom 61 = .ok (.invokestatic 37, 3) := by decide +kernel
theorem dX2_copyFrom_64 : decode cX2_copyFrom 64 = .ok (.aload_n 0, 1) := by decide +kernel
theorem dX2_copyFrom_65 : decode cX2_copyFrom 65 = .ok (.aload_n 1, 1) := by decide +kernel
theorem dX2_copyFrom_66 : decode cX2_copyFrom 66 = .ok (.getfield 43, 3) := by decide +kernel
theorem dX2_copyFrom_69 : decode cX2_copyFrom 69 = .ok (.putfield 43, 3) := by decide +kernel
theorem dX2_copyFrom_72 : decode cX2_copyFrom 72 = .ok (.aload_n 1, 1) := by decide +kernel
theorem dX2_copyFrom_73 : decode cX2_copyFrom 73 = .ok (.getfield 24, 3) := by decide +kernel
theorem dX2_copyFrom_76 : decode cX2_copyFrom 76 = .ok (.iconst 0, 1) := by decide +kernel
theorem dX2_copyFrom_77 : decode cX2_copyFrom 77 = .ok (.aload_n 0, 1) := by decide +kernel
theorem dX2_copyFrom_78 : decode cX2_copyFrom 78 = .ok (.getfield 24, 3) := by decide +kernel
theorem dX2_copyFrom_81 : decode cX2_copyFrom 81 = .ok (.iconst 0, 1) := by decide +kernel
theorem dX2_copyFrom_82 : decode cX2_copyFrom 82 = .ok (.bipush 40, 2) := by decide +kernel
theorem dX2_copyFrom_84 : decode cX2_copyFrom 84 = .ok (.invokestatic 37, 3) := by decide +kernel
theorem dX2_copyFrom_87 : decode cX2_copyFrom 87 = .ok (.aload_n 1, 1) := by decide +kernel
theorem dX2_copyFrom_88 : decode cX2_copyFrom 88 = .ok (.getfield 27, 3) := by decide +kernel
theorem dX2_copyFrom_91 : decode cX2_copyFrom 91 = .ok (.iconst 0, 1) := by decide +kernel
theorem dX2_copyFrom_92 : decode cX2_copyFrom 92 = .ok (.aload_n 0, 1) := by decide +kernel
theorem dX2_copyFrom_93 : decode cX2_copyFrom 93 = .ok (.getfield 27, 3) := by decide +kernel
theorem dX2_copyFrom_96 : decode cX2_copyFrom 96 = .ok (.iconst 0, 1) := by decide +kernel
theorem dX2_copyFrom_97 : decode cX2_copyFrom 97 = .ok (.bipush 40, 2) := by decide +kernel
theorem dX2_copyFrom_99 : decode cX2_copyFrom 99 = .ok (.invokestatic 37, 3) := by decide +kernel
theorem dX2_copyFrom_102 : decode cX2_copyFrom 102 = .ok (.aload_n 1, 1) := by decide +kernel
theorem dX2_copyFrom_103 : decode cX2_copyFrom 103 = .ok (.getfield 30, 3) := by decide +kernel
theorem dX2_copyFrom_106 : decode cX2_copyFrom 106 = .ok (.iconst 0, 1) := by decide +kernel
theorem dX2_copyFrom_107 : decode cX2_copyFrom 107 = .ok (.aload_n 0, 1) := by decide +kernel
theorem dX2_copyFrom_108 : decode cX2_copyFrom 108 = .ok (.getfield 30, 3) := by decide +kernel
theorem dX2_copyFrom_111 : decode cX2_copyFrom 111 = .ok (.iconst 0, 1) := by decide +kernel
theorem dX2_copyFrom_112 : decode cX2_copyFrom 112 = .ok (.bipush 40, 2) := by decide +kernel
theorem dX2_copyFrom_114 : decode cX2_copyFrom 114 = .ok (.invokestatic 37, 3) := by decide +kernel
theorem dX2_copyFrom_117 : decode cX2_copyFrom 117 = .ok (.aload_n 0, 1) := by decide +kernel
theorem dX2_copyFrom_118 : decode cX2_copyFrom 118 = .ok (.aload_n 1, 1) := by decide +kernel
theorem dX2_copyFrom_119 : decode cX2_copyFrom 119 = .ok (.getfield 46, 3) := by decide +kernel
theorem dX2_copyFrom_122 : decode cX2_copyFrom 122 = .ok (.putfield 46, 3) := by decide +kernel
theorem dX2_copyFrom_125 : decode cX2_copyFrom 125 = .ok (.aload_n 0, 1) := by decide +kernel
theorem dX2_copyFrom_126 : decode cX2_copyFrom 126 = .ok (.aload_n 1, 1) := by decide +kernel
theorem dX2_copyFrom_127 : decode cX2_copyFrom 127 = .ok (.getfield 49, 3) := by decide +kernel
theorem dX2_copyFrom_130 : decode cX2_copyFrom 130 = .ok (.putfield 49, 3) := by decide +kernel
theorem dX2_copyFrom_133 : decode cX2_copyFrom 133 = .ok (.aload_n 0, 1) := by decide +kernel
theorem dX2_copyFrom_134 : decode cX2_copyFrom 134 = .ok (.aload_n 1, 1) := by decide +kernel
theorem dX2_copyFrom_135 : decode cX2_copyFrom 135 = .ok (.getfield 52, 3) := by decide +kernel
theorem dX2_copyFrom_138 : decode cX2_copyFrom 138 = .ok (.putfield 52, 3) := by decide +kernel
theorem dX2_copyFrom_141 : decode cX2_copyFrom 141 = .ok (.aload_n 0, 1) := by decide +kernel
theorem dX2_copyFrom_142 : decode cX2_copyFrom 142 = .ok (.aload_n 1, 1) := by decide +kernel
theorem dX2_copyFrom_143 : decode cX2_copyFrom 143 = .ok (.getfield 55, 3) := by decide +kernel
theorem dX2_copyFrom_146 : decode cX2_copyFrom 146 = .ok (.putfield 55, 3) := by decide +kernel
theorem dX2_copyFrom_149 : decode cX2_copyFrom 149 = .ok (.aload_n 0, 1) := by decide +kernel
theorem dX2_copyFrom_150 : decode cX2_copyFrom 150 = .ok (.aload_n 1, 1) := by decide +kernel
theorem dX2_copyFrom_151 : decode cX2_copyFrom 151 = .ok (.getfield 58, 3) := by decide +kernel
theorem dX2_copyFrom_154 : decode cX2_copyFrom 154 = .ok (.putfield 58, 3) := by decide +kernel
theorem dX2_copyFrom_157 : decode cX2_copyFrom 157 = .ok (.aload_n 0, 1) := by decide +kernel
theorem dX2_copyFrom_158 : decode cX2_copyFrom 158 = .ok (.aload_n 1, 1) := by decide +kernel
theorem dX2_copyFrom_159 : decode cX2_copyFrom 159 = .ok (.getfield 61, 3) := by decide +kernel
theorem dX2_copyFrom_162 : decode cX2_copyFrom 162 = .ok (.putfield 61, 3) := by decide +kernel
theorem dX2_copyFrom_165 : decode cX2_copyFrom 165 = .ok (.aload_n 0, 1) := by decide +kernel
theorem dX2_copyFrom_166 : decode cX2_copyFrom 166 = .ok (.aload_n 1, 1) := by decide +kernel
theorem dX2_copyFrom_167 : decode cX2_copyFrom 167 = .ok (.getfield 64, 3) := by decide +kernel
theorem dX2_copyFrom_170 : decode cX2_copyFrom 170 = .ok (.putfield 64, 3) := by decide +kernel
theorem dX2_copyFrom_173 : decode cX2_copyFrom 173 = .ok (.return_, 1) := by decide +kernel
theorem dX2_hasDie_0 : decode cX2_hasDie 0 = .ok (.iload_n 1, 1) := by decide +kernel
theorem dX2_hasDie_1 : decode cX2_hasDie 1 = .ok (.ifCond .lt 15, 3) := by decide +kernel
theorem dX2_hasDie_4 : decode cX2_hasDie 4 = .ok (.iload_n 1, 1) := by decide +kernel
theorem dX2_hasDie_5 : decode cX2_hasDie 5 = .ok (.aload_n 0, 1) := by decide +kernel
theorem dX2_hasDie_6 : decode cX2_hasDie 6 = .ok (.getfield 33, 3) := by decide +kernel
theorem dX2_hasDie_9 : decode cX2_hasDie 9 = .ok (.if_icmp .ge 7, 3) := by decide +kernel
theorem dX2_hasDie_12 : decode cX2_hasDie 12 = .ok (.iconst 1, 1) := by decide +kernel
theorem dX2_hasDie_13 : decode cX2_hasDie 13 = .ok (.goto 4, 3) := by decide +kernel
theorem dX2_hasDie_16 : decode cX2_hasDie 16 = .ok (.iconst 0, 1) := by decide +kernel
theorem dX2_hasDie_17 : decode cX2_hasDie 17 = .ok (.ireturn, 1) := by decide +kernel
theorem dX2_dieWithValue_0 : decode cX2_dieWithValue 0 = .ok (.iconst 0, 1) := by decide +kernel
theorem dX2_dieWithValue_1 : decode cX2_dieWithValue 1 = .ok (.istore_n 2, 1) := by decide +kernel
theorem dX2_dieWithValue_2 : decode cX2_dieWithValue 2 = .ok (.iload_n 2, 1) := by decide +kernel
theorem dX2_dieWithValue_3 : decode cX2_dieWithValue 3 = .ok (.aload_n 0, 1) := by decide +kernel
theorem dX2_dieWithValue_4 : decode cX2_dieWithValue 4 = .ok (.getfield 33, 3) := by decide +kernel
theorem dX2_dieWithValue_7 : decode cX2_dieWithValue 7 = .ok (.if_icmp .ge 21, 3) := by decide +kernel
theorem dX2_dieWithValue_10 : decode cX2_dieWithValue 10 = .ok (.aload_n 0, 1) := by decide +kernel
theorem dX2_dieWithValue_11 : decode cX2_dieWithValue 11 = .ok (.getfield 9, 3) := by decide +kernel
theorem dX2_dieWithValue_14 : decode cX2_dieWithValue 14 = .ok (.iload_n 2, 1) := by decide +kernel
theorem dX2_dieWithValue_15 : decode cX2_dieWithValue 15 = .ok (.iaload, 1) := by decide +kernel
theorem dX2_dieWithValue_16 : decode cX2_dieWithValue 16 = .ok (.iload_n 1, 1) := by decide +kernel
theorem dX2_dieWithValue_17 : decode cX2_dieWithValue 17 = .ok (.if_icmp .ne 5, 3) := by decide +kernel
theorem dX2_dieWithValue_20 : decode cX2_dieWithValue 20 = .ok (.iload_n 2, 1) := by decide +kernel
theorem dX2_dieWithValue_21 : decode cX2_dieWithValue 21 = .ok (.ireturn, 1) := by decide +kernel
theorem dX2_dieWithValue_22 : decode cX2_dieWithValue 22 = .ok (.iinc 2 1, 3) := by decide +kernel
theorem dX2_dieWithValue_25 : decode cX2_dieWithValue 25 = .ok (.goto (-23), 3) := by decide +kernel
theorem dX2_dieWithValue_28 : decode cX2_dieWithValue 28 = .ok (.iconst (-1), 1) := by decide +kernel
theorem dX2_dieWithValue_29 : decode cX2_dieWithValue 29 = .ok (.ireturn, 1) := by decide +kernel
theorem dX2_diesWornMoreThan_0 : decode cX2_diesWornMoreThan 0 = .ok (.iconst 0, 1) := by decide +kernel
theorem dX2_diesWornMoreThan_1 : decode cX2_diesWornMoreThan 1 = .ok (.istore_n 2, 1) := by decide +kernel
theorem dX2_diesWornMoreThan_2 : decode cX2_diesWornMoreThan 2 = .ok (.iconst 0, 1) := by decide +kernel
theorem dX2_diesWornMoreThan_3 : decode cX2_diesWornMoreThan 3 = .ok (.istore_n 3, 1) := by decide +kernel
theorem dX2_diesWornMoreThan_4 : decode cX2_diesWornMoreThan 4 = .ok (.iload_n 3, 1) := by decide +kernel
theorem dX2_diesWornMoreThan_5 : decode cX2_diesWornMoreThan 5 = .ok (.aload_n 0, 1) := by decide +kernel
theorem dX2_diesWornMoreThan_6 : decode cX2_diesWornMoreThan 6 = .ok (.getfield 33, 3) := by decide +kernel
theorem dX2_diesWornMoreThan_9 : decode cX2_diesWornMoreThan 9 = .ok (.if_icmp .ge 69, 3) := by decide +kernel
theorem dX2_diesWornMoreThan_12 : decode cX2_diesWornMoreThan 12 = .ok (.aload_n 0, 1) := by decide +kernel
theorem dX2_diesWornMoreThan_13 : decode cX2_diesWornMoreThan 13 = .ok (.getfield 18, 3) := by decide +kernel
theorem dX2_diesWornMoreThan_16 : decode cX2_diesWornMoreThan 16 = .ok (.iload_n 3, 1) := by decide +kernel
theorem dX2_diesWornMoreThan_17 : decode cX2_diesWornMoreThan 17 = .ok (.iaload, 1) := by decide +kernel
theorem dX2_diesWornMoreThan_18 : decode cX2_diesWornMoreThan 18 = .ok (.aload_n 0, 1) := by decide +kernel
theorem dX2_diesWornMoreThan_19 : decode cX2_diesWornMoreThan 19 = .ok (.getfield 18, 3) := by decide +kernel
theorem dX2_diesWornMoreThan_22 : decode cX2_diesWornMoreThan 22 = .ok (.iload_n 1, 1) := by decide +kernel
theorem dX2_diesWornMoreThan_23 : decode cX2_diesWornMoreThan 23 = .ok (.iaload, 1) := by decide +kernel
theorem dX2_diesWornMoreThan_24 : decode cX2_diesWornMoreThan 24 = .ok (.if_icmp .ne 7, 3) := by decide +kernel
theorem dX2_diesWornMoreThan_27 : decode cX2_diesWornMoreThan 27 = .ok (.iconst 1, 1) := by decide +kernel
theorem dX2_diesWornMoreThan_28 : decode cX2_diesWornMoreThan 28 = .ok (.goto 4, 3) := by decide +kernel
theorem dX2_diesWornMoreThan_31 : decode cX2_diesWornMoreThan 31 = .ok (.iconst 0, 1) := by decide +kernel
theorem dX2_diesWornMoreThan_32 : decode cX2_diesWornMoreThan 32 = .ok (.istore 4, 2) := by decide +kernel
theorem dX2_diesWornMoreThan_34 : decode cX2_diesWornMoreThan 34 = .ok (.aload_n 0, 1) := by decide +kernel
theorem dX2_diesWornMoreThan_35 : decode cX2_diesWornMoreThan 35 = .ok (.getfield 18, 3) := by decide +kernel
theorem dX2_diesWornMoreThan_38 : decode cX2_diesWornMoreThan 38 = .ok (.iload_n 3, 1) := by decide +kernel
theorem dX2_diesWornMoreThan_39 : decode cX2_diesWornMoreThan 39 = .ok (.iaload, 1) := by decide +kernel
theorem dX2_diesWornMoreThan_40 : decode cX2_diesWornMoreThan 40 = .ok (.aload_n 0, 1) := by decide +kernel
theorem dX2_diesWornMoreThan_41 : decode cX2_diesWornMoreThan 41 = .ok (.getfield 18, 3) := by decide +kernel
theorem dX2_diesWornMoreThan_44 : decode cX2_diesWornMoreThan 44 = .ok (.iload_n 1, 1) := by decide +kernel
theorem dX2_diesWornMoreThan_45 : decode cX2_diesWornMoreThan 45 = .ok (.iaload, 1) := by decide +kernel
theorem dX2_diesWornMoreThan_46 : decode cX2_diesWornMoreThan 46 = .ok (.if_icmp .gt 23, 3) := by decide +kernel
theorem dX2_diesWornMoreThan_49 : decode cX2_diesWornMoreThan 49 = .ok (.iload 4, 2) := by decide +kernel
theorem dX2_diesWornMoreThan_51 : decode cX2_diesWornMoreThan 51 = .ok (.ifCond .eq 21, 3) := by decide +kernel
theorem dX2_diesWornMoreThan_54 : decode cX2_diesWornMoreThan 54 = .ok (.aload_n 0, 1) := by decide +kernel
theorem dX2_diesWornMoreThan_55 : decode cX2_diesWornMoreThan 55 = .ok (.getfield 9, 3) := by decide +kernel
theorem dX2_diesWornMoreThan_58 : decode cX2_diesWornMoreThan 58 = .ok (.iload_n 3, 1) := by decide +kernel
theorem dX2_diesWornMoreThan_59 : decode cX2_diesWornMoreThan 59 = .ok (.iaload, 1) := by decide +kernel
theorem dX2_diesWornMoreThan_60 : decode cX2_diesWornMoreThan 60 = .ok (.aload_n 0, 1) := by decide +kernel
theorem dX2_diesWornMoreThan_61 : decode cX2_diesWornMoreThan 61 = .ok (.getfield 9, 3) := by decide +kernel
theorem dX2_diesWornMoreThan_64 : decode cX2_diesWornMoreThan 64 = .ok (.iload_n 1, 1) := by decide +kernel
theorem dX2_diesWornMoreThan_65 : decode cX2_diesWornMoreThan 65 = .ok (.iaload, 1) := by decide +kernel
theorem dX2_diesWornMoreThan_66 : decode cX2_diesWornMoreThan 66 = .ok (.if_icmp .le 6, 3) := by decide +kernel
theorem dX2_diesWornMoreThan_69 : decode cX2_diesWornMoreThan 69 = .ok (.iinc 2 1, 3) := by decide +kernel
theorem dX2_diesWornMoreThan_72 : decode cX2_diesWornMoreThan 72 = .ok (.iinc 3 1, 3) := by decide +kernel
theorem dX2_diesWornMoreThan_75 : decode cX2_diesWornMoreThan 75 = .ok (.goto (-71), 3) := by decide +kernel
theorem dX2_diesWornMoreThan_78 : decode cX2_diesWornMoreThan 78 = .ok (.iload_n 2, 1) := by decide +kernel
theorem dX2_diesWornMoreThan_79 : decode cX2_diesWornMoreThan 79 = .ok (.ireturn, 1) := by decide +kernel
theorem dX2_coinsFrom_0 : decode cX2_coinsFrom 0 = .ok (.iconst 0, 1) := by decide +kernel
theorem dX2_coinsFrom_1 : decode cX2_coinsFrom 1 = .ok (.istore_n 2, 1) := by decide +kernel
theorem dX2_coinsFrom_2 : decode cX2_coinsFrom 2 = .ok (.iconst 0, 1) := by decide +kernel
theorem dX2_coinsFrom_3 : decode cX2_coinsFrom 3 = .ok (.istore_n 3, 1) := by decide +kernel
theorem dX2_coinsFrom_4 : decode cX2_coinsFrom 4 = .ok (.iload_n 3, 1) := by decide +kernel
theorem dX2_coinsFrom_5 : decode cX2_coinsFrom 5 = .ok (.aload_n 0, 1) := by decide +kernel
theorem dX2_coinsFrom_6 : decode cX2_coinsFrom 6 = .ok (.getfield 43, 3) := by decide +kernel
theorem dX2_coinsFrom_9 : decode cX2_coinsFrom 9 = .ok (.if_icmp .ge 22, 3) := by decide +kernel
theorem dX2_coinsFrom_12 : decode cX2_coinsFrom 12 = .ok (.aload_n 0, 1) := by decide +kernel
theorem dX2_coinsFrom_13 : decode cX2_coinsFrom 13 = .ok (.getfield 24, 3) := by decide +kernel
theorem dX2_coinsFrom_16 : decode cX2_coinsFrom 16 = .ok (.iload_n 3, 1) := by decide +kernel
theorem dX2_coinsFrom_17 : decode cX2_coinsFrom 17 = .ok (.iaload, 1) := by decide +kernel
theorem dX2_coinsFrom_18 : decode cX2_coinsFrom 18 = .ok (.iload_n 1, 1) := by decide +kernel
theorem dX2_coinsFrom_19 : decode cX2_coinsFrom 19 = .ok (.if_icmp .ne 6, 3) := by decide +kernel
theorem dX2_coinsFrom_22 : decode cX2_coinsFrom 22 = .ok (.iinc 2 1, 3) := by decide +kernel
theorem dX2_coinsFrom_25 : decode cX2_coinsFrom 25 = .ok (.iinc 3 1, 3) := by decide +kernel
theorem dX2_coinsFrom_28 : decode cX2_coinsFrom 28 = .ok (.goto (-24), 3) := by decide +kernel
theorem dX2_coinsFrom_31 : decode cX2_coinsFrom 31 = .ok (.iload_n 2, 1) := by decide +kernel
theorem dX2_coinsFrom_32 : decode cX2_coinsFrom 32 = .ok (.ireturn, 1) := by decide +kernel
theorem dX2_coinsStruckIn_0 : decode cX2_coinsStruckIn 0 = .ok (.iconst 0, 1) := by decide +kernel
theorem dX2_coinsStruckIn_1 : decode cX2_coinsStruckIn 1 = .ok (.istore_n 2, 1) := by decide +kernel
theorem dX2_coinsStruckIn_2 : decode cX2_coinsStruckIn 2 = .ok (.iconst 0, 1) := by decide +kernel
theorem dX2_coinsStruckIn_3 : decode cX2_coinsStruckIn 3 = .ok (.istore_n 3, 1) := by decide +kernel
theorem dX2_coinsStruckIn_4 : decode cX2_coinsStruckIn 4 = .ok (.iload_n 3, 1) := by decide +kernel
theorem dX2_coinsStruckIn_5 : decode cX2_coinsStruckIn 5 = .ok (.aload_n 0, 1) := by decide +kernel
theorem dX2_coinsStruckIn_6 : decode cX2_coinsStruckIn 6 = .ok (.getfield 43, 3) := by decide +kernel
theorem dX2_coinsStruckIn_9 : decode cX2_coinsStruckIn 9 = .ok (.if_icmp .ge 22, 3) := by decide +kernel
theorem dX2_coinsStruckIn_12 : decode cX2_coinsStruckIn 12 = .ok (.aload_n 0, 1) := by decide +kernel
theorem dX2_coinsStruckIn_13 : decode cX2_coinsStruckIn 13 = .ok (.getfield 27, 3) := by decide +kernel
theorem dX2_coinsStruckIn_16 : decode cX2_coinsStruckIn 16 = .ok (.iload_n 3, 1) := by decide +kernel
theorem dX2_coinsStruckIn_17 : decode cX2_coinsStruckIn 17 = .ok (.iaload, 1) := by decide +kernel
theorem dX2_coinsStruckIn_18 : decode cX2_coinsStruckIn 18 = .ok (.iload_n 1, 1) := by decide +kernel
theorem dX2_coinsStruckIn_19 : decode cX2_coinsStruckIn 19 = .ok (.if_icmp .ne 6, 3) := by decide +kernel
theorem dX2_coinsStruckIn_22 : decode cX2_coinsStruckIn 22 = .ok (.iinc 2 1, 3) := by decide +kernel
theorem dX2_coinsStruckIn_25 : decode cX2_coinsStruckIn 25 = .ok (.iinc 3 1, 3) := by decide +kernel
theorem dX2_coinsStruckIn_28 : decode cX2_coinsStruckIn 28 = .ok (.goto (-24), 3) := by decide +kernel
theorem dX2_coinsStruckIn_31 : decode cX2_coinsStruckIn 31 = .ok (.iload_n 2, 1) := by decide +kernel
theorem dX2_coinsStruckIn_32 : decode cX2_coinsStruckIn 32 = .ok (.ireturn, 1) := by decide +kernel
theorem dX2_coinsGraded_0 : decode cX2_coinsGraded 0 = .ok (.iconst 0, 1) := by decide +kernel
theorem dX2_coinsGraded_1 : decode cX2_coinsGraded 1 = .ok (.istore_n 2, 1) := by decide +kernel
theorem dX2_coinsGraded_2 : decode cX2_coinsGraded 2 = .ok (.iconst 0, 1) := by decide +kernel
theorem dX2_coinsGraded_3 : decode cX2_coinsGraded 3 = .ok (.istore_n 3, 1) := by decide +kernel
theorem dX2_coinsGraded_4 : decode cX2_coinsGraded 4 = .ok (.iload_n 3, 1) := by decide +kernel
theorem dX2_coinsGraded_5 : decode cX2_coinsGraded 5 = .ok (.aload_n 0, 1) := by decide +kernel
theorem dX2_coinsGraded_6 : decode cX2_coinsGraded 6 = .ok (.getfield 43, 3) := by decide +kernel
theorem dX2_coinsGraded_9 : decode cX2_coinsGraded 9 = .ok (.if_icmp .ge 22, 3) := by decide +kernel
theorem dX2_coinsGraded_12 : decode cX2_coinsGraded 12 = .ok (.aload_n 0, 1) := by decide +kernel
theorem dX2_coinsGraded_13 : decode cX2_coinsGraded 13 = .ok (.getfield 30, 3) := by decide +kernel
theorem dX2_coinsGraded_16 : decode cX2_coinsGraded 16 = .ok (.iload_n 3, 1) := by decide +kernel
theorem dX2_coinsGraded_17 : decode cX2_coinsGraded 17 = .ok (.iaload, 1) := by decide +kernel
theorem dX2_coinsGraded_18 : decode cX2_coinsGraded 18 = .ok (.iload_n 1, 1) := by decide +kernel
theorem dX2_coinsGraded_19 : decode cX2_coinsGraded 19 = .ok (.if_icmp .ne 6, 3) := by decide +kernel
theorem dX2_coinsGraded_22 : decode cX2_coinsGraded 22 = .ok (.iinc 2 1, 3) := by decide +kernel
theorem dX2_coinsGraded_25 : decode cX2_coinsGraded 25 = .ok (.iinc 3 1, 3) := by decide +kernel
theorem dX2_coinsGraded_28 : decode cX2_coinsGraded 28 = .ok (.goto (-24), 3) := by decide +kernel
theorem dX2_coinsGraded_31 : decode cX2_coinsGraded 31 = .ok (.iload_n 2, 1) := by decide +kernel
theorem dX2_coinsGraded_32 : decode cX2_coinsGraded 32 = .ok (.ireturn, 1) := by decide +kernel
theorem dX2_isFirstOfItsKind_0 : decode cX2_isFirstOfItsKind 0 = .ok (.iconst 0, 1) := by decide +kernel
theorem dX2_isFirstOfItsKind_1 : decode cX2_isFirstOfItsKind 1 = .ok (.istore_n 2, 1) := by decide +kernel
theorem dX2_isFirstOfItsKind_2 : decode cX2_isFirstOfItsKind 2 = .ok (.iload_n 2, 1) := by decide +kernel
theorem dX2_isFirstOfItsKind_3 : decode cX2_isFirstOfItsKind 3 = .ok (.iload_n 1, 1) := by decide +kernel
theorem dX2_isFirstOfItsKind_4 : decode cX2_isFirstOfItsKind 4 = .ok (.if_icmp .ge 56, 3) := by decide +kernel
theorem dX2_isFirstOfItsKind_7 : decode cX2_isFirstOfItsKind 7 = .ok (.aload_n 0, 1) := by decide +kernel
theorem dX2_isFirstOfItsKind_8 : decode cX2_isFirstOfItsKind 8 = .ok (.getfield 24, 3) := by decide +kernel
theorem dX2_isFirstOfItsKind_11 : decode cX2_isFirstOfItsKind 11 = .ok (.iload_n 2, 1) := by decide +kernel
theorem dX2_isFirstOfItsKind_12 : decode cX2_isFirstOfItsKind 12 = .ok (.iaload, 1) := by decide +kernel
theorem dX2_isFirstOfItsKind_13 : decode cX2_isFirstOfItsKind 13 = .ok (.aload_n 0, 1) := by decide +kernel
theorem dX2_isFirstOfItsKind_14 : decode cX2_isFirstOfItsKind 14 = .ok (.getfield 24, 3) := by decide +kernel
theorem dX2_isFirstOfItsKind_17 : decode cX2_isFirstOfItsKind 17 = .ok (.iload_n 1, 1) := by decide +kernel
theorem dX2_isFirstOfItsKind_18 : decode cX2_isFirstOfItsKind 18 = .ok (.iaload, 1) := by decide +kernel
theorem dX2_isFirstOfItsKind_19 : decode cX2_isFirstOfItsKind 19 = .ok (.if_icmp .ne 35, 3) := by decide +kernel
theorem dX2_isFirstOfItsKind_22 : decode cX2_isFirstOfItsKind 22 = .ok (.aload_n 0, 1) := by decide +kernel
theorem dX2_isFirstOfItsKind_23 : decode cX2_isFirstOfItsKind 23 = .ok (.getfield 27, 3) := by decide +kernel
theorem dX2_isFirstOfItsKind_26 : decode cX2_isFirstOfItsKind 26 = .ok (.iload_n 2, 1) := by decide +kernel
theorem dX2_isFirstOfItsKind_27 : decode cX2_isFirstOfItsKind 27 = .ok (.iaload, 1) := by decide +kernel
theorem dX2_isFirstOfItsKind_28 : decode cX2_isFirstOfItsKind 28 = .ok (.aload_n 0, 1) := by decide +kernel
theorem dX2_isFirstOfItsKind_29 : decode cX2_isFirstOfItsKind 29 = .ok (.getfield 27, 3) := by decide +kernel
theorem dX2_isFirstOfItsKind_32 : decode cX2_isFirstOfItsKind 32 = .ok (.iload_n 1, 1) := by decide +kernel
theorem dX2_isFirstOfItsKind_33 : decode cX2_isFirstOfItsKind 33 = .ok (.iaload, 1) := by decide +kernel
theorem dX2_isFirstOfItsKind_34 : decode cX2_isFirstOfItsKind 34 = .ok (.if_icmp .ne 20, 3) := by decide +kernel
theorem dX2_isFirstOfItsKind_37 : decode cX2_isFirstOfItsKind 37 = .ok (.aload_n 0, 1) := by decide +kernel
theorem dX2_isFirstOfItsKind_38 : decode cX2_isFirstOfItsKind 38 = .ok (.getfield 30, 3) := by decide +kernel
theorem dX2_isFirstOfItsKind_41 : decode cX2_isFirstOfItsKind 41 = .ok (.iload_n 2, 1) := by decide +kernel
theorem dX2_isFirstOfItsKind_42 : decode cX2_isFirstOfItsKind 42 = .ok (.iaload, 1) := by decide +kernel
theorem dX2_isFirstOfItsKind_43 : decode cX2_isFirstOfItsKind 43 = .ok (.aload_n 0, 1) := by decide +kernel
theorem dX2_isFirstOfItsKind_44 : decode cX2_isFirstOfItsKind 44 = .ok (.getfield 30, 3) := by decide +kernel
theorem dX2_isFirstOfItsKind_47 : decode cX2_isFirstOfItsKind 47 = .ok (.iload_n 1, 1) := by decide +kernel
theorem dX2_isFirstOfItsKind_48 : decode cX2_isFirstOfItsKind 48 = .ok (.iaload, 1) := by decide +kernel
theorem dX2_isFirstOfItsKind_49 : decode cX2_isFirstOfItsKind 49 = .ok (.if_icmp .ne 5, 3) := by decide +kernel
theorem dX2_isFirstOfItsKind_52 : decode cX2_isFirstOfItsKind 52 = .ok (.iconst 0, 1) := by decide +kernel
theorem dX2_isFirstOfItsKind_53 : decode cX2_isFirstOfItsKind 53 = .ok (.ireturn, 1) := by decide +kernel
theorem dX2_isFirstOfItsKind_54 : decode cX2_isFirstOfItsKind 54 = .ok (.iinc 2 1, 3) := by decide +kernel
theorem dX2_isFirstOfItsKind_57 : decode cX2_isFirstOfItsKind 57 = .ok (.goto (-55), 3) := by decide +kernel
theorem dX2_isFirstOfItsKind_60 : decode cX2_isFirstOfItsKind 60 = .ok (.iconst 1, 1) := by decide +kernel
theorem dX2_isFirstOfItsKind_61 : decode cX2_isFirstOfItsKind 61 = .ok (.ireturn, 1) := by decide +kernel
theorem dX2_weightOfCoins_0 : decode cX2_weightOfCoins 0 = .ok (.iconst 0, 1) := by decide +kernel
theorem dX2_weightOfCoins_1 : decode cX2_weightOfCoins 1 = .ok (.istore_n 1, 1) := by decide +kernel
theorem dX2_weightOfCoins_2 : decode cX2_weightOfCoins 2 = .ok (.iconst 0, 1) := by decide +kernel
theorem dX2_weightOfCoins_3 : decode cX2_weightOfCoins 3 = .ok (.istore_n 2, 1) := by decide +kernel
theorem dX2_weightOfCoins_4 : decode cX2_weightOfCoins 4 = .ok (.iload_n 2, 1) := by decide +kernel
theorem dX2_weightOfCoins_5 : decode cX2_weightOfCoins 5 = .ok (.aload_n 0, 1) := by decide +kernel
theorem dX2_weightOfCoins_6 : decode cX2_weightOfCoins 6 = .ok (.getfield 43, 3) := by decide +kernel
theorem dX2_weightOfCoins_9 : decode cX2_weightOfCoins 9 = .ok (.if_icmp .ge 23, 3) := by decide +kernel
theorem dX2_weightOfCoins_12 : decode cX2_weightOfCoins 12 = .ok (.iload_n 1, 1) := by decide +kernel
theorem dX2_weightOfCoins_13 : decode cX2_weightOfCoins 13 = .ok (.aload_n 0, 1) := by decide +kernel
theorem dX2_weightOfCoins_14 : decode cX2_weightOfCoins 14 = .ok (.getfield 15, 3) := by decide +kernel
theorem dX2_weightOfCoins_17 : decode cX2_weightOfCoins 17 = .ok (.aload_n 0, 1) := by decide +kernel
theorem dX2_weightOfCoins_18 : decode cX2_weightOfCoins 18 = .ok (.getfield 24, 3) := by decide +kernel
theorem dX2_weightOfCoins_21 : decode cX2_weightOfCoins 21 = .ok (.iload_n 2, 1) := by decide +kernel
theorem dX2_weightOfCoins_22 : decode cX2_weightOfCoins 22 = .ok (.iaload, 1) := by decide +kernel
theorem dX2_weightOfCoins_23 : decode cX2_weightOfCoins 23 = .ok (.iaload, 1) := by decide +kernel
theorem dX2_weightOfCoins_24 : decode cX2_weightOfCoins 24 = .ok (.iadd, 1) := by decide +kernel
theorem dX2_weightOfCoins_25 : decode cX2_weightOfCoins 25 = .ok (.istore_n 1, 1) := by decide +kernel
theorem dX2_weightOfCoins_26 : decode cX2_weightOfCoins 26 = .ok (.iinc 2 1, 3) := by decide +kernel
theorem dX2_weightOfCoins_29 : decode cX2_weightOfCoins 29 = .ok (.goto (-25), 3) := by decide +kernel
theorem dX2_weightOfCoins_32 : decode cX2_weightOfCoins 32 = .ok (.iload_n 1, 1) := by decide +kernel
theorem dX2_weightOfCoins_33 : decode cX2_weightOfCoins 33 = .ok (.ireturn, 1) := by decide +kernel
theorem dX2_gramsFromMelting_0 : decode cX2_gramsFromMelting 0 = .ok (.iconst 0, 1) := by decide +kernel
theorem dX2_gramsFromMelting_1 : decode cX2_gramsFromMelting 1 = .ok (.istore_n 2, 1) := by decide +kernel
theorem dX2_gramsFromMelting_2 : decode cX2_gramsFromMelting 2 = .ok (.iconst 0, 1) := by decide +kernel
theorem dX2_gramsFromMelting_3 : decode cX2_gramsFromMelting 3 = .ok (.istore_n 3, 1) := by decide +kernel
theorem dX2_gramsFromMelting_4 : decode cX2_gramsFromMelting 4 = .ok (.iload_n 3, 1) := by decide +kernel
theorem dX2_gramsFromMelting_5 : decode cX2_gramsFromMelting 5 = .ok (.aload_n 0, 1) := by decide +kernel
theorem dX2_gramsFromMelting_6 : decode cX2_gramsFromMelting 6 = .ok (.getfield 43, 3) := by decide +kernel
theorem dX2_gramsFromMelting_9 : decode cX2_gramsFromMelting 9 = .ok (.if_icmp .ge 44, 3) := by decide +kernel
theorem dX2_gramsFromMelting_12 : decode cX2_gramsFromMelting 12 = .ok (.aload_n 0, 1) := by decide +kernel
theorem dX2_gramsFromMelting_13 : decode cX2_gramsFromMelting 13 = .ok (.getfield 27, 3) := by decide +kernel
theorem dX2_gramsFromMelting_16 : decode cX2_gramsFromMelting 16 = .ok (.iload_n 3, 1) := by decide +kernel
theorem dX2_gramsFromMelting_17 : decode cX2_gramsFromMelting 17 = .ok (.iaload, 1) := by decide +kernel
theorem dX2_gramsFromMelting_18 : decode cX2_gramsFromMelting 18 = .ok (.iload_n 1, 1) := by decide +kernel
theorem dX2_gramsFromMelting_19 : decode cX2_gramsFromMelting 19 = .ok (.if_icmp .ne 28, 3) := by decide +kernel
theorem dX2_gramsFromMelting_22 : decode cX2_gramsFromMelting 22 = .ok (.iload_n 2, 1) := by decide +kernel
theorem dX2_gramsFromMelting_23 : decode cX2_gramsFromMelting 23 = .ok (.iconst 0, 1) := by decide +kernel
theorem dX2_gramsFromMelting_24 : decode cX2_gramsFromMelting 24 = .ok (.aload_n 0, 1) := by decide +kernel
theorem dX2_gramsFromMelting_25 : decode cX2_gramsFromMelting 25 = .ok (.getfield 15, 3) := by decide +kernel
theorem dX2_gramsFromMelting_28 : decode cX2_gramsFromMelting 28 = .ok (.aload_n 0, 1) := by decide +kernel
theorem dX2_gramsFromMelting_29 : decode cX2_gramsFromMelting 29 = .ok (.getfield 24, 3) := by decide +kernel
theorem dX2_gramsFromMelting_32 : decode cX2_gramsFromMelting 32 = .ok (.iload_n 3, 1) := by decide +kernel
theorem dX2_gramsFromMelting_33 : decode cX2_gramsFromMelting 33 = .ok (.iaload, 1) := by decide +kernel
theorem dX2_gramsFromMelting_34 : decode cX2_gramsFromMelting 34 = .ok (.iaload, 1) := by decide +kernel
theorem dX2_gramsFromMelting_35 : decode cX2_gramsFromMelting 35 = .ok (.aload_n 0, 1) := by decide +kernel
theorem dX2_gramsFromMelting_36 : decode cX2_gramsFromMelting 36 = .ok (.getfield 30, 3) := by decide +kernel
theorem dX2_gramsFromMelting_39 : decode cX2_gramsFromMelting 39 = .ok (.iload_n 3, 1) := by decide +kernel
theorem dX2_gramsFromMelting_40 : decode cX2_gramsFromMelting 40 = .ok (.iaload, 1) := by decide +kernel
theorem dX2_gramsFromMelting_41 : decode cX2_gramsFromMelting 41 = .ok (.isub, 1) := by decide +kernel
theorem dX2_gramsFromMelting_42 : decode cX2_gramsFromMelting 42 = .ok (.invokestatic 67, 3) := by decide +kernel
theorem dX2_gramsFromMelting_45 : decode cX2_gramsFromMelting 45 = .ok (.iadd, 1) := by decide +kernel
theorem dX2_gramsFromMelting_46 : decode cX2_gramsFromMelting 46 = .ok (.istore_n 2, 1) := by decide +kernel
theorem dX2_gramsFromMelting_47 : decode cX2_gramsFromMelting 47 = .ok (.iinc 3 1, 3) := by decide +kernel
theorem dX2_gramsFromMelting_50 : decode cX2_gramsFromMelting 50 = .ok (.goto (-46), 3) := by decide +kernel
theorem dX2_gramsFromMelting_53 : decode cX2_gramsFromMelting 53 = .ok (.iload_n 2, 1) := by decide +kernel
theorem dX2_gramsFromMelting_54 : decode cX2_gramsFromMelting 54 = .ok (.ireturn, 1) := by decide +kernel
theorem dX2_faultOfNewDie_0 : decode cX2_faultOfNewDie 0 = .ok (.iload_n 1, 1) := by decide +kernel
theorem dX2_faultOfNewDie_1 : decode cX2_faultOfNewDie 1 = .ok (.iconst 1, 1) := by decide +kernel
theorem dX2_faultOfNewDie_2 : decode cX2_faultOfNewDie 2 = .ok (.if_icmp .lt 20, 3) := by decide +kernel
theorem dX2_faultOfNewDie_5 : decode cX2_faultOfNewDie 5 = .ok (.iload_n 1, 1) := by decide +kernel
theorem dX2_faultOfNewDie_6 : decode cX2_faultOfNewDie 6 = .ok (.bipush 50, 2) := by decide +kernel
theorem dX2_faultOfNewDie_8 : decode cX2_faultOfNewDie 8 = .ok (.if_icmp .gt 14, 3) := by decide +kernel
theorem dX2_faultOfNewDie_11 : decode cX2_faultOfNewDie 11 = .ok (.iload_n 2, 1) := by decide +kernel
theorem dX2_faultOfNewDie_12 : decode cX2_faultOfNewDie 12 = .ok (.iconst 1, 1) := by decide +kernel
theorem dX2_faultOfNewDie_13 : decode cX2_faultOfNewDie 13 = .ok (.if_icmp .lt 9, 3) := by decide +kernel
theorem dX2_faultOfNewDie_16 : decode cX2_faultOfNewDie 16 = .ok (.iload_n 2, 1) := by decide +kernel
theorem dX2_faultOfNewDie_17 : decode cX2_faultOfNewDie 17 = .ok (.bipush 9, 2) := by decide +kernel
theorem dX2_faultOfNewDie_19 : decode cX2_faultOfNewDie 19 = .ok (.if_icmp .le 5, 3) := by decide +kernel
theorem dX2_faultOfNewDie_22 : decode cX2_faultOfNewDie 22 = .ok (.iconst 2, 1) := by decide +kernel
theorem dX2_faultOfNewDie_23 : decode cX2_faultOfNewDie 23 = .ok (.ireturn, 1) := by decide +kernel
theorem dX2_faultOfNewDie_24 : decode cX2_faultOfNewDie 24 = .ok (.aload_n 0, 1) := by decide +kernel
theorem dX2_faultOfNewDie_25 : decode cX2_faultOfNewDie 25 = .ok (.getfield 33, 3) := by decide +kernel
theorem dX2_faultOfNewDie_28 : decode cX2_faultOfNewDie 28 = .ok (.iconst 5, 1) := by decide +kernel
theorem dX2_faultOfNewDie_29 : decode cX2_faultOfNewDie 29 = .ok (.if_icmp .lt 5, 3) := by decide +kernel
theorem dX2_faultOfNewDie_32 : decode cX2_faultOfNewDie 32 = .ok (.iconst 3, 1) := by decide +kernel
theorem dX2_faultOfNewDie_33 : decode cX2_faultOfNewDie 33 = .ok (.ireturn, 1) := by decide +kernel
theorem dX2_faultOfNewDie_34 : decode cX2_faultOfNewDie 34 = .ok (.aload_n 0, 1) := by decide +kernel
theorem dX2_faultOfNewDie_35 : decode cX2_faultOfNewDie 35 = .ok (.iload_n 1, 1) := by decide +kernel
theorem dX2_faultOfNewDie_36 : decode cX2_faultOfNewDie 36 = .ok (.invokevirtual 73, 3) := by decide +kernel
theorem dX2_faultOfNewDie_39 : decode cX2_faultOfNewDie 39 = .ok (.iconst (-1), 1) := by decide +kernel
theorem dX2_faultOfNewDie_40 : decode cX2_faultOfNewDie 40 = .ok (.if_icmp .ne 7, 3) := by decide +kernel
theorem dX2_faultOfNewDie_43 : decode cX2_faultOfNewDie 43 = .ok (.iconst 0, 1) := by decide +kernel
theorem dX2_faultOfNewDie_44 : decode cX2_faultOfNewDie 44 = .ok (.goto 4, 3) := by decide +kernel
theorem dX2_faultOfNewDie_47 : decode cX2_faultOfNewDie 47 = .ok (.iconst 4, 1) := by decide +kernel
theorem dX2_faultOfNewDie_48 : decode cX2_faultOfNewDie 48 = .ok (.ireturn, 1) := by decide +kernel
theorem dX2_putDie_0 : decode cX2_putDie 0 = .ok (.aload_n 0, 1) := by decide +kernel
theorem dX2_putDie_1 : decode cX2_putDie 1 = .ok (.getfield 33, 3) := by decide +kernel
theorem dX2_putDie_4 : decode cX2_putDie 4 = .ok (.istore_n 3, 1) := by decide +kernel
theorem dX2_putDie_5 : decode cX2_putDie 5 = .ok (.aload_n 0, 1) := by decide +kernel
theorem dX2_putDie_6 : decode cX2_putDie 6 = .ok (.getfield 9, 3) := by decide +kernel
theorem dX2_putDie_9 : decode cX2_putDie 9 = .ok (.iload_n 3, 1) := by decide +kernel
theorem dX2_putDie_10 : decode cX2_putDie 10 = .ok (.iload_n 1, 1) := by decide +kernel
theorem dX2_putDie_11 : decode cX2_putDie 11 = .ok (.iastore, 1) := by decide +kernel
theorem dX2_putDie_12 : decode cX2_putDie 12 = .ok (.aload_n 0, 1) := by decide +kernel
theorem dX2_putDie_13 : decode cX2_putDie 13 = .ok (.getfield 15, 3) := by decide +kernel
theorem dX2_putDie_16 : decode cX2_putDie 16 = .ok (.iload_n 3, 1) := by decide +kernel
theorem dX2_putDie_17 : decode cX2_putDie 17 = .ok (.iload_n 2, 1) := by decide +kernel
theorem dX2_putDie_18 : decode cX2_putDie 18 = .ok (.iastore, 1) := by decide +kernel
theorem dX2_putDie_19 : decode cX2_putDie 19 = .ok (.aload_n 0, 1) := by decide +kernel
theorem dX2_putDie_20 : decode cX2_putDie 20 = .ok (.getfield 18, 3) := by decide +kernel
theorem dX2_putDie_23 : decode cX2_putDie 23 = .ok (.iload_n 3, 1) := by decide +kernel
theorem dX2_putDie_24 : decode cX2_putDie 24 = .ok (.iconst 0, 1) := by decide +kernel
theorem dX2_putDie_25 : decode cX2_putDie 25 = .ok (.iastore, 1) := by decide +kernel
theorem dX2_putDie_26 : decode cX2_putDie 26 = .ok (.iload_n 3, 1) := by decide +kernel
theorem dX2_putDie_27 : decode cX2_putDie 27 = .ok (.istore 4, 2) := by decide +kernel
theorem dX2_putDie_29 : decode cX2_putDie 29 = .ok (.iload 4, 2) := by decide +kernel
theorem dX2_putDie_31 : decode cX2_putDie 31 = .ok (.ifCond .le 43, 3) := by decide +kernel
theorem dX2_putDie_34 : decode cX2_putDie 34 = .ok (.aload_n 0, 1) := by decide +kernel
theorem dX2_putDie_35 : decode cX2_putDie 35 = .ok (.getfield 9, 3) := by decide +kernel
theorem dX2_putDie_38 : decode cX2_putDie 38 = .ok (.aload_n 0, 1) := by decide +kernel
theorem dX2_putDie_39 : decode cX2_putDie 39 = .ok (.getfield 21, 3) := by decide +kernel
theorem dX2_putDie_42 : decode cX2_putDie 42 = .ok (.iload 4, 2) := by decide +kernel
theorem dX2_putDie_44 : decode cX2_putDie 44 = .ok (.iconst 1, 1) := by decide +kernel
theorem dX2_putDie_45 : decode cX2_putDie 45 = .ok (.isub, 1) := by decide +kernel
theorem dX2_putDie_46 : decode cX2_putDie 46 = .ok (.iaload, 1) := by decide +kernel
theorem dX2_putDie_47 : decode cX2_putDie 47 = .ok (.iaload, 1) := by decide +kernel
theorem dX2_putDie_48 : decode cX2_putDie 48 = .ok (.iload_n 1, 1) := by decide +kernel
theorem dX2_putDie_49 : decode cX2_putDie 49 = .ok (.if_icmp .le 25, 3) := by decide +kernel
theorem dX2_putDie_52 : decode cX2_putDie 52 = .ok (.aload_n 0, 1) := by decide +kernel
theorem dX2_putDie_53 : decode cX2_putDie 53 = .ok (.getfield 21, 3) := by decide +kernel
theorem dX2_putDie_56 : decode cX2_putDie 56 = .ok (.iload 4, 2) := by decide +kernel
theorem dX2_putDie_58 : decode cX2_putDie 58 = .ok (.aload_n 0, 1) := by decide +kernel
theorem dX2_putDie_59 : decode cX2_putDie 59 = .ok (.getfield 21, 3) := by decide +kernel
theorem dX2_putDie_62 : decode cX2_putDie 62 = .ok (.iload 4, 2) := by decide +kernel
theorem dX2_putDie_64 : decode cX2_putDie 64 = .ok (.iconst 1, 1) := by decide +kernel
theorem dX2_putDie_65 : decode cX2_putDie 65 = .ok (.isub, 1) := by decide +kernel
theorem dX2_putDie_66 : decode cX2_putDie 66 = .ok (.iaload, 1) := by decide +kernel
theorem dX2_putDie_67 : decode cX2_putDie 67 = .ok (.iastore, 1) := by decide +kernel
theorem dX2_putDie_68 : decode cX2_putDie 68 = .ok (.iinc 4 (-1), 3) := by decide +kernel
theorem dX2_putDie_71 : decode cX2_putDie 71 = .ok (.goto (-42), 3) := by decide +kernel
theorem dX2_putDie_74 : decode cX2_putDie 74 = .ok (.aload_n 0, 1) := by decide +kernel
theorem dX2_putDie_75 : decode cX2_putDie 75 = .ok (.getfield 21, 3) := by decide +kernel
theorem dX2_putDie_78 : decode cX2_putDie 78 = .ok (.iload 4, 2) := by decide +kernel
theorem dX2_putDie_80 : decode cX2_putDie 80 = .ok (.iload_n 3, 1) := by decide +kernel
theorem dX2_putDie_81 : decode cX2_putDie 81 = .ok (.iastore, 1) := by decide +kernel
theorem dX2_putDie_82 : decode cX2_putDie 82 = .ok (.aload_n 0, 1) := by decide +kernel
theorem dX2_putDie_83 : decode cX2_putDie 83 = .ok (.dup, 1) := by decide +kernel
theorem dX2_putDie_84 : decode cX2_putDie 84 = .ok (.getfield 33, 3) := by decide +kernel
theorem dX2_putDie_87 : decode cX2_putDie 87 = .ok (.iconst 1, 1) := by decide +kernel
theorem dX2_putDie_88 : decode cX2_putDie 88 = .ok (.iadd, 1) := by decide +kernel
theorem dX2_putDie_89 : decode cX2_putDie 89 = .ok (.putfield 33, 3) := by decide +kernel
theorem dX2_putDie_92 : decode cX2_putDie 92 = .ok (.iload_n 3, 1) := by decide +kernel
theorem dX2_putDie_93 : decode cX2_putDie 93 = .ok (.ireturn, 1) := by decide +kernel
theorem dX2_faultOfSharpening_0 : decode cX2_faultOfSharpening 0 = .ok (.aload_n 0, 1) := by decide +kernel
theorem dX2_faultOfSharpening_1 : decode cX2_faultOfSharpening 1 = .ok (.iload_n 1, 1) := by decide +kernel
theorem dX2_faultOfSharpening_2 : decode cX2_faultOfSharpening 2 = .ok (.invokevirtual 77, 3) := by decide +kernel
theorem dX2_faultOfSharpening_5 : decode cX2_faultOfSharpening 5 = .ok (.ifCond .ne 5, 3) := by decide +kernel
theorem dX2_faultOfSharpening_8 : decode cX2_faultOfSharpening 8 = .ok (.iconst 1, 1) := by decide +kernel
theorem dX2_faultOfSharpening_9 : decode cX2_faultOfSharpening 9 = .ok (.ireturn, 1) := by decide +kernel
theorem dX2_faultOfSharpening_10 : decode cX2_faultOfSharpening 10 = .ok (.aload_n 0, 1) := by decide +kernel
theorem dX2_faultOfSharpening_11 : decode cX2_faultOfSharpening 11 = .ok (.getfield 18, 3) := by decide +kernel
theorem dX2_faultOfSharpening_14 : decode cX2_faultOfSharpening 14 = .ok (.iload_n 1, 1) := by decide +kernel
theorem dX2_faultOfSharpening_15 : decode cX2_faultOfSharpening 15 = .ok (.iaload, 1) := by decide +kernel
theorem dX2_faultOfSharpening_16 : decode cX2_faultOfSharpening 16 = .ok (.ifCond .ne 7, 3) := by decide +kernel
theorem dX2_faultOfSharpening_19 : decode cX2_faultOfSharpening 19 = .ok (.iconst 3, 1) := by decide +kernel
theorem dX2_faultOfSharpening_20 : decode cX2_faultOfSharpening 20 = .ok (.goto 4, 3) := by decide +kernel
theorem dX2_faultOfSharpening_23 : decode cX2_faultOfSharpening 23 = .ok (.iconst 0, 1) := by decide +kernel
theorem dX2_faultOfSharpening_24 : decode cX2_faultOfSharpening 24 = .ok (.ireturn, 1) := by decide +kernel
theorem dX2_grind_0 : decode cX2_grind 0 = .ok (.aload_n 0, 1) := by decide +kernel
theorem dX2_grind_1 : decode cX2_grind 1 = .ok (.getfield 18, 3) := by decide +kernel
theorem dX2_grind_4 : decode cX2_grind 4 = .ok (.iload_n 1, 1) := by decide +kernel
theorem dX2_grind_5 : decode cX2_grind 5 = .ok (.iaload, 1) := by decide +kernel
theorem dX2_grind_6 : decode cX2_grind 6 = .ok (.istore_n 2, 1) := by decide +kernel
theorem dX2_grind_7 : decode cX2_grind 7 = .ok (.aload_n 0, 1) := by decide +kernel
theorem dX2_grind_8 : decode cX2_grind 8 = .ok (.getfield 18, 3) := by decide +kernel
theorem dX2_grind_11 : decode cX2_grind 11 = .ok (.iload_n 1, 1) := by decide +kernel
theorem dX2_grind_12 : decode cX2_grind 12 = .ok (.iconst 0, 1) := by decide +kernel
theorem dX2_grind_13 : decode cX2_grind 13 = .ok (.iastore, 1) := by decide +kernel
theorem dX2_grind_14 : decode cX2_grind 14 = .ok (.iload_n 2, 1) := by decide +kernel
theorem dX2_grind_15 : decode cX2_grind 15 = .ok (.ireturn, 1) := by decide +kernel
theorem dX2_faultOfLeaves_0 : decode cX2_faultOfLeaves 0 = .ok (.iload_n 1, 1) := by decide +kernel
theorem dX2_faultOfLeaves_1 : decode cX2_faultOfLeaves 1 = .ok (.iconst 1, 1) := by decide +kernel
theorem dX2_faultOfLeaves_2 : decode cX2_faultOfLeaves 2 = .ok (.if_icmp .lt 9, 3) := by decide +kernel
theorem dX2_faultOfLeaves_5 : decode cX2_faultOfLeaves 5 = .ok (.iload_n 1, 1) := by decide +kernel
theorem dX2_faultOfLeaves_6 : decode cX2_faultOfLeaves 6 = .ok (.bipush 99, 2) := by decide +kernel
theorem dX2_faultOfLeaves_8 : decode cX2_faultOfLeaves 8 = .ok (.if_icmp .le 5, 3) := by decide +kernel
theorem dX2_faultOfLeaves_11 : decode cX2_faultOfLeaves 11 = .ok (.iconst 2, 1) := by decide +kernel
theorem dX2_faultOfLeaves_12 : decode cX2_faultOfLeaves 12 = .ok (.ireturn, 1) := by decide +kernel
theorem dX2_faultOfLeaves_13 : decode cX2_faultOfLeaves 13 = .ok (.aload_n 0, 1) := by decide +kernel
theorem dX2_faultOfLeaves_14 : decode cX2_faultOfLeaves 14 = .ok (.getfield 46, 3) := by decide +kernel
theorem dX2_faultOfLeaves_17 : decode cX2_faultOfLeaves 17 = .ok (.iload_n 1, 1) := by decide +kernel
theorem dX2_faultOfLeaves_18 : decode cX2_faultOfLeaves 18 = .ok (.iadd, 1) := by decide +kernel
theorem dX2_faultOfLeaves_19 : decode cX2_faultOfLeaves 19 = .ok (.sipush 999, 3) := by decide +kernel
theorem dX2_faultOfLeaves_22 : decode cX2_faultOfLeaves 22 = .ok (.if_icmp .le 7, 3) := by decide +kernel
theorem dX2_faultOfLeaves_25 : decode cX2_faultOfLeaves 25 = .ok (.iconst 3, 1) := by decide +kernel
theorem dX2_faultOfLeaves_26 : decode cX2_faultOfLeaves 26 = .ok (.goto 4, 3) := by decide +kernel
theorem dX2_faultOfLeaves_29 : decode cX2_faultOfLeaves 29 = .ok (.iconst 0, 1) := by decide +kernel
theorem dX2_faultOfLeaves_30 : decode cX2_faultOfLeaves 30 = .ok (.ireturn, 1) := by decide +kernel
theorem dX2_putLeaves_0 : decode cX2_putLeaves 0 = .ok (.aload_n 0, 1) := by decide +kernel
theorem dX2_putLeaves_1 : decode cX2_putLeaves 1 = .ok (.dup, 1) := by decide +kernel
theorem dX2_putLeaves_2 : decode cX2_putLeaves 2 = .ok (.getfield 46, 3) := by decide +kernel
theorem dX2_putLeaves_5 : decode cX2_putLeaves 5 = .ok (.iload_n 1, 1) := by decide +kernel
theorem dX2_putLeaves_6 : decode cX2_putLeaves 6 = .ok (.iadd, 1) := by decide +kernel
theorem dX2_putLeaves_7 : decode cX2_putLeaves 7 = .ok (.putfield 46, 3) := by decide +kernel
theorem dX2_putLeaves_10 : decode cX2_putLeaves 10 = .ok (.aload_n 0, 1) := by decide +kernel
theorem dX2_putLeaves_11 : decode cX2_putLeaves 11 = .ok (.dup, 1) := by decide +kernel
theorem dX2_putLeaves_12 : decode cX2_putLeaves 12 = .ok (.getfield 64, 3) := by decide +kernel
theorem dX2_putLeaves_15 : decode cX2_putLeaves 15 = .ok (.iload_n 1, 1) := by decide +kernel
theorem dX2_putLeaves_16 : decode cX2_putLeaves 16 = .ok (.iadd, 1) := by decide +kernel
theorem dX2_putLeaves_17 : decode cX2_putLeaves 17 = .ok (.putfield 64, 3) := by decide +kernel
theorem dX2_putLeaves_20 : decode cX2_putLeaves 20 = .ok (.aload_n 0, 1) := by decide +kernel
theorem dX2_putLeaves_21 : decode cX2_putLeaves 21 = .ok (.getfield 46, 3) := by decide +kernel
theorem dX2_putLeaves_24 : decode cX2_putLeaves 24 = .ok (.ireturn, 1) := by decide +kernel
theorem dX2_faultOfStriking_0 : decode cX2_faultOfStriking 0 = .ok (.aload_n 0, 1) := by decide +kernel
theorem dX2_faultOfStriking_1 : decode cX2_faultOfStriking 1 = .ok (.iload_n 1, 1) := by decide +kernel
theorem dX2_faultOfStriking_2 : decode cX2_faultOfStriking 2 = .ok (.invokevirtual 77, 3) := by decide +kernel
theorem dX2_faultOfStriking_5 : decode cX2_faultOfStriking 5 = .ok (.ifCond .ne 5, 3) := by decide +kernel
theorem dX2_faultOfStriking_8 : decode cX2_faultOfStriking 8 = .ok (.iconst 1, 1) := by decide +kernel
theorem dX2_faultOfStriking_9 : decode cX2_faultOfStriking 9 = .ok (.ireturn, 1) := by decide +kernel
theorem dX2_faultOfStriking_10 : decode cX2_faultOfStriking 10 = .ok (.iload_n 2, 1) := by decide +kernel
theorem dX2_faultOfStriking_11 : decode cX2_faultOfStriking 11 = .ok (.iconst 1, 1) := by decide +kernel
theorem dX2_faultOfStriking_12 : decode cX2_faultOfStriking 12 = .ok (.if_icmp .lt 9, 3) := by decide +kernel
theorem dX2_faultOfStriking_15 : decode cX2_faultOfStriking 15 = .ok (.iload_n 2, 1) := by decide +kernel
theorem dX2_faultOfStriking_16 : decode cX2_faultOfStriking 16 = .ok (.bipush 9, 2) := by decide +kernel
theorem dX2_faultOfStriking_18 : decode cX2_faultOfStriking 18 = .ok (.if_icmp .le 5, 3) := by decide +kernel
theorem dX2_faultOfStriking_21 : decode cX2_faultOfStriking 21 = .ok (.iconst 2, 1) := by decide +kernel
theorem dX2_faultOfStriking_22 : decode cX2_faultOfStriking 22 = .ok (.ireturn, 1) := by decide +kernel
theorem dX2_faultOfStriking_23 : decode cX2_faultOfStriking 23 = .ok (.iload_n 2, 1) := by decide +kernel
theorem dX2_faultOfStriking_24 : decode cX2_faultOfStriking 24 = .ok (.aload_n 0, 1) := by decide +kernel
theorem dX2_faultOfStriking_25 : decode cX2_faultOfStriking 25 = .ok (.getfield 15, 3) := by decide +kernel
theorem dX2_faultOfStriking_28 : decode cX2_faultOfStriking 28 = .ok (.iload_n 1, 1) := by decide +kernel
theorem dX2_faultOfStriking_29 : decode cX2_faultOfStriking 29 = .ok (.iaload, 1) := by decide +kernel
theorem dX2_faultOfStriking_30 : decode cX2_faultOfStriking 30 = .ok (.imul, 1) := by decide +kernel
theorem dX2_faultOfStriking_31 : decode cX2_faultOfStriking 31 = .ok (.aload_n 0, 1) := by decide +kernel
theorem dX2_faultOfStriking_32 : decode cX2_faultOfStriking 32 = .ok (.getfield 46, 3) := by decide +kernel
theorem dX2_faultOfStriking_35 : decode cX2_faultOfStriking 35 = .ok (.if_icmp .gt 14, 3) := by decide +kernel
theorem dX2_faultOfStriking_38 : decode cX2_faultOfStriking 38 = .ok (.aload_n 0, 1) := by decide +kernel
theorem dX2_faultOfStriking_39 : decode cX2_faultOfStriking 39 = .ok (.getfield 43, 3) := by decide +kernel
theorem dX2_faultOfStriking_42 : decode cX2_faultOfStriking 42 = .ok (.iload_n 2, 1) := by decide +kernel
theorem dX2_faultOfStriking_43 : decode cX2_faultOfStriking 43 = .ok (.iadd, 1) := by decide +kernel
theorem dX2_faultOfStriking_44 : decode cX2_faultOfStriking 44 = .ok (.bipush 40, 2) := by decide +kernel
theorem dX2_faultOfStriking_46 : decode cX2_faultOfStriking 46 = .ok (.if_icmp .le 5, 3) := by decide +kernel
theorem dX2_faultOfStriking_49 : decode cX2_faultOfStriking 49 = .ok (.iconst 3, 1) := by decide +kernel
theorem dX2_faultOfStriking_50 : decode cX2_faultOfStriking 50 = .ok (.ireturn, 1) := by decide +kernel
theorem dX2_faultOfStriking_51 : decode cX2_faultOfStriking 51 = .ok (.aload_n 0, 1) := by decide +kernel
theorem dX2_faultOfStriking_52 : decode cX2_faultOfStriking 52 = .ok (.getfield 18, 3) := by decide +kernel
theorem dX2_faultOfStriking_55 : decode cX2_faultOfStriking 55 = .ok (.iload_n 1, 1) := by decide +kernel
theorem dX2_faultOfStriking_56 : decode cX2_faultOfStriking 56 = .ok (.iaload, 1) := by decide +kernel
theorem dX2_faultOfStriking_57 : decode cX2_faultOfStriking 57 = .ok (.iload_n 2, 1) := by decide +kernel
theorem dX2_faultOfStriking_58 : decode cX2_faultOfStriking 58 = .ok (.iadd, 1) := by decide +kernel
theorem dX2_faultOfStriking_59 : decode cX2_faultOfStriking 59 = .ok (.bipush 30, 2) := by decide +kernel
theorem dX2_faultOfStriking_61 : decode cX2_faultOfStriking 61 = .ok (.if_icmp .le 7, 3) := by decide +kernel
theorem dX2_faultOfStriking_64 : decode cX2_faultOfStriking 64 = .ok (.iconst 4, 1) := by decide +kernel
theorem dX2_faultOfStriking_65 : decode cX2_faultOfStriking 65 = .ok (.goto 4, 3) := by decide +kernel
theorem dX2_faultOfStriking_68 : decode cX2_faultOfStriking 68 = .ok (.iconst 0, 1) := by decide +kernel
theorem dX2_faultOfStriking_69 : decode cX2_faultOfStriking 69 = .ok (.ireturn, 1) := by decide +kernel
theorem dX2_makeCoins_0 : decode cX2_makeCoins 0 = .ok (.iconst 0, 1) := by decide +kernel
theorem dX2_makeCoins_1 : decode cX2_makeCoins 1 = .ok (.istore_n 3, 1) := by decide +kernel
theorem dX2_makeCoins_2 : decode cX2_makeCoins 2 = .ok (.iload_n 3, 1) := by decide +kernel
theorem dX2_makeCoins_3 : decode cX2_makeCoins 3 = .ok (.iload_n 2, 1) := by decide +kernel
theorem dX2_makeCoins_4 : decode cX2_makeCoins 4 = .ok (.if_icmp .ge 70, 3) := by decide +kernel
theorem dX2_makeCoins_7 : decode cX2_makeCoins 7 = .ok (.aload_n 0, 1) := by decide +kernel
theorem dX2_makeCoins_8 : decode cX2_makeCoins 8 = .ok (.getfield 24, 3) := by decide +kernel
theorem dX2_makeCoins_11 : decode cX2_makeCoins 11 = .ok (.aload_n 0, 1) := by decide +kernel
theorem dX2_makeCoins_12 : decode cX2_makeCoins 12 = .ok (.getfield 43, 3) := by decide +kernel
theorem dX2_makeCoins_15 : decode cX2_makeCoins 15 = .ok (.iload_n 1, 1) := by decide +kernel
theorem dX2_makeCoins_16 : decode cX2_makeCoins 16 = .ok (.iastore, 1) := by decide +kernel
theorem dX2_makeCoins_17 : decode cX2_makeCoins 17 = .ok (.aload_n 0, 1) := by decide +kernel
theorem dX2_makeCoins_18 : decode cX2_makeCoins 18 = .ok (.getfield 27, 3) := by decide +kernel
theorem dX2_makeCoins_21 : decode cX2_makeCoins 21 = .ok (.aload_n 0, 1) := by decide +kernel
theorem dX2_makeCoins_22 : decode cX2_makeCoins 22 = .ok (.getfield 43, 3) := by decide +kernel
theorem dX2_makeCoins_25 : decode cX2_makeCoins 25 = .ok (.aload_n 0, 1) := by decide +kernel
theorem dX2_makeCoins_26 : decode cX2_makeCoins 26 = .ok (.getfield 49, 3) := by decide +kernel
theorem dX2_makeCoins_29 : decode cX2_makeCoins 29 = .ok (.iastore, 1) := by decide +kernel
theorem dX2_makeCoins_30 : decode cX2_makeCoins 30 = .ok (.aload_n 0, 1) := by decide +kernel
theorem dX2_makeCoins_31 : decode cX2_makeCoins 31 = .ok (.getfield 30, 3) := by decide +kernel
theorem dX2_makeCoins_34 : decode cX2_makeCoins 34 = .ok (.aload_n 0, 1) := by decide +kernel
theorem dX2_makeCoins_35 : decode cX2_makeCoins 35 = .ok (.getfield 43, 3) := by decide +kernel
theorem dX2_makeCoins_38 : decode cX2_makeCoins 38 = .ok (.aload_n 0, 1) := by decide +kernel
theorem dX2_makeCoins_39 : decode cX2_makeCoins 39 = .ok (.getfield 18, 3) := by decide +kernel
theorem dX2_makeCoins_42 : decode cX2_makeCoins 42 = .ok (.iload_n 1, 1) := by decide +kernel
theorem dX2_makeCoins_43 : decode cX2_makeCoins 43 = .ok (.iaload, 1) := by decide +kernel
theorem dX2_makeCoins_44 : decode cX2_makeCoins 44 = .ok (.invokestatic 81, 3) := by decide +kernel
theorem dX2_makeCoins_47 : decode cX2_makeCoins 47 = .ok (.iastore, 1) := by decide +kernel
theorem dX2_makeCoins_48 : decode cX2_makeCoins 48 = .ok (.aload_n 0, 1) := by decide +kernel
theorem dX2_makeCoins_49 : decode cX2_makeCoins 49 = .ok (.dup, 1) := by decide +kernel
theorem dX2_makeCoins_50 : decode cX2_makeCoins 50 = .ok (.getfield 43, 3) := by decide +kernel
theorem dX2_makeCoins_53 : decode cX2_makeCoins 53 = .ok (.iconst 1, 1) := by decide +kernel
theorem dX2_makeCoins_54 : decode cX2_makeCoins 54 = .ok (.iadd, 1) := by decide +kernel
theorem dX2_makeCoins_55 : decode cX2_makeCoins 55 = .ok (.putfield 43, 3) := by decide +kernel
theorem dX2_makeCoins_58 : decode cX2_makeCoins 58 = .ok (.aload_n 0, 1) := by decide +kernel
theorem dX2_makeCoins_59 : decode cX2_makeCoins 59 = .ok (.getfield 18, 3) := by decide +kernel
theorem dX2_makeCoins_62 : decode cX2_makeCoins 62 = .ok (.iload_n 1, 1) := by decide +kernel
theorem dX2_makeCoins_63 : decode cX2_makeCoins 63 = .ok (.dup2, 1) := by decide +kernel
theorem dX2_makeCoins_64 : decode cX2_makeCoins 64 = .ok (.iaload, 1) := by decide +kernel
theorem dX2_makeCoins_65 : decode cX2_makeCoins 65 = .ok (.iconst 1, 1) := by decide +kernel
theorem dX2_makeCoins_66 : decode cX2_makeCoins 66 = .ok (.iadd, 1) := by decide +kernel
theorem dX2_makeCoins_67 : decode cX2_makeCoins 67 = .ok (.iastore, 1) := by decide +kernel
theorem dX2_makeCoins_68 : decode cX2_makeCoins 68 = .ok (.iinc 3 1, 3) := by decide +kernel
theorem dX2_makeCoins_71 : decode cX2_makeCoins 71 = .ok (.goto (-69), 3) := by decide +kernel
theorem dX2_makeCoins_74 : decode cX2_makeCoins 74 = .ok (.aload_n 0, 1) := by decide +kernel
theorem dX2_makeCoins_75 : decode cX2_makeCoins 75 = .ok (.dup, 1) := by decide +kernel
theorem dX2_makeCoins_76 : decode cX2_makeCoins 76 = .ok (.getfield 46, 3) := by decide +kernel
theorem dX2_makeCoins_79 : decode cX2_makeCoins 79 = .ok (.iload_n 2, 1) := by decide +kernel
theorem dX2_makeCoins_80 : decode cX2_makeCoins 80 = .ok (.aload_n 0, 1) := by decide +kernel
theorem dX2_makeCoins_81 : decode cX2_makeCoins 81 = .ok (.getfield 15, 3) := by decide +kernel
theorem dX2_makeCoins_84 : decode cX2_makeCoins 84 = .ok (.iload_n 1, 1) := by decide +kernel
theorem dX2_makeCoins_85 : decode cX2_makeCoins 85 = .ok (.iaload, 1) := by decide +kernel
theorem dX2_makeCoins_86 : decode cX2_makeCoins 86 = .ok (.imul, 1) := by decide +kernel
theorem dX2_makeCoins_87 : decode cX2_makeCoins 87 = .ok (.isub, 1) := by decide +kernel
theorem dX2_makeCoins_88 : decode cX2_makeCoins 88 = .ok (.putfield 46, 3) := by decide +kernel
theorem dX2_makeCoins_91 : decode cX2_makeCoins 91 = .ok (.aload_n 0, 1) := by decide +kernel
theorem dX2_makeCoins_92 : decode cX2_makeCoins 92 = .ok (.dup, 1) := by decide +kernel
theorem dX2_makeCoins_93 : decode cX2_makeCoins 93 = .ok (.getfield 52, 3) := by decide +kernel
theorem dX2_makeCoins_96 : decode cX2_makeCoins 96 = .ok (.iload_n 2, 1) := by decide +kernel
theorem dX2_makeCoins_97 : decode cX2_makeCoins 97 = .ok (.iadd, 1) := by decide +kernel
theorem dX2_makeCoins_98 : decode cX2_makeCoins 98 = .ok (.putfield 52, 3) := by decide +kernel
theorem dX2_makeCoins_101 : decode cX2_makeCoins 101 = .ok (.aload_n 0, 1) := by decide +kernel
theorem dX2_makeCoins_102 : decode cX2_makeCoins 102 = .ok (.getfield 43, 3) := by decide +kernel
theorem dX2_makeCoins_105 : decode cX2_makeCoins 105 = .ok (.ireturn, 1) := by decide +kernel
theorem dX2_age_0 : decode cX2_age 0 = .ok (.iconst 0, 1) := by decide +kernel
theorem dX2_age_1 : decode cX2_age 1 = .ok (.istore_n 2, 1) := by decide +kernel
theorem dX2_age_2 : decode cX2_age 2 = .ok (.iconst 0, 1) := by decide +kernel
theorem dX2_age_3 : decode cX2_age 3 = .ok (.istore_n 3, 1) := by decide +kernel
theorem dX2_age_4 : decode cX2_age 4 = .ok (.iload_n 3, 1) := by decide +kernel
theorem dX2_age_5 : decode cX2_age 5 = .ok (.iload_n 1, 1) := by decide +kernel
theorem dX2_age_6 : decode cX2_age 6 = .ok (.if_icmp .ge 26, 3) := by decide +kernel
theorem dX2_age_9 : decode cX2_age 9 = .ok (.aload_n 0, 1) := by decide +kernel
theorem dX2_age_10 : decode cX2_age 10 = .ok (.dup, 1) := by decide +kernel
theorem dX2_age_11 : decode cX2_age 11 = .ok (.getfield 49, 3) := by decide +kernel
theorem dX2_age_14 : decode cX2_age 14 = .ok (.iconst 1, 1) := by decide +kernel
theorem dX2_age_15 : decode cX2_age 15 = .ok (.iadd, 1) := by decide +kernel
theorem dX2_age_16 : decode cX2_age 16 = .ok (.putfield 49, 3) := by decide +kernel
theorem dX2_age_19 : decode cX2_age 19 = .ok (.iload_n 2, 1) := by decide +kernel
theorem dX2_age_20 : decode cX2_age 20 = .ok (.aload_n 0, 1) := by decide +kernel
theorem dX2_age_21 : decode cX2_age 21 = .ok (.invokevirtual 84, 3) := by decide +kernel
theorem dX2_age_24 : decode cX2_age 24 = .ok (.iadd, 1) := by decide +kernel
theorem dX2_age_25 : decode cX2_age 25 = .ok (.istore_n 2, 1) := by decide +kernel
theorem dX2_age_26 : decode cX2_age 26 = .ok (.iinc 3 1, 3) := by decide +kernel
theorem dX2_age_29 : decode cX2_age 29 = .ok (.goto (-25), 3) := by decide +kernel
theorem dX2_age_32 : decode cX2_age 32 = .ok (.iload_n 2, 1) := by decide +kernel
theorem dX2_age_33 : decode cX2_age 33 = .ok (.ireturn, 1) := by decide +kernel
theorem dX2_lowerAgedCoins_0 : decode cX2_lowerAgedCoins 0 = .ok (.iconst 0, 1) := by decide +kernel
theorem dX2_lowerAgedCoins_1 : decode cX2_lowerAgedCoins 1 = .ok (.istore_n 1, 1) := by decide +kernel
theorem dX2_lowerAgedCoins_2 : decode cX2_lowerAgedCoins 2 = .ok (.iconst 0, 1) := by decide +kernel
theorem dX2_lowerAgedCoins_3 : decode cX2_lowerAgedCoins 3 = .ok (.istore_n 2, 1) := by decide +kernel
theorem dX2_lowerAgedCoins_4 : decode cX2_lowerAgedCoins 4 = .ok (.iload_n 2, 1) := by decide +kernel
theorem dX2_lowerAgedCoins_5 : decode cX2_lowerAgedCoins 5 = .ok (.aload_n 0, 1) := by decide +kernel
theorem dX2_lowerAgedCoins_6 : decode cX2_lowerAgedCoins 6 = .ok (.getfield 43, 3) := by decide +kernel
theorem dX2_lowerAgedCoins_9 : decode cX2_lowerAgedCoins 9 = .ok (.if_icmp .ge 55, 3) := by decide +kernel
theorem dX2_lowerAgedCoins_12 : decode cX2_lowerAgedCoins 12 = .ok (.aload_n 0, 1) := by decide +kernel
theorem dX2_lowerAgedCoins_13 : decode cX2_lowerAgedCoins 13 = .ok (.getfield 49, 3) := by decide +kernel
theorem dX2_lowerAgedCoins_16 : decode cX2_lowerAgedCoins 16 = .ok (.aload_n 0, 1) := by decide +kernel
theorem dX2_lowerAgedCoins_17 : decode cX2_lowerAgedCoins 17 = .ok (.getfield 27, 3) := by decide +kernel
theorem dX2_lowerAgedCoins_20 : decode cX2_lowerAgedCoins 20 = .ok (.iload_n 2, 1) := by decide +kernel
theorem dX2_lowerAgedCoins_21 : decode cX2_lowerAgedCoins 21 = .ok (.iaload, 1) := by decide +kernel
theorem dX2_lowerAgedCoins_22 : decode cX2_lowerAgedCoins 22 = .ok (.isub, 1) := by decide +kernel
theorem dX2_lowerAgedCoins_23 : decode cX2_lowerAgedCoins 23 = .ok (.istore_n 3, 1) := by decide +kernel
theorem dX2_lowerAgedCoins_24 : decode cX2_lowerAgedCoins 24 = .ok (.iload_n 3, 1) := by decide +kernel
theorem dX2_lowerAgedCoins_25 : decode cX2_lowerAgedCoins 25 = .ok (.iconst 5, 1) := by decide +kernel
theorem dX2_lowerAgedCoins_26 : decode cX2_lowerAgedCoins 26 = .ok (.if_icmp .eq 9, 3) := by decide +kernel
theorem dX2_lowerAgedCoins_29 : decode cX2_lowerAgedCoins 29 = .ok (.iload_n 3, 1) := by decide +kernel
theorem dX2_lowerAgedCoins_30 : decode cX2_lowerAgedCoins 30 = .ok (.bipush 10, 2) := by decide +kernel
theorem dX2_lowerAgedCoins_32 : decode cX2_lowerAgedCoins 32 = .ok (.if_icmp .ne 26, 3) := by decide +kernel
theorem dX2_lowerAgedCoins_35 : decode cX2_lowerAgedCoins 35 = .ok (.aload_n 0, 1) := by decide +kernel
theorem dX2_lowerAgedCoins_36 : decode cX2_lowerAgedCoins 36 = .ok (.getfield 30, 3) := by decide +kernel
theorem dX2_lowerAgedCoins_39 : decode cX2_lowerAgedCoins 39 = .ok (.iload_n 2, 1) := by decide +kernel
theorem dX2_lowerAgedCoins_40 : decode cX2_lowerAgedCoins 40 = .ok (.iaload, 1) := by decide +kernel
theorem dX2_lowerAgedCoins_41 : decode cX2_lowerAgedCoins 41 = .ok (.iconst 2, 1) := by decide +kernel
theorem dX2_lowerAgedCoins_42 : decode cX2_lowerAgedCoins 42 = .ok (.if_icmp .eq 16, 3) := by decide +kernel
theorem dX2_lowerAgedCoins_45 : decode cX2_lowerAgedCoins 45 = .ok (.aload_n 0, 1) := by decide +kernel
theorem dX2_lowerAgedCoins_46 : decode cX2_lowerAgedCoins 46 = .ok (.getfield 30, 3) := by decide +kernel
theorem dX2_lowerAgedCoins_49 : decode cX2_lowerAgedCoins 49 = .ok (.iload_n 2, 1) := by decide +kernel
theorem dX2_lowerAgedCoins_50 : decode cX2_lowerAgedCoins 50 = .ok (.dup2, 1) := by decide +kernel
theorem dX2_lowerAgedCoins_51 : decode cX2_lowerAgedCoins 51 = .ok (.iaload, 1) := by decide +kernel
theorem dX2_lowerAgedCoins_52 : decode cX2_lowerAgedCoins 52 = .ok (.iconst 1, 1) := by decide +kernel
theorem dX2_lowerAgedCoins_53 : decode cX2_lowerAgedCoins 53 = .ok (.iadd, 1) := by decide +kernel
theorem dX2_lowerAgedCoins_54 : decode cX2_lowerAgedCoins 54 = .ok (.iastore, 1) := by decide +kernel
theorem dX2_lowerAgedCoins_55 : decode cX2_lowerAgedCoins 55 = .ok (.iinc 1 1, 3) := by decide +kernel
theorem dX2_lowerAgedCoins_58 : decode cX2_lowerAgedCoins 58 = .ok (.iinc 2 1, 3) := by decide +kernel
theorem dX2_lowerAgedCoins_61 : decode cX2_lowerAgedCoins 61 = .ok (.goto (-57), 3) := by decide +kernel
theorem dX2_lowerAgedCoins_64 : decode cX2_lowerAgedCoins 64 = .ok (.iload_n 1, 1) := by decide +kernel
theorem dX2_lowerAgedCoins_65 : decode cX2_lowerAgedCoins 65 = .ok (.ireturn, 1) := by decide +kernel
theorem dX2_faultOfMelting_0 : decode cX2_faultOfMelting 0 = .ok (.iload_n 1, 1) := by decide +kernel
theorem dX2_faultOfMelting_1 : decode cX2_faultOfMelting 1 = .ok (.ifCond .lt 11, 3) := by decide +kernel
theorem dX2_faultOfMelting_4 : decode cX2_faultOfMelting 4 = .ok (.iload_n 1, 1) := by decide +kernel
theorem dX2_faultOfMelting_5 : decode cX2_faultOfMelting 5 = .ok (.aload_n 0, 1) := by decide +kernel
theorem dX2_faultOfMelting_6 : decode cX2_faultOfMelting 6 = .ok (.getfield 49, 3) := by decide +kernel
theorem dX2_faultOfMelting_9 : decode cX2_faultOfMelting 9 = .ok (.if_icmp .le 5, 3) := by decide +kernel
theorem dX2_faultOfMelting_12 : decode cX2_faultOfMelting 12 = .ok (.iconst 2, 1) := by decide +kernel
theorem dX2_faultOfMelting_13 : decode cX2_faultOfMelting 13 = .ok (.ireturn, 1) := by decide +kernel
theorem dX2_faultOfMelting_14 : decode cX2_faultOfMelting 14 = .ok (.aload_n 0, 1) := by decide +kernel
theorem dX2_faultOfMelting_15 : decode cX2_faultOfMelting 15 = .ok (.iload_n 1, 1) := by decide +kernel
theorem dX2_faultOfMelting_16 : decode cX2_faultOfMelting 16 = .ok (.invokevirtual 88, 3) := by decide +kernel
theorem dX2_faultOfMelting_19 : decode cX2_faultOfMelting 19 = .ok (.ifCond .ne 7, 3) := by decide +kernel
theorem dX2_faultOfMelting_22 : decode cX2_faultOfMelting 22 = .ok (.iconst 5, 1) := by decide +kernel
theorem dX2_faultOfMelting_23 : decode cX2_faultOfMelting 23 = .ok (.goto 4, 3) := by decide +kernel
theorem dX2_faultOfMelting_26 : decode cX2_faultOfMelting 26 = .ok (.iconst 0, 1) := by decide +kernel
theorem dX2_faultOfMelting_27 : decode cX2_faultOfMelting 27 = .ok (.ireturn, 1) := by decide +kernel
theorem dX2_melt_0 : decode cX2_melt 0 = .ok (.aload_n 0, 1) := by decide +kernel
theorem dX2_melt_1 : decode cX2_melt 1 = .ok (.iload_n 1, 1) := by decide +kernel
theorem dX2_melt_2 : decode cX2_melt 2 = .ok (.invokevirtual 91, 3) := by decide +kernel
theorem dX2_melt_5 : decode cX2_melt 5 = .ok (.istore_n 2, 1) := by decide +kernel
theorem dX2_melt_6 : decode cX2_melt 6 = .ok (.aload_n 0, 1) := by decide +kernel
theorem dX2_melt_7 : decode cX2_melt 7 = .ok (.invokevirtual 94, 3) := by decide +kernel
theorem dX2_melt_10 : decode cX2_melt 10 = .ok (.istore_n 3, 1) := by decide +kernel
theorem dX2_melt_11 : decode cX2_melt 11 = .ok (.aload_n 0, 1) := by decide +kernel
theorem dX2_melt_12 : decode cX2_melt 12 = .ok (.iload_n 1, 1) := by decide +kernel
theorem dX2_melt_13 : decode cX2_melt 13 = .ok (.invokevirtual 97, 3) := by decide +kernel
theorem dX2_melt_16 : decode cX2_melt 16 = .ok (.aload_n 0, 1) := by decide +kernel
theorem dX2_melt_17 : decode cX2_melt 17 = .ok (.dup, 1) := by decide +kernel
theorem dX2_melt_18 : decode cX2_melt 18 = .ok (.getfield 46, 3) := by decide +kernel
theorem dX2_melt_21 : decode cX2_melt 21 = .ok (.iload_n 2, 1) := by decide +kernel
theorem dX2_melt_22 : decode cX2_melt 22 = .ok (.iadd, 1) := by decide +kernel
theorem dX2_melt_23 : decode cX2_melt 23 = .ok (.putfield 46, 3) := by decide +kernel
theorem dX2_melt_26 : decode cX2_melt 26 = .ok (.aload_n 0, 1) := by decide +kernel
theorem dX2_melt_27 : decode cX2_melt 27 = .ok (.dup, 1) := by decide +kernel
theorem dX2_melt_28 : decode cX2_melt 28 = .ok (.getfield 61, 3) := by decide +kernel
theorem dX2_melt_31 : decode cX2_melt 31 = .ok (.iload_n 3, 1) := by decide +kernel
theorem dX2_melt_32 : decode cX2_melt 32 = .ok (.aload_n 0, 1) := by decide +kernel
theorem dX2_melt_33 : decode cX2_melt 33 = .ok (.invokevirtual 94, 3) := by decide +kernel
theorem dX2_melt_36 : decode cX2_melt 36 = .ok (.isub, 1) := by decide +kernel
theorem dX2_melt_37 : decode cX2_melt 37 = .ok (.iload_n 2, 1) := by decide +kernel
theorem dX2_melt_38 : decode cX2_melt 38 = .ok (.isub, 1) := by decide +kernel
theorem dX2_melt_39 : decode cX2_melt 39 = .ok (.iadd, 1) := by decide +kernel
theorem dX2_melt_40 : decode cX2_melt 40 = .ok (.putfield 61, 3) := by decide +kernel
theorem dX2_melt_43 : decode cX2_melt 43 = .ok (.iload_n 2, 1) := by decide +kernel
theorem dX2_melt_44 : decode cX2_melt 44 = .ok (.ireturn, 1) := by decide +kernel
theorem dX2_removeCoinsStruckIn_0 : decode cX2_removeCoinsStruckIn 0 = .ok (.aload_n 0, 1) := by decide +kernel
theorem dX2_removeCoinsStruckIn_1 : decode cX2_removeCoinsStruckIn 1 = .ok (.getfield 43, 3) := by decide +kernel
theorem dX2_removeCoinsStruckIn_4 : decode cX2_removeCoinsStruckIn 4 = .ok (.iconst 1, 1) := by decide +kernel
theorem dX2_removeCoinsStruckIn_5 : decode cX2_removeCoinsStruckIn 5 = .ok (.isub, 1) := by decide +kernel
theorem dX2_removeCoinsStruckIn_6 : decode cX2_removeCoinsStruckIn 6 = .ok (.istore_n 2, 1) := by decide +kernel
theorem dX2_removeCoinsStruckIn_7 : decode cX2_removeCoinsStruckIn 7 = .ok (.iload_n 2, 1) := by decide +kernel
theorem dX2_removeCoinsStruckIn_8 : decode cX2_removeCoinsStruckIn 8 = .ok (.ifCond .lt 24, 3) := by decide +kernel
theorem dX2_removeCoinsStruckIn_11 : decode cX2_removeCoinsStruckIn 11 = .ok (.aload_n 0, 1) := by decide +kernel
theorem dX2_removeCoinsStruckIn_12 : decode cX2_removeCoinsStruckIn 12 = .ok (.getfield 27, 3) := by decide +kernel
theorem dX2_removeCoinsStruckIn_15 : decode cX2_removeCoinsStruckIn 15 = .ok (.iload_n 2, 1) := by decide +kernel
theorem dX2_removeCoinsStruckIn_16 : decode cX2_removeCoinsStruckIn 16 = .ok (.iaload, 1) := by decide +kernel
theorem dX2_removeCoinsStruckIn_17 : decode cX2_removeCoinsStruckIn 17 = .ok (.iload_n 1, 1) := by decide +kernel
theorem dX2_removeCoinsStruckIn_18 : decode cX2_removeCoinsStruckIn 18 = .ok (.if_icmp .ne 8, 3) := by decide +kernel
theorem dX2_removeCoinsStruckIn_21 : decode cX2_removeCoinsStruckIn 21 = .ok (.aload_n 0, 1) := by decide +kernel
theorem dX2_removeCoinsStruckIn_22 : decode cX2_removeCoinsStruckIn 22 = .ok (.iload_n 2, 1) := by decide +kernel
theorem dX2_removeCoinsStruckIn_23 : decode cX2_removeCoinsStruckIn 23 = .ok (.invokevirtual 101, 3) := by decide +kernel
theorem dX2_removeCoinsStruckIn_26 : decode cX2_removeCoinsStruckIn 26 = .ok (.iinc 2 (-1), 3) := by decide +kernel
theorem dX2_removeCoinsStruckIn_29 : decode cX2_removeCoinsStruckIn 29 = .ok (.goto (-22), 3) := by decide +kernel
theorem dX2_removeCoinsStruckIn_32 : decode cX2_removeCoinsStruckIn 32 = .ok (.return_, 1) := by decide +kernel
theorem dX2_payOut_0 : decode cX2_payOut 0 = .ok (.aload_n 0, 1) := by decide +kernel
theorem dX2_payOut_1 : decode cX2_payOut 1 = .ok (.getfield 43, 3) := by decide +kernel
theorem dX2_payOut_4 : decode cX2_payOut 4 = .ok (.istore_n 3, 1) := by decide +kernel
theorem dX2_payOut_5 : decode cX2_payOut 5 = .ok (.iconst 0, 1) := by decide +kernel
theorem dX2_payOut_6 : decode cX2_payOut 6 = .ok (.istore 4, 2) := by decide +kernel
theorem dX2_payOut_8 : decode cX2_payOut 8 = .ok (.iload 4, 2) := by decide +kernel
theorem dX2_payOut_10 : decode cX2_payOut 10 = .ok (.aload_n 0, 1) := by decide +kernel
theorem dX2_payOut_11 : decode cX2_payOut 11 = .ok (.getfield 33, 3) := by decide +kernel
theorem dX2_payOut_14 : decode cX2_payOut 14 = .ok (.if_icmp .ge 33, 3) := by decide +kernel
theorem dX2_payOut_17 : decode cX2_payOut 17 = .ok (.iconst 0, 1) := by decide +kernel
theorem dX2_payOut_18 : decode cX2_payOut 18 = .ok (.istore 5, 2) := by decide +kernel
theorem dX2_payOut_20 : decode cX2_payOut 20 = .ok (.iload 5, 2) := by decide +kernel
theorem dX2_payOut_22 : decode cX2_payOut 22 = .ok (.aload_n 2, 1) := by decide +kernel
theorem dX2_payOut_23 : decode cX2_payOut 23 = .ok (.iload 4, 2) := by decide +kernel
theorem dX2_payOut_25 : decode cX2_payOut 25 = .ok (.iaload, 1) := by decide +kernel
theorem dX2_payOut_26 : decode cX2_payOut 26 = .ok (.if_icmp .ge 15, 3) := by decide +kernel
theorem dX2_payOut_29 : decode cX2_payOut 29 = .ok (.aload_n 0, 1) := by decide +kernel
theorem dX2_payOut_30 : decode cX2_payOut 30 = .ok (.iload 4, 2) := by decide +kernel
theorem dX2_payOut_32 : decode cX2_payOut 32 = .ok (.invokevirtual 104, 3) := by decide +kernel
theorem dX2_payOut_35 : decode cX2_payOut 35 = .ok (.iinc 5 1, 3) := by decide +kernel
theorem dX2_payOut_38 : decode cX2_payOut 38 = .ok (.goto (-18), 3) := by decide +kernel
theorem dX2_payOut_41 : decode cX2_payOut 41 = .ok (.iinc 4 1, 3) := by decide +kernel
theorem dX2_payOut_44 : decode cX2_payOut 44 = .ok (.goto (-36), 3) := by decide +kernel
theorem dX2_payOut_47 : decode cX2_payOut 47 = .ok (.aload_n 0, 1) := by decide +kernel
theorem dX2_payOut_48 : decode cX2_payOut 48 = .ok (.dup, 1) := by decide +kernel
theorem dX2_payOut_49 : decode cX2_payOut 49 = .ok (.getfield 55, 3) := by decide +kernel
theorem dX2_payOut_52 : decode cX2_payOut 52 = .ok (.iload_n 1, 1) := by decide +kernel
theorem dX2_payOut_53 : decode cX2_payOut 53 = .ok (.iadd, 1) := by decide +kernel
theorem dX2_payOut_54 : decode cX2_payOut 54 = .ok (.putfield 55, 3) := by decide +kernel
theorem dX2_payOut_57 : decode cX2_payOut 57 = .ok (.iload_n 3, 1) := by decide +kernel
theorem dX2_payOut_58 : decode cX2_payOut 58 = .ok (.aload_n 0, 1) := by decide +kernel
theorem dX2_payOut_59 : decode cX2_payOut 59 = .ok (.getfield 43, 3) := by decide +kernel
theorem dX2_payOut_62 : decode cX2_payOut 62 = .ok (.isub, 1) := by decide +kernel
theorem dX2_payOut_63 : decode cX2_payOut 63 = .ok (.ireturn, 1) := by decide +kernel
theorem dX2_spendCoin_0 : decode cX2_spendCoin 0 = .ok (.iconst (-1), 1) := by decide +kernel
theorem dX2_spendCoin_1 : decode cX2_spendCoin 1 = .ok (.istore_n 2, 1) := by decide +kernel
theorem dX2_spendCoin_2 : decode cX2_spendCoin 2 = .ok (.iconst 0, 1) := by decide +kernel
theorem dX2_spendCoin_3 : decode cX2_spendCoin 3 = .ok (.istore_n 3, 1) := by decide +kernel
theorem dX2_spendCoin_4 : decode cX2_spendCoin 4 = .ok (.iload_n 3, 1) := by decide +kernel
theorem dX2_spendCoin_5 : decode cX2_spendCoin 5 = .ok (.aload_n 0, 1) := by decide +kernel
theorem dX2_spendCoin_6 : decode cX2_spendCoin 6 = .ok (.getfield 43, 3) := by decide +kernel
theorem dX2_spendCoin_9 : decode cX2_spendCoin 9 = .ok (.if_icmp .ge 35, 3) := by decide +kernel
theorem dX2_spendCoin_12 : decode cX2_spendCoin 12 = .ok (.aload_n 0, 1) := by decide +kernel
theorem dX2_spendCoin_13 : decode cX2_spendCoin 13 = .ok (.getfield 24, 3) := by decide +kernel
theorem dX2_spendCoin_16 : decode cX2_spendCoin 16 = .ok (.iload_n 3, 1) := by decide +kernel
theorem dX2_spendCoin_17 : decode cX2_spendCoin 17 = .ok (.iaload, 1) := by decide +kernel
theorem dX2_spendCoin_18 : decode cX2_spendCoin 18 = .ok (.iload_n 1, 1) := by decide +kernel
theorem dX2_spendCoin_19 : decode cX2_spendCoin 19 = .ok (.if_icmp .ne 19, 3) := by decide +kernel
theorem dX2_spendCoin_22 : decode cX2_spendCoin 22 = .ok (.iload_n 2, 1) := by decide +kernel
theorem dX2_spendCoin_23 : decode cX2_spendCoin 23 = .ok (.iconst (-1), 1) := by decide +kernel
theorem dX2_spendCoin_24 : decode cX2_spendCoin 24 = .ok (.if_icmp .eq 12, 3) := by decide +kernel
theorem dX2_spendCoin_27 : decode cX2_spendCoin 27 = .ok (.aload_n 0, 1) := by decide +kernel
theorem dX2_spendCoin_28 : decode cX2_spendCoin 28 = .ok (.iload_n 3, 1) := by decide +kernel
theorem dX2_spendCoin_29 : decode cX2_spendCoin 29 = .ok (.iload_n 2, 1) := by decide +kernel
theorem dX2_spendCoin_30 : decode cX2_spendCoin 30 = .ok (.invokevirtual 107, 3) := by decide +kernel
theorem dX2_spendCoin_33 : decode cX2_spendCoin 33 = .ok (.ifCond .eq 5, 3) := by decide +kernel
theorem dX2_spendCoin_36 : decode cX2_spendCoin 36 = .ok (.iload_n 3, 1) := by decide +kernel
theorem dX2_spendCoin_37 : decode cX2_spendCoin 37 = .ok (.istore_n 2, 1) := by decide +kernel
theorem dX2_spendCoin_38 : decode cX2_spendCoin 38 = .ok (.iinc 3 1, 3) := by decide +kernel
theorem dX2_spendCoin_41 : decode cX2_spendCoin 41 = .ok (.goto (-37), 3) := by decide +kernel
theorem dX2_spendCoin_44 : decode cX2_spendCoin 44 = .ok (.iload_n 2, 1) := by decide +kernel
theorem dX2_spendCoin_45 : decode cX2_spendCoin 45 = .ok (.iconst (-1), 1) := by decide +kernel
theorem dX2_spendCoin_46 : decode cX2_spendCoin 46 = .ok (.if_icmp .eq 23, 3) := by decide +kernel
theorem dX2_spendCoin_49 : decode cX2_spendCoin 49 = .ok (.aload_n 0, 1) := by decide +kernel
theorem dX2_spendCoin_50 : decode cX2_spendCoin 50 = .ok (.dup, 1) := by decide +kernel
theorem dX2_spendCoin_51 : decode cX2_spendCoin 51 = .ok (.getfield 58, 3) := by decide +kernel
theorem dX2_spendCoin_54 : decode cX2_spendCoin 54 = .ok (.aload_n 0, 1) := by decide +kernel
theorem dX2_spendCoin_55 : decode cX2_spendCoin 55 = .ok (.getfield 15, 3) := by decide +kernel
theorem dX2_spendCoin_58 : decode cX2_spendCoin 58 = .ok (.iload_n 1, 1) := by decide +kernel
theorem dX2_spendCoin_59 : decode cX2_spendCoin 59 = .ok (.iaload, 1) := by decide +kernel
theorem dX2_spendCoin_60 : decode cX2_spendCoin 60 = .ok (.iadd, 1) := by decide +kernel
theorem dX2_spendCoin_61 : decode cX2_spendCoin 61 = .ok (.putfield 58, 3) := by decide +kernel
theorem dX2_spendCoin_64 : decode cX2_spendCoin 64 = .ok (.aload_n 0, 1) := by decide +kernel
theorem dX2_spendCoin_65 : decode cX2_spendCoin 65 = .ok (.iload_n 2, 1) := by decide +kernel
theorem dX2_spendCoin_66 : decode cX2_spendCoin 66 = .ok (.invokevirtual 101, 3) := by decide +kernel
theorem dX2_spendCoin_69 : decode cX2_spendCoin 69 = .ok (.return_, 1) := by decide +kernel
theorem dX2_isSpentBefore_0 : decode cX2_isSpentBefore 0 = .ok (.aload_n 0, 1) := by decide +kernel
theorem dX2_isSpentBefore_1 : decode cX2_isSpentBefore 1 = .ok (.getfield 30, 3) := by decide +kernel
theorem dX2_isSpentBefore_4 : decode cX2_isSpentBefore 4 = .ok (.iload_n 1, 1) := by decide +kernel
theorem dX2_isSpentBefore_5 : decode cX2_isSpentBefore 5 = .ok (.iaload, 1) := by decide +kernel
theorem dX2_isSpentBefore_6 : decode cX2_isSpentBefore 6 = .ok (.aload_n 0, 1) := by decide +kernel
theorem dX2_isSpentBefore_7 : decode cX2_isSpentBefore 7 = .ok (.getfield 30, 3) := by decide +kernel
theorem dX2_isSpentBefore_10 : decode cX2_isSpentBefore 10 = .ok (.iload_n 2, 1) := by decide +kernel
theorem dX2_isSpentBefore_11 : decode cX2_isSpentBefore 11 = .ok (.iaload, 1) := by decide +kernel
theorem dX2_isSpentBefore_12 : decode cX2_isSpentBefore 12 = .ok (.if_icmp .eq 24, 3) := by decide +kernel
theorem dX2_isSpentBefore_15 : decode cX2_isSpentBefore 15 = .ok (.aload_n 0, 1) := by decide +kernel
theorem dX2_isSpentBefore_16 : decode cX2_isSpentBefore 16 = .ok (.getfield 30, 3) := by decide +kernel
theorem dX2_isSpentBefore_19 : decode cX2_isSpentBefore 19 = .ok (.iload_n 1, 1) := by decide +kernel
theorem dX2_isSpentBefore_20 : decode cX2_isSpentBefore 20 = .ok (.iaload, 1) := by decide +kernel
theorem dX2_isSpentBefore_21 : decode cX2_isSpentBefore 21 = .ok (.aload_n 0, 1) := by decide +kernel
theorem dX2_isSpentBefore_22 : decode cX2_isSpentBefore 22 = .ok (.getfield 30, 3) := by decide +kernel
theorem dX2_isSpentBefore_25 : decode cX2_isSpentBefore 25 = .ok (.iload_n 2, 1) := by decide +kernel
theorem dX2_isSpentBefore_26 : decode cX2_isSpentBefore 26 = .ok (.iaload, 1) := by decide +kernel
theorem dX2_isSpentBefore_27 : decode cX2_isSpentBefore 27 = .ok (.if_icmp .le 7, 3) := by decide +kernel
theorem dX2_isSpentBefore_30 : decode cX2_isSpentBefore 30 = .ok (.iconst 1, 1) := by decide +kernel
theorem dX2_isSpentBefore_31 : decode cX2_isSpentBefore 31 = .ok (.goto 4, 3) := by decide +kernel
theorem dX2_isSpentBefore_34 : decode cX2_isSpentBefore 34 = .ok (.iconst 0, 1) := by decide +kernel
theorem dX2_isSpentBefore_35 : decode cX2_isSpentBefore 35 = .ok (.ireturn, 1) := by decide +kernel
theorem dX2_isSpentBefore_36 : decode cX2_isSpentBefore 36 = .ok (.aload_n 0, 1) := by decide +kernel
theorem dX2_isSpentBefore_37 : decode cX2_isSpentBefore 37 = .ok (.getfield 27, 3) := by decide +kernel
theorem dX2_isSpentBefore_40 : decode cX2_isSpentBefore 40 = .ok (.iload_n 1, 1) := by decide +kernel
theorem dX2_isSpentBefore_41 : decode cX2_isSpentBefore 41 = .ok (.iaload, 1) := by decide +kernel
theorem dX2_isSpentBefore_42 : decode cX2_isSpentBefore 42 = .ok (.aload_n 0, 1) := by decide +kernel
theorem dX2_isSpentBefore_43 : decode cX2_isSpentBefore 43 = .ok (.getfield 27, 3) := by decide +kernel
theorem dX2_isSpentBefore_46 : decode cX2_isSpentBefore 46 = .ok (.iload_n 2, 1) := by decide +kernel
theorem dX2_isSpentBefore_47 : decode cX2_isSpentBefore 47 = .ok (.iaload, 1) := by decide +kernel
theorem dX2_isSpentBefore_48 : decode cX2_isSpentBefore 48 = .ok (.if_icmp .ge 7, 3) := by decide +kernel
theorem dX2_isSpentBefore_51 : decode cX2_isSpentBefore 51 = .ok (.iconst 1, 1) := by decide +kernel
theorem dX2_isSpentBefore_52 : decode cX2_isSpentBefore 52 = .ok (.goto 4, 3) := by decide +kernel
theorem dX2_isSpentBefore_55 : decode cX2_isSpentBefore 55 = .ok (.iconst 0, 1) := by decide +kernel
theorem dX2_isSpentBefore_56 : decode cX2_isSpentBefore 56 = .ok (.ireturn, 1) := by decide +kernel
theorem dX2_removeCoin_0 : decode cX2_removeCoin 0 = .ok (.aload_n 0, 1) := by decide +kernel
theorem dX2_removeCoin_1 : decode cX2_removeCoin 1 = .ok (.dup, 1) := by decide +kernel
theorem dX2_removeCoin_2 : decode cX2_removeCoin 2 = .ok (.getfield 43, 3) := by decide +kernel
theorem dX2_removeCoin_5 : decode cX2_removeCoin 5 = .ok (.iconst 1, 1) := by decide +kernel
theorem dX2_removeCoin_6 : decode cX2_removeCoin 6 = .ok (.isub, 1) := by decide +kernel
theorem dX2_removeCoin_7 : decode cX2_removeCoin 7 = .ok (.putfield 43, 3) := by decide +kernel
theorem dX2_removeCoin_10 : decode cX2_removeCoin 10 = .ok (.aload_n 0, 1) := by decide +kernel
theorem dX2_removeCoin_11 : decode cX2_removeCoin 11 = .ok (.getfield 24, 3) := by decide +kernel
theorem dX2_removeCoin_14 : decode cX2_removeCoin 14 = .ok (.iload_n 1, 1) := by decide +kernel
theorem dX2_removeCoin_15 : decode cX2_removeCoin 15 = .ok (.aload_n 0, 1) := by decide +kernel
theorem dX2_removeCoin_16 : decode cX2_removeCoin 16 = .ok (.getfield 24, 3) := by decide +kernel
theorem dX2_removeCoin_19 : decode cX2_removeCoin 19 = .ok (.aload_n 0, 1) := by decide +kernel
theorem dX2_removeCoin_20 : decode cX2_removeCoin 20 = .ok (.getfield 43, 3) := by decide +kernel
theorem dX2_removeCoin_23 : decode cX2_removeCoin 23 = .ok (.iaload, 1) := by decide +kernel
theorem dX2_removeCoin_24 : decode cX2_removeCoin 24 = .ok (.iastore, 1) := by decide +kernel
theorem dX2_removeCoin_25 : decode cX2_removeCoin 25 = .ok (.aload_n 0, 1) := by decide +kernel
theorem dX2_removeCoin_26 : decode cX2_removeCoin 26 = .ok (.getfield 27, 3) := by decide +kernel
theorem dX2_removeCoin_29 : decode cX2_removeCoin 29 = .ok (.iload_n 1, 1) := by decide +kernel
theorem dX2_removeCoin_30 : decode cX2_removeCoin 30 = .ok (.aload_n 0, 1) := by decide +kernel
theorem dX2_removeCoin_31 : decode cX2_removeCoin 31 = .ok (.getfield 27, 3) := by decide +kernel
theorem dX2_removeCoin_34 : decode cX2_removeCoin 34 = .ok (.aload_n 0, 1) := by decide +kernel
theorem dX2_removeCoin_35 : decode cX2_removeCoin 35 = .ok (.getfield 43, 3) := by decide +kernel
theorem dX2_removeCoin_38 : decode cX2_removeCoin 38 = .ok (.iaload, 1) := by decide +kernel
theorem dX2_removeCoin_39 : decode cX2_removeCoin 39 = .ok (.iastore, 1) := by decide +kernel
theorem dX2_removeCoin_40 : decode cX2_removeCoin 40 = .ok (.aload_n 0, 1) := by decide +kernel
theorem dX2_removeCoin_41 : decode cX2_removeCoin 41 = .ok (.getfield 30, 3) := by decide +kernel
theorem dX2_removeCoin_44 : decode cX2_removeCoin 44 = .ok (.iload_n 1, 1) := by decide +kernel
theorem dX2_removeCoin_45 : decode cX2_removeCoin 45 = .ok (.aload_n 0, 1) := by decide +kernel
theorem dX2_removeCoin_46 : decode cX2_removeCoin 46 = .ok (.getfield 30, 3) := by decide +kernel
theorem dX2_removeCoin_49 : decode cX2_removeCoin 49 = .ok (.aload_n 0, 1) := by decide +kernel
theorem dX2_removeCoin_50 : decode cX2_removeCoin 50 = .ok (.getfield 43, 3) := by decide +kernel
theorem dX2_removeCoin_53 : decode cX2_removeCoin 53 = .ok (.iaload, 1) := by decide +kernel
theorem dX2_removeCoin_54 : decode cX2_removeCoin 54 = .ok (.iastore, 1) := by decide +kernel
theorem dX2_removeCoin_55 : decode cX2_removeCoin 55 = .ok (.return_, 1) := by decide +kernel
theorem dX3_init_0 : decode cX3_init 0 = .ok (.aload_n 0, 1) := by decide +kernel
theorem dX3_init_1 : decode cX3_init 1 = .ok (.invokespecial 1, 3) := by decide +kernel
theorem dX3_init_4 : decode cX3_init 4 = .ok (.aload_n 0, 1) := by decide +kernel
theorem dX3_init_5 : decode cX3_init 5 = .ok (.new 7, 3) := by decide +kernel
theorem dX3_init_8 : decode cX3_init 8 = .ok (.dup, 1) := by decide +kernel
theorem dX3_init_9 : decode cX3_init 9 = .ok (.invokespecial 9, 3) := by decide +kernel
theorem dX3_init_12 : decode cX3_init 12 = .ok (.putfield 10, 3) := by decide +kernel
theorem dX3_init_15 : decode cX3_init 15 = .ok (.aload_n 0, 1) := by decide +kernel
theorem dX3_init_16 : decode cX3_init 16 = .ok (.new 7, 3) := by decide +kernel
theorem dX3_init_19 : decode cX3_init 19 = .ok (.dup, 1) := by decide +kernel
theorem dX3_init_20 : decode cX3_init 20 = .ok (.invokespecial 9, 3) := by decide +kernel
theorem dX3_init_23 : decode cX3_init 23 = .ok (.putfield 16, 3) := by decide +kernel
theorem dX3_init_26 : decode cX3_init 26 = .ok (.aload_n 0, 1) := by decide +kernel
theorem dX3_init_27 : decode cX3_init 27 = .ok (.new 7, 3) := by decide +kernel
theorem dX3_init_30 : decode cX3_init 30 = .ok (.dup, 1) := by decide +kernel
theorem dX3_init_31 : decode cX3_init 31 = .ok (.invokespecial 9, 3) := by decide +kernel
theorem dX3_init_34 : decode cX3_init 34 = .ok (.putfield 19, 3) := by decide +kernel
theorem dX3_init_37 : decode cX3_init 37 = .ok (.aload_n 0, 1) := by decide +kernel
theorem dX3_init_38 : decode cX3_init 38 = .ok (.bipush 8, 2) := by decide +kernel
theorem dX3_init_40 : decode cX3_init 40 = .ok (.anewarray 7, 3) := by decide +kernel
theorem dX3_init_43 : decode cX3_init 43 = .ok (.putfield 22, 3) := by decide +kernel
theorem dX3_init_46 : decode cX3_init 46 = .ok (.iconst 0, 1) := by decide +kernel
theorem dX3_init_47 : decode cX3_init 47 = .ok (.istore_n 1, 1) := by decide +kernel
theorem dX3_init_48 : decode cX3_init 48 = .ok (.iload_n 1, 1) := by decide +kernel
theorem dX3_init_49 : decode cX3_init 49 = .ok (.bipush 8, 2) := by decide +kernel
theorem dX3_init_51 : decode cX3_init 51 = .ok (.if_icmp .ge 22, 3) := by decide +kernel
theorem dX3_init_54 : decode cX3_init 54 = .ok (.aload_n 0, 1) := by decide +kernel
theorem dX3_init_55 : decode cX3_init 55 = .ok (.getfield 22, 3) := by decide +kernel
theorem dX3_init_58 : decode cX3_init 58 = .ok (.iload_n 1, 1) := by decide +kernel
theorem dX3_init_59 : decode cX3_init 59 = .ok (.new 7, 3) := by decide +kernel
theorem dX3_init_62 : decode cX3_init 62 = .ok (.dup, 1) := by decide +kernel
theorem dX3_init_63 : decode cX3_init 63 = .ok (.invokespecial 9, 3) := by decide +kernel
theorem dX3_init_66 : decode cX3_init 66 = .ok (.aastore, 1) := by decide +kernel
theorem dX3_init_67 : decode cX3_init 67 = .ok (.iinc 1 1, 3) := by decide +kernel
theorem dX3_init_70 : decode cX3_init 70 = .ok (.goto (-22), 3) := by decide +kernel
theorem dX3_init_73 : decode cX3_init 73 = .ok (.aload_n 0, 1) := by decide +kernel
theorem dX3_init_74 : decode cX3_init 74 = .ok (.new 26, 3) := by decide +kernel
theorem dX3_init_77 : decode cX3_init 77 = .ok (.dup, 1) := by decide +kernel
theorem dX3_init_78 : decode cX3_init 78 = .ok (.invokespecial 28, 3) := by decide +kernel
theorem dX3_init_81 : decode cX3_init 81 = .ok (.putfield 29, 3) := by decide +kernel
theorem dX3_init_84 : decode cX3_init 84 = .ok (.aload_n 0, 1) := by decide +kernel
theorem dX3_init_85 : decode cX3_init 85 = .ok (.new 33, 3) := by decide +kernel
theorem dX3_init_88 : decode cX3_init 88 = .ok (.dup, 1) := by decide +kernel
theorem dX3_init_89 : decode cX3_init 89 = .ok (.invokespecial 35, 3) := by decide +kernel
theorem dX3_init_92 : decode cX3_init 92 = .ok (.putfield 36, 3) := by decide +kernel
theorem dX3_init_95 : decode cX3_init 95 = .ok (.aload_n 0, 1) := by decide +kernel
theorem dX3_init_96 : decode cX3_init 96 = .ok (.new 40, 3) := by decide +kernel
theorem dX3_init_99 : decode cX3_init 99 = .ok (.dup, 1) := by decide +kernel
theorem dX3_init_100 : decode cX3_init 100 = .ok (.invokespecial 42, 3) := by decide +kernel
theorem dX3_init_103 : decode cX3_init 103 = .ok (.putfield 43, 3) := by decide +kernel
theorem dX3_init_106 : decode cX3_init 106 = .ok (.aload_n 0, 1) := by decide +kernel
theorem dX3_init_107 : decode cX3_init 107 = .ok (.iconst (-1), 1) := by decide +kernel
theorem dX3_init_108 : decode cX3_init 108 = .ok (.putfield 47, 3) := by decide +kernel
theorem dX3_init_111 : decode cX3_init 111 = .ok (.aload_n 0, 1) := by decide +kernel
theorem dX3_init_112 : decode cX3_init 112 = .ok (.iconst (-1), 1) := by decide +kernel
theorem dX3_init_113 : decode cX3_init 113 = .ok (.putfield 51, 3) := by decide +kernel
theorem dX3_init_116 : decode cX3_init 116 = .ok (.return_, 1) := by decide +kernel
theorem dX3_addDie_0 : decode cX3_addDie 0 = .ok (.aload_n 0, 1) := by decide +kernel
theorem dX3_addDie_1 : decode cX3_addDie 1 = .ok (.iconst 0, 1) := by decide +kernel
theorem dX3_addDie_2 : decode cX3_addDie 2 = .ok (.iload_n 1, 1) := by decide +kernel
theorem dX3_addDie_3 : decode cX3_addDie 3 = .ok (.iload_n 2, 1) := by decide +kernel
theorem dX3_addDie_4 : decode cX3_addDie 4 = .ok (.invokevirtual 54, 3) := by decide +kernel
theorem dX3_addDie_7 : decode cX3_addDie 7 = .ok (.ireturn, 1) := by decide +kernel
theorem dX3_sharpen_0 : decode cX3_sharpen 0 = .ok (.aload_n 0, 1) := by decide +kernel
theorem dX3_sharpen_1 : decode cX3_sharpen 1 = .ok (.iconst 1, 1) := by decide +kernel
theorem dX3_sharpen_2 : decode cX3_sharpen 2 = .ok (.iload_n 1, 1) := by decide +kernel
theorem dX3_sharpen_3 : decode cX3_sharpen 3 = .ok (.iconst 0, 1) := by decide +kernel
theorem dX3_sharpen_4 : decode cX3_sharpen 4 = .ok (.invokevirtual 54, 3) := by decide +kernel
theorem dX3_sharpen_7 : decode cX3_sharpen 7 = .ok (.ireturn, 1) := by decide +kernel
theorem dX3_addLeaves_0 : decode cX3_addLeaves 0 = .ok (.aload_n 0, 1) := by decide +kernel
theorem dX3_addLeaves_1 : decode cX3_addLeaves 1 = .ok (.iconst 2, 1) := by decide +kernel
theorem dX3_addLeaves_2 : decode cX3_addLeaves 2 = .ok (.iload_n 1, 1) := by decide +kernel
theorem dX3_addLeaves_3 : decode cX3_addLeaves 3 = .ok (.iconst 0, 1) := by decide +kernel
theorem dX3_addLeaves_4 : decode cX3_addLeaves 4 = .ok (.invokevirtual 54, 3) := by decide +kernel
theorem dX3_addLeaves_7 : decode cX3_addLeaves 7 = .ok (.ireturn, 1) := by decide +kernel
theorem dX3_strike_0 : decode cX3_strike 0 = .ok (.aload_n 0, 1) := by decide +kernel
theorem dX3_strike_1 : decode cX3_strike 1 = .ok (.iconst 3, 1) := by decide +kernel
theorem dX3_strike_2 : decode cX3_strike 2 = .ok (.iload_n 1, 1) := by decide +kernel
theorem dX3_strike_3 : decode cX3_strike 3 = .ok (.iload_n 2, 1) := by decide +kernel
theorem dX3_strike_4 : decode cX3_strike 4 = .ok (.invokevirtual 54, 3) := by decide +kernel
theorem dX3_strike_7 : decode cX3_strike 7 = .ok (.ireturn, 1) := by decide +kernel
theorem dX3_passYears_0 : decode cX3_passYears 0 = .ok (.aload_n 0, 1) := by decide +kernel
theorem dX3_passYears_1 : decode cX3_passYears 1 = .ok (.iconst 4, 1) := by decide +kernel
theorem dX3_passYears_2 : decode cX3_passYears 2 = .ok (.iload_n 1, 1) := by decide +kernel
theorem dX3_passYears_3 : decode cX3_passYears 3 = .ok (.iconst 0, 1) := by decide +kernel
theorem dX3_passYears_4 : decode cX3_passYears 4 = .ok (.invokevirtual 54, 3) := by decide +kernel
theorem dX3_passYears_7 : decode cX3_passYears 7 = .ok (.ireturn, 1) := by decide +kernel
theorem dX3_recall_0 : decode cX3_recall 0 = .ok (.aload_n 0, 1) := by decide +kernel
theorem dX3_recall_1 : decode cX3_recall 1 = .ok (.iconst 5, 1) := by decide +kernel
theorem dX3_recall_2 : decode cX3_recall 2 = .ok (.iload_n 1, 1) := by decide +kernel
theorem dX3_recall_3 : decode cX3_recall 3 = .ok (.iconst 0, 1) := by decide +kernel
theorem dX3_recall_4 : decode cX3_recall 4 = .ok (.invokevirtual 54, 3) := by decide +kernel
theorem dX3_recall_7 : decode cX3_recall 7 = .ok (.ireturn, 1) := by decide +kernel
theorem dX3_pay_0 : decode cX3_pay 0 = .ok (.aload_n 0, 1) := by decide +kernel
theorem dX3_pay_1 : decode cX3_pay 1 = .ok (.bipush 6, 2) := by decide +kernel
theorem dX3_pay_3 : decode cX3_pay 3 = .ok (.iload_n 1, 1) := by decide +kernel
theorem dX3_pay_4 : decode cX3_pay 4 = .ok (.iconst 0, 1) := by decide +kernel
theorem dX3_pay_5 : decode cX3_pay 5 = .ok (.invokevirtual 54, 3) := by decide +kernel
theorem dX3_pay_8 : decode cX3_pay 8 = .ok (.ireturn, 1) := by decide +kernel
theorem dX3_dieCount_0 : decode cX3_dieCount 0 = .ok (.aload_n 0, 1) := by decide +kernel
theorem dX3_dieCount_1 : decode cX3_dieCount 1 = .ok (.getfield 10, 3) := by decide +kernel
theorem dX3_dieCount_4 : decode cX3_dieCount 4 = .ok (.getfield 58, 3) := by decide +kernel
theorem dX3_dieCount_7 : decode cX3_dieCount 7 = .ok (.ireturn, 1) := by decide +kernel
theorem dX3_dieValue_0 : decode cX3_dieValue 0 = .ok (.aload_n 0, 1) := by decide +kernel
theorem dX3_dieValue_1 : decode cX3_dieValue 1 = .ok (.iload_n 1, 1) := by decide +kernel
theorem dX3_dieValue_2 : decode cX3_dieValue 2 = .ok (.invokevirtual 61, 3) := by decide +kernel
theorem dX3_dieValue_5 : decode cX3_dieValue 5 = .ok (.aload_n 0, 1) := by decide +kernel
theorem dX3_dieValue_6 : decode cX3_dieValue 6 = .ok (.getfield 10, 3) := by decide +kernel
theorem dX3_dieValue_9 : decode cX3_dieValue 9 = .ok (.getfield 65, 3) := by decide +kernel
theorem dX3_dieValue_12 : decode cX3_dieValue 12 = .ok (.iload_n 1, 1) := by decide +kernel
theorem dX3_dieValue_13 : decode cX3_dieValue 13 = .ok (.iaload, 1) := by decide +kernel
theorem dX3_dieValue_14 : decode cX3_dieValue 14 = .ok (.ireturn, 1) := by decide +kernel
theorem dX3_coinWeight_0 : decode cX3_coinWeight 0 = .ok (.aload_n 0, 1) := by decide +kernel
theorem dX3_coinWeight_1 : decode cX3_coinWeight 1 = .ok (.iload_n 1, 1) := by decide +kernel
theorem dX3_coinWeight_2 : decode cX3_coinWeight 2 = .ok (.invokevirtual 61, 3) := by decide +kernel
theorem dX3_coinWeight_5 : decode cX3_coinWeight 5 = .ok (.aload_n 0, 1) := by decide +kernel
theorem dX3_coinWeight_6 : decode cX3_coinWeight 6 = .ok (.getfield 10, 3) := by decide +kernel
theorem dX3_coinWeight_9 : decode cX3_coinWeight 9 = .ok (.getfield 69, 3) := by decide +kernel
theorem dX3_coinWeight_12 : decode cX3_coinWeight 12 = .ok (.iload_n 1, 1) := by decide +kernel
theorem dX3_coinWeight_13 : decode cX3_coinWeight 13 = .ok (.iaload, 1) := by decide +kernel
theorem dX3_coinWeight_14 : decode cX3_coinWeight 14 = .ok (.ireturn, 1) := by decide +kernel
theorem dX3_wear_0 : decode cX3_wear 0 = .ok (.aload_n 0, 1) := by decide +kernel
theorem dX3_wear_1 : decode cX3_wear 1 = .ok (.iload_n 1, 1) := by decide +kernel
theorem dX3_wear_2 : decode cX3_wear 2 = .ok (.invokevirtual 61, 3) := by decide +kernel
theorem dX3_wear_5 : decode cX3_wear 5 = .ok (.aload_n 0, 1) := by decide +kernel
theorem dX3_wear_6 : decode cX3_wear 6 = .ok (.getfield 10, 3) := by decide +kernel
theorem dX3_wear_9 : decode cX3_wear 9 = .ok (.getfield 72, 3) := by decide +kernel
theorem dX3_wear_12 : decode cX3_wear 12 = .ok (.iload_n 1, 1) := by decide +kernel
theorem dX3_wear_13 : decode cX3_wear 13 = .ok (.iaload, 1) := by decide +kernel
theorem dX3_wear_14 : decode cX3_wear 14 = .ok (.ireturn, 1) := by decide +kernel
theorem dX3_nextGrade_0 : decode cX3_nextGrade 0 = .ok (.aload_n 0, 1) := by decide +kernel
theorem dX3_nextGrade_1 : decode cX3_nextGrade 1 = .ok (.iload_n 1, 1) := by decide +kernel
theorem dX3_nextGrade_2 : decode cX3_nextGrade 2 = .ok (.invokevirtual 61, 3) := by decide +kernel
theorem dX3_nextGrade_5 : decode cX3_nextGrade 5 = .ok (.aload_n 0, 1) := by decide +kernel
theorem dX3_nextGrade_6 : decode cX3_nextGrade 6 = .ok (.getfield 10, 3) := by decide +kernel
theorem dX3_nextGrade_9 : decode cX3_nextGrade 9 = .ok (.getfield 72, 3) := by decide +kernel
theorem dX3_nextGrade_12 : decode cX3_nextGrade 12 = .ok (.iload_n 1, 1) := by decide +kernel
theorem dX3_nextGrade_13 : decode cX3_nextGrade 13 = .ok (.iaload, 1) := by decide +kernel
theorem dX3_nextGrade_14 : decode cX3_nextGrade 14 = .ok (.bipush 30, 2) := by decide +kernel
theorem dX3_nextGrade_16 : decode cX3_nextGrade 16 = .ok (.if_icmp .lt 13, 3) := by decide +kernel
theorem dX3_nextGrade_19 : decode cX3_nextGrade 19 = .ok (.new 75, 3) := by decide +kernel
theorem dX3_nextGrade_22 : decode cX3_nextGrade 22 = .ok (.dup, 1) := by decide +kernel
theorem dX3_nextGrade_23 : decode cX3_nextGrade 23 = .ok (.ldc 77, 2) := by decide +kernel
theorem dX3_nextGrade_25 : decode cX3_nextGrade 25 = .ok (.invokespecial 79, 3) := by decide +kernel
theorem dX3_nextGrade_28 : decode cX3_nextGrade 28 = .ok (.athrow, 1) := by decide +kernel
theorem dX3_nextGrade_29 : decode cX3_nextGrade 29 = .ok (.bipush 65, 2) := by decide +kernel
theorem dX3_nextGrade_31 : decode cX3_nextGrade 31 = .ok (.aload_n 0, 1) := by decide +kernel
theorem dX3_nextGrade_32 : decode cX3_nextGrade 32 = .ok (.getfield 10, 3) := by decide +kernel
theorem dX3_nextGrade_35 : decode cX3_nextGrade 35 = .ok (.getfield 72, 3) := by decide +kernel
theorem dX3_nextGrade_38 : decode cX3_nextGrade 38 = .ok (.iload_n 1, 1) := by decide +kernel
theorem dX3_nextGrade_39 : decode cX3_nextGrade 39 = .ok (.iaload, 1) := by decide +kernel
theorem dX3_nextGrade_40 : decode cX3_nextGrade 40 = .ok (.invokestatic 82, 3) := by decide +kernel
theorem dX3_nextGrade_43 : decode cX3_nextGrade 43 = .ok (.iadd, 1) := by decide +kernel
theorem dX3_nextGrade_44 : decode cX3_nextGrade 44 = .ok (.i2c, 1) := by decide +kernel
theorem dX3_nextGrade_45 : decode cX3_nextGrade 45 = .ok (.ireturn, 1) := by decide +kernel
theorem dX3_dieByWear_0 : decode cX3_dieByWear 0 = .ok (.iconst 0, 1) := by decide +kernel
theorem dX3_dieByWear_1 : decode cX3_dieByWear 1 = .ok (.istore_n 2, 1) := by decide +kernel
theorem dX3_dieByWear_2 : decode cX3_dieByWear 2 = .ok (.iload_n 2, 1) := by decide +kernel
theorem dX3_dieByWear_3 : decode cX3_dieByWear 3 = .ok (.aload_n 0, 1) := by decide +kernel
theorem dX3_dieByWear_4 : decode cX3_dieByWear 4 = .ok (.getfield 10, 3) := by decide +kernel
theorem dX3_dieByWear_7 : decode cX3_dieByWear 7 = .ok (.getfield 58, 3) := by decide +kernel
theorem dX3_dieByWear_10 : decode cX3_dieByWear 10 = .ok (.if_icmp .ge 23, 3) := by decide +kernel
theorem dX3_dieByWear_13 : decode cX3_dieByWear 13 = .ok (.aload_n 0, 1) := by decide +kernel
theorem dX3_dieByWear_14 : decode cX3_dieByWear 14 = .ok (.getfield 10, 3) := by decide +kernel
theorem dX3_dieByWear_17 : decode cX3_dieByWear 17 = .ok (.iload_n 2, 1) := by decide +kernel
theorem dX3_dieByWear_18 : decode cX3_dieByWear 18 = .ok (.invokevirtual 86, 3) := by decide +kernel
theorem dX3_dieByWear_21 : decode cX3_dieByWear 21 = .ok (.iload_n 1, 1) := by decide +kernel
theorem dX3_dieByWear_22 : decode cX3_dieByWear 22 = .ok (.if_icmp .ne 5, 3) := by decide +kernel
theorem dX3_dieByWear_25 : decode cX3_dieByWear 25 = .ok (.iload_n 2, 1) := by decide +kernel
theorem dX3_dieByWear_26 : decode cX3_dieByWear 26 = .ok (.ireturn, 1) := by decide +kernel
theorem dX3_dieByWear_27 : decode cX3_dieByWear 27 = .ok (.iinc 2 1, 3) := by decide +kernel
theorem dX3_dieByWear_30 : decode cX3_dieByWear 30 = .ok (.goto (-28), 3) := by decide +kernel
theorem dX3_dieByWear_33 : decode cX3_dieByWear 33 = .ok (.new 89, 3) := by decide +kernel
theorem dX3_dieByWear_36 : decode cX3_dieByWear 36 = .ok (.dup, 1) := by decide +kernel
theorem dX3_dieByWear_37 : decode cX3_dieByWear 37 = .ok (.ldc 91, 2) := by decide +kernel
theorem dX3_dieByWear_39 : decode cX3_dieByWear 39 = .ok (.invokespecial 93, 3) := by decide +kernel
theorem dX3_dieByWear_42 : decode cX3_dieByWear 42 = .ok (.athrow, 1) := by decide +kernel
theorem dX3_leaves_0 : decode cX3_leaves 0 = .ok (.aload_n 0, 1) := by decide +kernel
theorem dX3_leaves_1 : decode cX3_leaves 1 = .ok (.getfield 10, 3) := by decide +kernel
theorem dX3_leaves_4 : decode cX3_leaves 4 = .ok (.getfield 94, 3) := by decide +kernel
theorem dX3_leaves_7 : decode cX3_leaves 7 = .ok (.ireturn, 1) := by decide +kernel
theorem dX3_year_0 : decode cX3_year 0 = .ok (.aload_n 0, 1) := by decide +kernel
theorem dX3_year_1 : decode cX3_year 1 = .ok (.getfield 10, 3) := by decide +kernel
theorem dX3_year_4 : decode cX3_year 4 = .ok (.getfield 97, 3) := by decide +kernel
theorem dX3_year_7 : decode cX3_year 7 = .ok (.ireturn, 1) := by decide +kernel
theorem dX3_vaultCoins_0 : decode cX3_vaultCoins 0 = .ok (.aload_n 0, 1) := by decide +kernel
theorem dX3_vaultCoins_1 : decode cX3_vaultCoins 1 = .ok (.getfield 10, 3) := by decide +kernel
theorem dX3_vaultCoins_4 : decode cX3_vaultCoins 4 = .ok (.getfield 100, 3) := by decide +kernel
theorem dX3_vaultCoins_7 : decode cX3_vaultCoins 7 = .ok (.ireturn, 1) := by decide +kernel
theorem dX3_vaultValue_0 : decode cX3_vaultValue 0 = .ok (.iconst 0, 1) := by decide +kernel
theorem dX3_vaultValue_1 : decode cX3_vaultValue 1 = .ok (.istore_n 1, 1) := by decide +kernel
theorem dX3_vaultValue_2 : decode cX3_vaultValue 2 = .ok (.iconst 0, 1) := by decide +kernel
theorem dX3_vaultValue_3 : decode cX3_vaultValue 3 = .ok (.istore_n 2, 1) := by decide +kernel
theorem dX3_vaultValue_4 : decode cX3_vaultValue 4 = .ok (.iload_n 2, 1) := by decide +kernel
theorem dX3_vaultValue_5 : decode cX3_vaultValue 5 = .ok (.aload_n 0, 1) := by decide +kernel
theorem dX3_vaultValue_6 : decode cX3_vaultValue 6 = .ok (.getfield 10, 3) := by decide +kernel
theorem dX3_vaultValue_9 : decode cX3_vaultValue 9 = .ok (.getfield 100, 3) := by decide +kernel
theorem dX3_vaultValue_12 : decode cX3_vaultValue 12 = .ok (.if_icmp .ge 29, 3) := by decide +kernel
theorem dX3_vaultValue_15 : decode cX3_vaultValue 15 = .ok (.iload_n 1, 1) := by decide +kernel
theorem dX3_vaultValue_16 : decode cX3_vaultValue 16 = .ok (.aload_n 0, 1) := by decide +kernel
theorem dX3_vaultValue_17 : decode cX3_vaultValue 17 = .ok (.getfield 10, 3) := by decide +kernel
theorem dX3_vaultValue_20 : decode cX3_vaultValue 20 = .ok (.getfield 65, 3) := by decide +kernel
theorem dX3_vaultValue_23 : decode cX3_vaultValue 23 = .ok (.aload_n 0, 1) := by decide +kernel
theorem dX3_vaultValue_24 : decode cX3_vaultValue 24 = .ok (.getfield 10, 3) := by decide +kernel
theorem dX3_vaultValue_27 : decode cX3_vaultValue 27 = .ok (.getfield 103, 3) := by decide +kernel
theorem dX3_vaultValue_30 : decode cX3_vaultValue 30 = .ok (.iload_n 2, 1) := by decide +kernel
theorem dX3_vaultValue_31 : decode cX3_vaultValue 31 = .ok (.iaload, 1) := by decide +kernel
theorem dX3_vaultValue_32 : decode cX3_vaultValue 32 = .ok (.iaload, 1) := by decide +kernel
theorem dX3_vaultValue_33 : decode cX3_vaultValue 33 = .ok (.iadd, 1) := by decide +kernel
theorem dX3_vaultValue_34 : decode cX3_vaultValue 34 = .ok (.istore_n 1, 1) := by decide +kernel
theorem dX3_vaultValue_35 : decode cX3_vaultValue 35 = .ok (.iinc 2 1, 3) := by decide +kernel
theorem dX3_vaultValue_38 : decode cX3_vaultValue 38 = .ok (.goto (-34), 3) := by decide +kernel
theorem dX3_vaultValue_41 : decode cX3_vaultValue 41 = .ok (.iload_n 1, 1) := by decide +kernel
theorem dX3_vaultValue_42 : decode cX3_vaultValue 42 = .ok (.ireturn, 1) := by decide +kernel
theorem dX3_vaultValueByDies_0 : decode cX3_vaultValueByDies 0 = .ok (.iconst 0, 1) := by decide +kernel
theorem dX3_vaultValueByDies_1 : decode cX3_vaultValueByDies 1 = .ok (.istore_n 1, 1) := by decide +kernel
theorem dX3_vaultValueByDies_2 : decode cX3_vaultValueByDies 2 = .ok (.iconst 0, 1) := by decide +kernel
theorem dX3_vaultValueByDies_3 : decode cX3_vaultValueByDies 3 = .ok (.istore_n 2, 1) := by decide +kernel
theorem dX3_vaultValueByDies_4 : decode cX3_vaultValueByDies 4 = .ok (.iload_n 2, 1) := by decide +kernel
theorem dX3_vaultValueByDies_5 : decode cX3_vaultValueByDies 5 = .ok (.aload_n 0, 1) := by decide +kernel
theorem dX3_vaultValueByDies_6 : decode cX3_vaultValueByDies 6 = .ok (.getfield 10, 3) := by decide +kernel
theorem dX3_vaultValueByDies_9 : decode cX3_vaultValueByDies 9 = .ok (.getfield 58, 3) := by decide +kernel
theorem dX3_vaultValueByDies_12 : decode cX3_vaultValueByDies 12 = .ok (.if_icmp .ge 30, 3) := by decide +kernel
theorem dX3_vaultValueByDies_15 : decode cX3_vaultValueByDies 15 = .ok (.iload_n 1, 1) := by decide +kernel
theorem dX3_vaultValueByDies_16 : decode cX3_vaultValueByDies 16 = .ok (.aload_n 0, 1) := by decide +kernel
theorem dX3_vaultValueByDies_17 : decode cX3_vaultValueByDies 17 = .ok (.getfield 10, 3) := by decide +kernel
theorem dX3_vaultValueByDies_20 : decode cX3_vaultValueByDies 20 = .ok (.getfield 65, 3) := by decide +kernel
theorem dX3_vaultValueByDies_23 : decode cX3_vaultValueByDies 23 = .ok (.iload_n 2, 1) := by decide +kernel
theorem dX3_vaultValueByDies_24 : decode cX3_vaultValueByDies 24 = .ok (.iaload, 1) := by decide +kernel
theorem dX3_vaultValueByDies_25 : decode cX3_vaultValueByDies 25 = .ok (.aload_n 0, 1) := by decide +kernel
theorem dX3_vaultValueByDies_26 : decode cX3_vaultValueByDies 26 = .ok (.getfield 10, 3) := by decide +kernel
theorem dX3_vaultValueByDies_29 : decode cX3_vaultValueByDies 29 = .ok (.iload_n 2, 1) := by decide +kernel
theorem dX3_vaultValueByDies_30 : decode cX3_vaultValueByDies 30 = .ok (.invokevirtual 106, 3) := by decide +kernel
theorem dX3_vaultValueByDies_33 : decode cX3_vaultValueByDies 33 = .ok (.imul, 1) := by decide +kernel
theorem dX3_vaultValueByDies_34 : decode cX3_vaultValueByDies 34 = .ok (.iadd, 1) := by decide +kernel
theorem dX3_vaultValueByDies_35 : decode cX3_vaultValueByDies 35 = .ok (.istore_n 1, 1) := by decide +kernel
theorem dX3_vaultValueByDies_36 : decode cX3_vaultValueByDies 36 = .ok (.iinc 2 1, 3) := by decide +kernel
theorem dX3_vaultValueByDies_39 : decode cX3_vaultValueByDies 39 = .ok (.goto (-35), 3) := by decide +kernel
theorem dX3_vaultValueByDies_42 : decode cX3_vaultValueByDies 42 = .ok (.iload_n 1, 1) := by decide +kernel
theorem dX3_vaultValueByDies_43 : decode cX3_vaultValueByDies 43 = .ok (.ireturn, 1) := by decide +kernel
theorem dX3_vaultWeight_0 : decode cX3_vaultWeight 0 = .ok (.aload_n 0, 1) := by decide +kernel
theorem dX3_vaultWeight_1 : decode cX3_vaultWeight 1 = .ok (.getfield 10, 3) := by decide +kernel
theorem dX3_vaultWeight_4 : decode cX3_vaultWeight 4 = .ok (.invokevirtual 109, 3) := by decide +kernel
theorem dX3_vaultWeight_7 : decode cX3_vaultWeight 7 = .ok (.ireturn, 1) := by decide +kernel
theorem dX3_coinsOfValue_0 : decode cX3_coinsOfValue 0 = .ok (.aload_n 0, 1) := by decide +kernel
theorem dX3_coinsOfValue_1 : decode cX3_coinsOfValue 1 = .ok (.getfield 10, 3) := by decide +kernel
theorem dX3_coinsOfValue_4 : decode cX3_coinsOfValue 4 = .ok (.aload_n 0, 1) := by decide +kernel
theorem dX3_coinsOfValue_5 : decode cX3_coinsOfValue 5 = .ok (.iload_n 1, 1) := by decide +kernel
theorem dX3_coinsOfValue_6 : decode cX3_coinsOfValue 6 = .ok (.invokevirtual 113, 3) := by decide +kernel
theorem dX3_coinsOfValue_9 : decode cX3_coinsOfValue 9 = .ok (.invokevirtual 106, 3) := by decide +kernel
theorem dX3_coinsOfValue_12 : decode cX3_coinsOfValue 12 = .ok (.ireturn, 1) := by decide +kernel
theorem dX3_coinsOfYear_0 : decode cX3_coinsOfYear 0 = .ok (.aload_n 0, 1) := by decide +kernel
theorem dX3_coinsOfYear_1 : decode cX3_coinsOfYear 1 = .ok (.getfield 10, 3) := by decide +kernel
theorem dX3_coinsOfYear_4 : decode cX3_coinsOfYear 4 = .ok (.iload_n 1, 1) := by decide +kernel
theorem dX3_coinsOfYear_5 : decode cX3_coinsOfYear 5 = .ok (.invokevirtual 116, 3) := by decide +kernel
theorem dX3_coinsOfYear_8 : decode cX3_coinsOfYear 8 = .ok (.ireturn, 1) := by decide +kernel
theorem dX3_coinsOfGrade_0 : decode cX3_coinsOfGrade 0 = .ok (.aload_n 0, 1) := by decide +kernel
theorem dX3_coinsOfGrade_1 : decode cX3_coinsOfGrade 1 = .ok (.getfield 10, 3) := by decide +kernel
theorem dX3_coinsOfGrade_4 : decode cX3_coinsOfGrade 4 = .ok (.iload_n 1, 1) := by decide +kernel
theorem dX3_coinsOfGrade_5 : decode cX3_coinsOfGrade 5 = .ok (.invokestatic 119, 3) := by decide +kernel
theorem dX3_coinsOfGrade_8 : decode cX3_coinsOfGrade 8 = .ok (.invokevirtual 123, 3) := by decide +kernel
theorem dX3_coinsOfGrade_11 : decode cX3_coinsOfGrade 11 = .ok (.ireturn, 1) := by decide +kernel
theorem dX3_kinds_0 : decode cX3_kinds 0 = .ok (.iconst 0, 1) := by decide +kernel
theorem dX3_kinds_1 : decode cX3_kinds 1 = .ok (.istore_n 1, 1) := by decide +kernel
theorem dX3_kinds_2 : decode cX3_kinds 2 = .ok (.iconst 0, 1) := by decide +kernel
theorem dX3_kinds_3 : decode cX3_kinds 3 = .ok (.istore_n 2, 1) := by decide +kernel
theorem dX3_kinds_4 : decode cX3_kinds 4 = .ok (.iload_n 2, 1) := by decide +kernel
theorem dX3_kinds_5 : decode cX3_kinds 5 = .ok (.aload_n 0, 1) := by decide +kernel
theorem dX3_kinds_6 : decode cX3_kinds 6 = .ok (.getfield 10, 3) := by decide +kernel
theorem dX3_kinds_9 : decode cX3_kinds 9 = .ok (.getfield 100, 3) := by decide +kernel
theorem dX3_kinds_12 : decode cX3_kinds 12 = .ok (.if_icmp .ge 23, 3) := by decide +kernel
theorem dX3_kinds_15 : decode cX3_kinds 15 = .ok (.aload_n 0, 1) := by decide +kernel
theorem dX3_kinds_16 : decode cX3_kinds 16 = .ok (.getfield 10, 3) := by decide +kernel
theorem dX3_kinds_19 : decode cX3_kinds 19 = .ok (.iload_n 2, 1) := by decide +kernel
theorem dX3_kinds_20 : decode cX3_kinds 20 = .ok (.invokevirtual 126, 3) := by decide +kernel
theorem dX3_kinds_23 : decode cX3_kinds 23 = .ok (.ifCond .eq 6, 3) := by decide +kernel
theorem dX3_kinds_26 : decode cX3_kinds 26 = .ok (.iinc 1 1, 3) := by decide +kernel
theorem dX3_kinds_29 : decode cX3_kinds 29 = .ok (.iinc 2 1, 3) := by decide +kernel
theorem dX3_kinds_32 : decode cX3_kinds 32 = .ok (.goto (-28), 3) := by decide +kernel
theorem dX3_kinds_35 : decode cX3_kinds 35 = .ok (.iload_n 1, 1) := by decide +kernel
theorem dX3_kinds_36 : decode cX3_kinds 36 = .ok (.ireturn, 1) := by decide +kernel
theorem dX3_canPay_0 : decode cX3_canPay 0 = .ok (.iload_n 1, 1) := by decide +kernel
theorem dX3_canPay_1 : decode cX3_canPay 1 = .ok (.invokestatic 130, 3) := by decide +kernel
theorem dX3_canPay_4 : decode cX3_canPay 4 = .ok (.aload_n 0, 1) := by decide +kernel
theorem dX3_canPay_5 : decode cX3_canPay 5 = .ok (.getfield 29, 3) := by decide +kernel
theorem dX3_canPay_8 : decode cX3_canPay 8 = .ok (.aload_n 0, 1) := by decide +kernel
theorem dX3_canPay_9 : decode cX3_canPay 9 = .ok (.getfield 10, 3) := by decide +kernel
theorem dX3_canPay_12 : decode cX3_canPay 12 = .ok (.invokevirtual 133, 3) := by decide +kernel
theorem dX3_canPay_15 : decode cX3_canPay 15 = .ok (.aload_n 0, 1) := by decide +kernel
theorem dX3_canPay_16 : decode cX3_canPay 16 = .ok (.getfield 29, 3) := by decide +kernel
theorem dX3_canPay_19 : decode cX3_canPay 19 = .ok (.iload_n 1, 1) := by decide +kernel
theorem dX3_canPay_20 : decode cX3_canPay 20 = .ok (.invokevirtual 137, 3) := by decide +kernel
theorem dX3_canPay_23 : decode cX3_canPay 23 = .ok (.sipush 1000, 3) := by decide +kernel
theorem dX3_canPay_26 : decode cX3_canPay 26 = .ok (.if_icmp .eq 7, 3) := by decide +kernel
theorem dX3_canPay_29 : decode cX3_canPay 29 = .ok (.iconst 1, 1) := by decide +kernel
theorem dX3_canPay_30 : decode cX3_canPay 30 = .ok (.goto 4, 3) := by decide +kernel
theorem dX3_canPay_33 : decode cX3_canPay 33 = .ok (.iconst 0, 1) := by decide +kernel
theorem dX3_canPay_34 : decode cX3_canPay 34 = .ok (.ireturn, 1) := by decide +kernel
theorem dX3_fewestCoins_0 : decode cX3_fewestCoins 0 = .ok (.iload_n 1, 1) := by decide +kernel
theorem dX3_fewestCoins_1 : decode cX3_fewestCoins 1 = .ok (.invokestatic 130, 3) := by decide +kernel
theorem dX3_fewestCoins_4 : decode cX3_fewestCoins 4 = .ok (.aload_n 0, 1) := by decide +kernel
theorem dX3_fewestCoins_5 : decode cX3_fewestCoins 5 = .ok (.getfield 29, 3) := by decide +kernel
theorem dX3_fewestCoins_8 : decode cX3_fewestCoins 8 = .ok (.aload_n 0, 1) := by decide +kernel
theorem dX3_fewestCoins_9 : decode cX3_fewestCoins 9 = .ok (.getfield 10, 3) := by decide +kernel
theorem dX3_fewestCoins_12 : decode cX3_fewestCoins 12 = .ok (.invokevirtual 133, 3) := by decide +kernel
theorem dX3_fewestCoins_15 : decode cX3_fewestCoins 15 = .ok (.aload_n 0, 1) := by decide +kernel
theorem dX3_fewestCoins_16 : decode cX3_fewestCoins 16 = .ok (.getfield 29, 3) := by decide +kernel
theorem dX3_fewestCoins_19 : decode cX3_fewestCoins 19 = .ok (.iload_n 1, 1) := by decide +kernel
theorem dX3_fewestCoins_20 : decode cX3_fewestCoins 20 = .ok (.invokevirtual 137, 3) := by decide +kernel
theorem dX3_fewestCoins_23 : decode cX3_fewestCoins 23 = .ok (.invokestatic 140, 3) := by decide +kernel
theorem dX3_fewestCoins_26 : decode cX3_fewestCoins 26 = .ok (.ireturn, 1) := by decide +kernel
theorem dX3_fewestCoinsBySets_0 : decode cX3_fewestCoinsBySets 0 = .ok (.iload_n 1, 1) := by decide +kernel
theorem dX3_fewestCoinsBySets_1 : decode cX3_fewestCoinsBySets 1 = .ok (.invokestatic 130, 3) := by decide +kernel
theorem dX3_fewestCoinsBySets_4 : decode cX3_fewestCoinsBySets 4 = .ok (.aload_n 0, 1) := by decide +kernel
theorem dX3_fewestCoinsBySets_5 : decode cX3_fewestCoinsBySets 5 = .ok (.getfield 29, 3) := by decide +kernel
theorem dX3_fewestCoinsBySets_8 : decode cX3_fewestCoinsBySets 8 = .ok (.aload_n 0, 1) := by decide +kernel
theorem dX3_fewestCoinsBySets_9 : decode cX3_fewestCoinsBySets 9 = .ok (.getfield 10, 3) := by decide +kernel
theorem dX3_fewestCoinsBySets_12 : decode cX3_fewestCoinsBySets 12 = .ok (.invokevirtual 143, 3) := by decide +kernel
theorem dX3_fewestCoinsBySets_15 : decode cX3_fewestCoinsBySets 15 = .ok (.aload_n 0, 1) := by decide +kernel
theorem dX3_fewestCoinsBySets_16 : decode cX3_fewestCoinsBySets 16 = .ok (.getfield 29, 3) := by decide +kernel
theorem dX3_fewestCoinsBySets_19 : decode cX3_fewestCoinsBySets 19 = .ok (.iload_n 1, 1) := by decide +kernel
theorem dX3_fewestCoinsBySets_20 : decode cX3_fewestCoinsBySets 20 = .ok (.invokevirtual 146, 3) := by decide +kernel
theorem dX3_fewestCoinsBySets_23 : decode cX3_fewestCoinsBySets 23 = .ok (.invokestatic 140, 3) := by decide +kernel
theorem dX3_fewestCoinsBySets_26 : decode cX3_fewestCoinsBySets 26 = .ok (.ireturn, 1) := by decide +kernel
theorem dX3_greedyCoins_0 : decode cX3_greedyCoins 0 = .ok (.iload_n 1, 1) := by decide +kernel
theorem dX3_greedyCoins_1 : decode cX3_greedyCoins 1 = .ok (.invokestatic 130, 3) := by decide +kernel
theorem dX3_greedyCoins_4 : decode cX3_greedyCoins 4 = .ok (.aload_n 0, 1) := by decide +kernel
theorem dX3_greedyCoins_5 : decode cX3_greedyCoins 5 = .ok (.getfield 29, 3) := by decide +kernel
theorem dX3_greedyCoins_8 : decode cX3_greedyCoins 8 = .ok (.aload_n 0, 1) := by decide +kernel
theorem dX3_greedyCoins_9 : decode cX3_greedyCoins 9 = .ok (.getfield 10, 3) := by decide +kernel
theorem dX3_greedyCoins_12 : decode cX3_greedyCoins 12 = .ok (.iload_n 1, 1) := by decide +kernel
theorem dX3_greedyCoins_13 : decode cX3_greedyCoins 13 = .ok (.invokevirtual 149, 3) := by decide +kernel
theorem dX3_greedyCoins_16 : decode cX3_greedyCoins 16 = .ok (.invokestatic 140, 3) := by decide +kernel
theorem dX3_greedyCoins_19 : decode cX3_greedyCoins 19 = .ok (.ireturn, 1) := by decide +kernel
theorem dX3_coinsUsed_0 : decode cX3_coinsUsed 0 = .ok (.iload_n 1, 1) := by decide +kernel
theorem dX3_coinsUsed_1 : decode cX3_coinsUsed 1 = .ok (.invokestatic 130, 3) := by decide +kernel
theorem dX3_coinsUsed_4 : decode cX3_coinsUsed 4 = .ok (.aload_n 0, 1) := by decide +kernel
theorem dX3_coinsUsed_5 : decode cX3_coinsUsed 5 = .ok (.iload_n 2, 1) := by decide +kernel
theorem dX3_coinsUsed_6 : decode cX3_coinsUsed 6 = .ok (.invokevirtual 113, 3) := by decide +kernel
theorem dX3_coinsUsed_9 : decode cX3_coinsUsed 9 = .ok (.istore_n 3, 1) := by decide +kernel
theorem dX3_coinsUsed_10 : decode cX3_coinsUsed 10 = .ok (.aload_n 0, 1) := by decide +kernel
theorem dX3_coinsUsed_11 : decode cX3_coinsUsed 11 = .ok (.getfield 29, 3) := by decide +kernel
theorem dX3_coinsUsed_14 : decode cX3_coinsUsed 14 = .ok (.aload_n 0, 1) := by decide +kernel
theorem dX3_coinsUsed_15 : decode cX3_coinsUsed 15 = .ok (.getfield 10, 3) := by decide +kernel
theorem dX3_coinsUsed_18 : decode cX3_coinsUsed 18 = .ok (.iload_n 1, 1) := by decide +kernel
theorem dX3_coinsUsed_19 : decode cX3_coinsUsed 19 = .ok (.invokevirtual 153, 3) := by decide +kernel
theorem dX3_coinsUsed_22 : decode cX3_coinsUsed 22 = .ok (.ifCond .ne 13, 3) := by decide +kernel
theorem dX3_coinsUsed_25 : decode cX3_coinsUsed 25 = .ok (.new 157, 3) := by decide +kernel
theorem dX3_coinsUsed_28 : decode cX3_coinsUsed 28 = .ok (.dup, 1) := by decide +kernel
theorem dX3_coinsUsed_29 : decode cX3_coinsUsed 29 = .ok (.ldc 159, 2) := by decide +kernel
theorem dX3_coinsUsed_31 : decode cX3_coinsUsed 31 = .ok (.invokespecial 161, 3) := by decide +kernel
theorem dX3_coinsUsed_34 : decode cX3_coinsUsed 34 = .ok (.athrow, 1) := by decide +kernel
theorem dX3_coinsUsed_35 : decode cX3_coinsUsed 35 = .ok (.aload_n 0, 1) := by decide +kernel
theorem dX3_coinsUsed_36 : decode cX3_coinsUsed 36 = .ok (.getfield 29, 3) := by decide +kernel
theorem dX3_coinsUsed_39 : decode cX3_coinsUsed 39 = .ok (.getfield 162, 3) := by decide +kernel
theorem dX3_coinsUsed_42 : decode cX3_coinsUsed 42 = .ok (.iload_n 3, 1) := by decide +kernel
theorem dX3_coinsUsed_43 : decode cX3_coinsUsed 43 = .ok (.iaload, 1) := by decide +kernel
theorem dX3_coinsUsed_44 : decode cX3_coinsUsed 44 = .ok (.ireturn, 1) := by decide +kernel
theorem dX3_payableAmounts_0 : decode cX3_payableAmounts 0 = .ok (.aload_n 0, 1) := by decide +kernel
theorem dX3_payableAmounts_1 : decode cX3_payableAmounts 1 = .ok (.getfield 29, 3) := by decide +kernel
theorem dX3_payableAmounts_4 : decode cX3_payableAmounts 4 = .ok (.aload_n 0, 1) := by decide +kernel
theorem dX3_payableAmounts_5 : decode cX3_payableAmounts 5 = .ok (.getfield 10, 3) := by decide +kernel
theorem dX3_payableAmounts_8 : decode cX3_payableAmounts 8 = .ok (.invokevirtual 133, 3) := by decide +kernel
theorem dX3_payableAmounts_11 : decode cX3_payableAmounts 11 = .ok (.iconst 0, 1) := by decide +kernel
theorem dX3_payableAmounts_12 : decode cX3_payableAmounts 12 = .ok (.istore_n 1, 1) := by decide +kernel
theorem dX3_payableAmounts_13 : decode cX3_payableAmounts 13 = .ok (.iconst 1, 1) := by decide +kernel
theorem dX3_payableAmounts_14 : decode cX3_payableAmounts 14 = .ok (.istore_n 2, 1) := by decide +kernel
theorem dX3_payableAmounts_15 : decode cX3_payableAmounts 15 = .ok (.iload_n 2, 1) := by decide +kernel
theorem dX3_payableAmounts_16 : decode cX3_payableAmounts 16 = .ok (.bipush 99, 2) := by decide +kernel
theorem dX3_payableAmounts_18 : decode cX3_payableAmounts 18 = .ok (.if_icmp .gt 26, 3) := by decide +kernel
theorem dX3_payableAmounts_21 : decode cX3_payableAmounts 21 = .ok (.aload_n 0, 1) := by decide +kernel
theorem dX3_payableAmounts_22 : decode cX3_payableAmounts 22 = .ok (.getfield 29, 3) := by decide +kernel
theorem dX3_payableAmounts_25 : decode cX3_payableAmounts 25 = .ok (.iload_n 2, 1) := by decide +kernel
theorem dX3_payableAmounts_26 : decode cX3_payableAmounts 26 = .ok (.invokevirtual 137, 3) := by decide +kernel
theorem dX3_payableAmounts_29 : decode cX3_payableAmounts 29 = .ok (.sipush 1000, 3) := by decide +kernel
theorem dX3_payableAmounts_32 : decode cX3_payableAmounts 32 = .ok (.if_icmp .eq 6, 3) := by decide +kernel
theorem dX3_payableAmounts_35 : decode cX3_payableAmounts 35 = .ok (.iinc 1 1, 3) := by decide +kernel
theorem dX3_payableAmounts_38 : decode cX3_payableAmounts 38 = .ok (.iinc 2 1, 3) := by decide +kernel
theorem dX3_payableAmounts_41 : decode cX3_payableAmounts 41 = .ok (.goto (-26), 3) := by decide +kernel
theorem dX3_payableAmounts_44 : decode cX3_payableAmounts 44 = .ok (.iload_n 1, 1) := by decide +kernel
theorem dX3_payableAmounts_45 : decode cX3_payableAmounts 45 = .ok (.ireturn, 1) := by decide +kernel
theorem dX3_recallGrams_0 : decode cX3_recallGrams 0 = .ok (.aload_n 0, 1) := by decide +kernel
theorem dX3_recallGrams_1 : decode cX3_recallGrams 1 = .ok (.getfield 10, 3) := by decide +kernel
theorem dX3_recallGrams_4 : decode cX3_recallGrams 4 = .ok (.iload_n 1, 1) := by decide +kernel
theorem dX3_recallGrams_5 : decode cX3_recallGrams 5 = .ok (.invokevirtual 165, 3) := by decide +kernel
theorem dX3_recallGrams_8 : decode cX3_recallGrams 8 = .ok (.ireturn, 1) := by decide +kernel
theorem dX3_struckTotal_0 : decode cX3_struckTotal 0 = .ok (.aload_n 0, 1) := by decide +kernel
theorem dX3_struckTotal_1 : decode cX3_struckTotal 1 = .ok (.getfield 10, 3) := by decide +kernel
theorem dX3_struckTotal_4 : decode cX3_struckTotal 4 = .ok (.getfield 168, 3) := by decide +kernel
theorem dX3_struckTotal_7 : decode cX3_struckTotal 7 = .ok (.ireturn, 1) := by decide +kernel
theorem dX3_paidTotal_0 : decode cX3_paidTotal 0 = .ok (.aload_n 0, 1) := by decide +kernel
theorem dX3_paidTotal_1 : decode cX3_paidTotal 1 = .ok (.getfield 10, 3) := by decide +kernel
theorem dX3_paidTotal_4 : decode cX3_paidTotal 4 = .ok (.getfield 171, 3) := by decide +kernel
theorem dX3_paidTotal_7 : decode cX3_paidTotal 7 = .ok (.ireturn, 1) := by decide +kernel
theorem dX3_paidWeight_0 : decode cX3_paidWeight 0 = .ok (.aload_n 0, 1) := by decide +kernel
theorem dX3_paidWeight_1 : decode cX3_paidWeight 1 = .ok (.getfield 10, 3) := by decide +kernel
theorem dX3_paidWeight_4 : decode cX3_paidWeight 4 = .ok (.getfield 174, 3) := by decide +kernel
theorem dX3_paidWeight_7 : decode cX3_paidWeight 7 = .ok (.ireturn, 1) := by decide +kernel
theorem dX3_lostWeight_0 : decode cX3_lostWeight 0 = .ok (.aload_n 0, 1) := by decide +kernel
theorem dX3_lostWeight_1 : decode cX3_lostWeight 1 = .ok (.getfield 10, 3) := by decide +kernel
theorem dX3_lostWeight_4 : decode cX3_lostWeight 4 = .ok (.getfield 177, 3) := by decide +kernel
theorem dX3_lostWeight_7 : decode cX3_lostWeight 7 = .ok (.ireturn, 1) := by decide +kernel
theorem dX3_addedWeight_0 : decode cX3_addedWeight 0 = .ok (.aload_n 0, 1) := by decide +kernel
theorem dX3_addedWeight_1 : decode cX3_addedWeight 1 = .ok (.getfield 10, 3) := by decide +kernel
theorem dX3_addedWeight_4 : decode cX3_addedWeight 4 = .ok (.getfield 180, 3) := by decide +kernel
theorem dX3_addedWeight_7 : decode cX3_addedWeight 7 = .ok (.ireturn, 1) := by decide +kernel
theorem dX3_meanWear_0 : decode cX3_meanWear 0 = .ok (.aload_n 0, 1) := by decide +kernel
theorem dX3_meanWear_1 : decode cX3_meanWear 1 = .ok (.getfield 10, 3) := by decide +kernel
theorem dX3_meanWear_4 : decode cX3_meanWear 4 = .ok (.getfield 58, 3) := by decide +kernel
theorem dX3_meanWear_7 : decode cX3_meanWear 7 = .ok (.ifCond .ne 13, 3) := by decide +kernel
theorem dX3_meanWear_10 : decode cX3_meanWear 10 = .ok (.new 183, 3) := by decide +kernel
theorem dX3_meanWear_13 : decode cX3_meanWear 13 = .ok (.dup, 1) := by decide +kernel
theorem dX3_meanWear_14 : decode cX3_meanWear 14 = .ok (.ldc 185, 2) := by decide +kernel
theorem dX3_meanWear_16 : decode cX3_meanWear 16 = .ok (.invokespecial 187, 3) := by decide +kernel
theorem dX3_meanWear_19 : decode cX3_meanWear 19 = .ok (.athrow, 1) := by decide +kernel
theorem dX3_meanWear_20 : decode cX3_meanWear 20 = .ok (.iconst 0, 1) := by decide +kernel
theorem dX3_meanWear_21 : decode cX3_meanWear 21 = .ok (.istore_n 1, 1) := by decide +kernel
theorem dX3_meanWear_22 : decode cX3_meanWear 22 = .ok (.iconst 0, 1) := by decide +kernel
theorem dX3_meanWear_23 : decode cX3_meanWear 23 = .ok (.istore_n 2, 1) := by decide +kernel
theorem dX3_meanWear_24 : decode cX3_meanWear 24 = .ok (.iload_n 2, 1) := by decide +kernel
theorem dX3_meanWear_25 : decode cX3_meanWear 25 = .ok (.aload_n 0, 1) := by decide +kernel
theorem dX3_meanWear_26 : decode cX3_meanWear 26 = .ok (.getfield 10, 3) := by decide +kernel
theorem dX3_meanWear_29 : decode cX3_meanWear 29 = .ok (.getfield 58, 3) := by decide +kernel
theorem dX3_meanWear_32 : decode cX3_meanWear 32 = .ok (.if_icmp .ge 21, 3) := by decide +kernel
theorem dX3_meanWear_35 : decode cX3_meanWear 35 = .ok (.iload_n 1, 1) := by decide +kernel
theorem dX3_meanWear_36 : decode cX3_meanWear 36 = .ok (.aload_n 0, 1) := by decide +kernel
theorem dX3_meanWear_37 : decode cX3_meanWear 37 = .ok (.getfield 10, 3) := by decide +kernel
theorem dX3_meanWear_40 : decode cX3_meanWear 40 = .ok (.getfield 72, 3) := by decide +kernel
theorem dX3_meanWear_43 : decode cX3_meanWear 43 = .ok (.iload_n 2, 1) := by decide +kernel
theorem dX3_meanWear_44 : decode cX3_meanWear 44 = .ok (.iaload, 1) := by decide +kernel
theorem dX3_meanWear_45 : decode cX3_meanWear 45 = .ok (.iadd, 1) := by decide +kernel
theorem dX3_meanWear_46 : decode cX3_meanWear 46 = .ok (.istore_n 1, 1) := by decide +kernel
theorem dX3_meanWear_47 : decode cX3_meanWear 47 = .ok (.iinc 2 1, 3) := by decide +kernel
theorem dX3_meanWear_50 : decode cX3_meanWear 50 = .ok (.goto (-26), 3) := by decide +kernel
theorem dX3_meanWear_53 : decode cX3_meanWear 53 = .ok (.iload_n 1, 1) := by decide +kernel
theorem dX3_meanWear_54 : decode cX3_meanWear 54 = .ok (.i2d, 1) := by decide +kernel
theorem dX3_meanWear_55 : decode cX3_meanWear 55 = .ok (.aload_n 0, 1) := by decide +kernel
theorem dX3_meanWear_56 : decode cX3_meanWear 56 = .ok (.getfield 10, 3) := by decide +kernel
theorem dX3_meanWear_59 : decode cX3_meanWear 59 = .ok (.getfield 58, 3) := by decide +kernel
theorem dX3_meanWear_62 : decode cX3_meanWear 62 = .ok (.i2d, 1) := by decide +kernel
theorem dX3_meanWear_63 : decode cX3_meanWear 63 = .ok (.ddiv, 1) := by decide +kernel
theorem dX3_meanWear_64 : decode cX3_meanWear 64 = .ok (.dreturn, 1) := by decide +kernel
theorem dX3_gradeShare_0 : decode cX3_gradeShare 0 = .ok (.iload_n 1, 1) := by decide +kernel
theorem dX3_gradeShare_1 : decode cX3_gradeShare 1 = .ok (.invokestatic 119, 3) := by decide +kernel
theorem dX3_gradeShare_4 : decode cX3_gradeShare 4 = .ok (.istore_n 2, 1) := by decide +kernel
theorem dX3_gradeShare_5 : decode cX3_gradeShare 5 = .ok (.aload_n 0, 1) := by decide +kernel
theorem dX3_gradeShare_6 : decode cX3_gradeShare 6 = .ok (.getfield 10, 3) := by decide +kernel
theorem dX3_gradeShare_9 : decode cX3_gradeShare 9 = .ok (.getfield 100, 3) := by decide +kernel
theorem dX3_gradeShare_12 : decode cX3_gradeShare 12 = .ok (.ifCond .ne 13, 3) := by decide +kernel
theorem dX3_gradeShare_15 : decode cX3_gradeShare 15 = .ok (.new 183, 3) := by decide +kernel
theorem dX3_gradeShare_18 : decode cX3_gradeShare 18 = .ok (.dup, 1) := by decide +kernel
theorem dX3_gradeShare_19 : decode cX3_gradeShare 19 = .ok (.ldc 188, 2) := by decide +kernel
theorem dX3_gradeShare_21 : decode cX3_gradeShare 21 = .ok (.invokespecial 187, 3) := by decide +kernel
theorem dX3_gradeShare_24 : decode cX3_gradeShare 24 = .ok (.athrow, 1) := by decide +kernel
theorem dX3_gradeShare_25 : decode cX3_gradeShare 25 = .ok (.aload_n 0, 1) := by decide +kernel
theorem dX3_gradeShare_26 : decode cX3_gradeShare 26 = .ok (.getfield 10, 3) := by decide +kernel
theorem dX3_gradeShare_29 : decode cX3_gradeShare 29 = .ok (.iload_n 2, 1) := by decide +kernel
theorem dX3_gradeShare_30 : decode cX3_gradeShare 30 = .ok (.invokevirtual 123, 3) := by decide +kernel
theorem dX3_gradeShare_33 : decode cX3_gradeShare 33 = .ok (.i2f, 1) := by decide +kernel
theorem dX3_gradeShare_34 : decode cX3_gradeShare 34 = .ok (.aload_n 0, 1) := by decide +kernel
theorem dX3_gradeShare_35 : decode cX3_gradeShare 35 = .ok (.getfield 10, 3) := by decide +kernel
theorem dX3_gradeShare_38 : decode cX3_gradeShare 38 = .ok (.getfield 100, 3) := by decide +kernel
theorem dX3_gradeShare_41 : decode cX3_gradeShare 41 = .ok (.i2f, 1) := by decide +kernel
theorem dX3_gradeShare_42 : decode cX3_gradeShare 42 = .ok (.fdiv, 1) := by decide +kernel
theorem dX3_gradeShare_43 : decode cX3_gradeShare 43 = .ok (.freturn, 1) := by decide +kernel
theorem dX3_isConsistent_0 : decode cX3_isConsistent 0 = .ok (.aload_n 0, 1) := by decide +kernel
theorem dX3_isConsistent_1 : decode cX3_isConsistent 1 = .ok (.getfield 10, 3) := by decide +kernel
theorem dX3_isConsistent_4 : decode cX3_isConsistent 4 = .ok (.getfield 94, 3) := by decide +kernel
theorem dX3_isConsistent_7 : decode cX3_isConsistent 7 = .ok (.aload_n 0, 1) := by decide +kernel
theorem dX3_isConsistent_8 : decode cX3_isConsistent 8 = .ok (.getfield 10, 3) := by decide +kernel
theorem dX3_isConsistent_11 : decode cX3_isConsistent 11 = .ok (.invokevirtual 109, 3) := by decide +kernel
theorem dX3_isConsistent_14 : decode cX3_isConsistent 14 = .ok (.iadd, 1) := by decide +kernel
theorem dX3_isConsistent_15 : decode cX3_isConsistent 15 = .ok (.aload_n 0, 1) := by decide +kernel
theorem dX3_isConsistent_16 : decode cX3_isConsistent 16 = .ok (.getfield 10, 3) := by decide +kernel
theorem dX3_isConsistent_19 : decode cX3_isConsistent 19 = .ok (.getfield 174, 3) := by decide +kernel
theorem dX3_isConsistent_22 : decode cX3_isConsistent 22 = .ok (.iadd, 1) := by decide +kernel
theorem dX3_isConsistent_23 : decode cX3_isConsistent 23 = .ok (.aload_n 0, 1) := by decide +kernel
theorem dX3_isConsistent_24 : decode cX3_isConsistent 24 = .ok (.getfield 10, 3) := by decide +kernel
theorem dX3_isConsistent_27 : decode cX3_isConsistent 27 = .ok (.getfield 177, 3) := by decide +kernel
theorem dX3_isConsistent_30 : decode cX3_isConsistent 30 = .ok (.iadd, 1) := by decide +kernel
theorem dX3_isConsistent_31 : decode cX3_isConsistent 31 = .ok (.istore_n 1, 1) := by decide +kernel
theorem dX3_isConsistent_32 : decode cX3_isConsistent 32 = .ok (.aload_n 0, 1) := by decide +kernel
theorem dX3_isConsistent_33 : decode cX3_isConsistent 33 = .ok (.invokevirtual 190, 3) := by decide +kernel
theorem dX3_isConsistent_36 : decode cX3_isConsistent 36 = .ok (.ifCond .eq 29, 3) := by decide +kernel
theorem dX3_isConsistent_39 : decode cX3_isConsistent 39 = .ok (.aload_n 0, 1) := by decide +kernel
theorem dX3_isConsistent_40 : decode cX3_isConsistent 40 = .ok (.invokevirtual 194, 3) := by decide +kernel
theorem dX3_isConsistent_43 : decode cX3_isConsistent 43 = .ok (.aload_n 0, 1) := by decide +kernel
theorem dX3_isConsistent_44 : decode cX3_isConsistent 44 = .ok (.invokevirtual 197, 3) := by decide +kernel
theorem dX3_isConsistent_47 : decode cX3_isConsistent 47 = .ok (.if_icmp .ne 18, 3) := by decide +kernel
theorem dX3_isConsistent_50 : decode cX3_isConsistent 50 = .ok (.aload_n 0, 1) := by decide +kernel
theorem dX3_isConsistent_51 : decode cX3_isConsistent 51 = .ok (.getfield 10, 3) := by decide +kernel
theorem dX3_isConsistent_54 : decode cX3_isConsistent 54 = .ok (.getfield 180, 3) := by decide +kernel
theorem dX3_isConsistent_57 : decode cX3_isConsistent 57 = .ok (.iload_n 1, 1) := by decide +kernel
theorem dX3_isConsistent_58 : decode cX3_isConsistent 58 = .ok (.if_icmp .ne 7, 3) := by decide +kernel
theorem dX3_isConsistent_61 : decode cX3_isConsistent 61 = .ok (.iconst 1, 1) := by decide +kernel
theorem dX3_isConsistent_62 : decode cX3_isConsistent 62 = .ok (.goto 4, 3) := by decide +kernel
theorem dX3_isConsistent_65 : decode cX3_isConsistent 65 = .ok (.iconst 0, 1) := by decide +kernel
theorem dX3_isConsistent_66 : decode cX3_isConsistent 66 = .ok (.ireturn, 1) := by decide +kernel
theorem dX3_renderDie_0 : decode cX3_renderDie 0 = .ok (.aload_n 0, 1) := by decide +kernel
theorem dX3_renderDie_1 : decode cX3_renderDie 1 = .ok (.iload_n 1, 1) := by decide +kernel
theorem dX3_renderDie_2 : decode cX3_renderDie 2 = .ok (.invokevirtual 61, 3) := by decide +kernel
theorem dX3_renderDie_5 : decode cX3_renderDie 5 = .ok (.aload_n 0, 1) := by decide +kernel
theorem dX3_renderDie_6 : decode cX3_renderDie 6 = .ok (.getfield 43, 3) := by decide +kernel
theorem dX3_renderDie_9 : decode cX3_renderDie 9 = .ok (.iconst 0, 1) := by decide +kernel
theorem dX3_renderDie_10 : decode cX3_renderDie 10 = .ok (.invokevirtual 200, 3) := by decide +kernel
theorem dX3_renderDie_13 : decode cX3_renderDie 13 = .ok (.aload_n 0, 1) := by decide +kernel
theorem dX3_renderDie_14 : decode cX3_renderDie 14 = .ok (.getfield 43, 3) := by decide +kernel
theorem dX3_renderDie_17 : decode cX3_renderDie 17 = .ok (.iload_n 1, 1) := by decide +kernel
theorem dX3_renderDie_18 : decode cX3_renderDie 18 = .ok (.invokevirtual 203, 3) := by decide +kernel
theorem dX3_renderDie_21 : decode cX3_renderDie 21 = .ok (.bipush 58, 2) := by decide +kernel
theorem dX3_renderDie_23 : decode cX3_renderDie 23 = .ok (.invokevirtual 207, 3) := by decide +kernel
theorem dX3_renderDie_26 : decode cX3_renderDie 26 = .ok (.aload_n 0, 1) := by decide +kernel
theorem dX3_renderDie_27 : decode cX3_renderDie 27 = .ok (.getfield 10, 3) := by decide +kernel
theorem dX3_renderDie_30 : decode cX3_renderDie 30 = .ok (.getfield 65, 3) := by decide +kernel
theorem dX3_renderDie_33 : decode cX3_renderDie 33 = .ok (.iload_n 1, 1) := by decide +kernel
theorem dX3_renderDie_34 : decode cX3_renderDie 34 = .ok (.iaload, 1) := by decide +kernel
theorem dX3_renderDie_35 : decode cX3_renderDie 35 = .ok (.invokevirtual 203, 3) := by decide +kernel
theorem dX3_renderDie_38 : decode cX3_renderDie 38 = .ok (.pop, 1) := by decide +kernel
theorem dX3_renderDie_39 : decode cX3_renderDie 39 = .ok (.aload_n 0, 1) := by decide +kernel
theorem dX3_renderDie_40 : decode cX3_renderDie 40 = .ok (.getfield 43, 3) := by decide +kernel
theorem dX3_renderDie_43 : decode cX3_renderDie 43 = .ok (.bipush 119, 2) := by decide +kernel
theorem dX3_renderDie_45 : decode cX3_renderDie 45 = .ok (.invokevirtual 207, 3) := by decide +kernel
theorem dX3_renderDie_48 : decode cX3_renderDie 48 = .ok (.aload_n 0, 1) := by decide +kernel
theorem dX3_renderDie_49 : decode cX3_renderDie 49 = .ok (.getfield 10, 3) := by decide +kernel
theorem dX3_renderDie_52 : decode cX3_renderDie 52 = .ok (.getfield 69, 3) := by decide +kernel
theorem dX3_renderDie_55 : decode cX3_renderDie 55 = .ok (.iload_n 1, 1) := by decide +kernel
theorem dX3_renderDie_56 : decode cX3_renderDie 56 = .ok (.iaload, 1) := by decide +kernel
theorem dX3_renderDie_57 : decode cX3_renderDie 57 = .ok (.invokevirtual 203, 3) := by decide +kernel
theorem dX3_renderDie_60 : decode cX3_renderDie 60 = .ok (.pop, 1) := by decide +kernel
theorem dX3_renderDie_61 : decode cX3_renderDie 61 = .ok (.aload_n 0, 1) := by decide +kernel
theorem dX3_renderDie_62 : decode cX3_renderDie 62 = .ok (.getfield 43, 3) := by decide +kernel
theorem dX3_renderDie_65 : decode cX3_renderDie 65 = .ok (.bipush 47, 2) := by decide +kernel
theorem dX3_renderDie_67 : decode cX3_renderDie 67 = .ok (.invokevirtual 207, 3) := by decide +kernel
theorem dX3_renderDie_70 : decode cX3_renderDie 70 = .ok (.aload_n 0, 1) := by decide +kernel
theorem dX3_renderDie_71 : decode cX3_renderDie 71 = .ok (.getfield 10, 3) := by decide +kernel
theorem dX3_renderDie_74 : decode cX3_renderDie 74 = .ok (.getfield 72, 3) := by decide +kernel
theorem dX3_renderDie_77 : decode cX3_renderDie 77 = .ok (.iload_n 1, 1) := by decide +kernel
theorem dX3_renderDie_78 : decode cX3_renderDie 78 = .ok (.iaload, 1) := by decide +kernel
theorem dX3_renderDie_79 : decode cX3_renderDie 79 = .ok (.invokevirtual 203, 3) := by decide +kernel
theorem dX3_renderDie_82 : decode cX3_renderDie 82 = .ok (.pop, 1) := by decide +kernel
theorem dX3_renderDie_83 : decode cX3_renderDie 83 = .ok (.aload_n 0, 1) := by decide +kernel
theorem dX3_renderDie_84 : decode cX3_renderDie 84 = .ok (.getfield 43, 3) := by decide +kernel
theorem dX3_renderDie_87 : decode cX3_renderDie 87 = .ok (.invokevirtual 210, 3) := by decide +kernel
theorem dX3_renderDie_90 : decode cX3_renderDie 90 = .ok (.ireturn, 1) := by decide +kernel
theorem dX3_renderVault_0 : decode cX3_renderVault 0 = .ok (.aload_n 0, 1) := by decide +kernel
theorem dX3_renderVault_1 : decode cX3_renderVault 1 = .ok (.getfield 43, 3) := by decide +kernel
theorem dX3_renderVault_4 : decode cX3_renderVault 4 = .ok (.iconst 0, 1) := by decide +kernel
theorem dX3_renderVault_5 : decode cX3_renderVault 5 = .ok (.invokevirtual 200, 3) := by decide +kernel
theorem dX3_renderVault_8 : decode cX3_renderVault 8 = .ok (.aload_n 0, 1) := by decide +kernel
theorem dX3_renderVault_9 : decode cX3_renderVault 9 = .ok (.getfield 10, 3) := by decide +kernel
theorem dX3_renderVault_12 : decode cX3_renderVault 12 = .ok (.getfield 58, 3) := by decide +kernel
theorem dX3_renderVault_15 : decode cX3_renderVault 15 = .ok (.iconst 1, 1) := by decide +kernel
theorem dX3_renderVault_16 : decode cX3_renderVault 16 = .ok (.isub, 1) := by decide +kernel
theorem dX3_renderVault_17 : decode cX3_renderVault 17 = .ok (.istore_n 1, 1) := by decide +kernel
theorem dX3_renderVault_18 : decode cX3_renderVault 18 = .ok (.iload_n 1, 1) := by decide +kernel
theorem dX3_renderVault_19 : decode cX3_renderVault 19 = .ok (.ifCond .lt 78, 3) := by decide +kernel
theorem dX3_renderVault_22 : decode cX3_renderVault 22 = .ok (.aload_n 0, 1) := by decide +kernel
theorem dX3_renderVault_23 : decode cX3_renderVault 23 = .ok (.getfield 10, 3) := by decide +kernel
theorem dX3_renderVault_26 : decode cX3_renderVault 26 = .ok (.getfield 213, 3) := by decide +kernel
theorem dX3_renderVault_29 : decode cX3_renderVault 29 = .ok (.iload_n 1, 1) := by decide +kernel
theorem dX3_renderVault_30 : decode cX3_renderVault 30 = .ok (.iaload, 1) := by decide +kernel
theorem dX3_renderVault_31 : decode cX3_renderVault 31 = .ok (.istore_n 2, 1) := by decide +kernel
theorem dX3_renderVault_32 : decode cX3_renderVault 32 = .ok (.aload_n 0, 1) := by decide +kernel
theorem dX3_renderVault_33 : decode cX3_renderVault 33 = .ok (.getfield 10, 3) := by decide +kernel
theorem dX3_renderVault_36 : decode cX3_renderVault 36 = .ok (.iload_n 2, 1) := by decide +kernel
theorem dX3_renderVault_37 : decode cX3_renderVault 37 = .ok (.invokevirtual 106, 3) := by decide +kernel
theorem dX3_renderVault_40 : decode cX3_renderVault 40 = .ok (.istore_n 3, 1) := by decide +kernel
theorem dX3_renderVault_41 : decode cX3_renderVault 41 = .ok (.iload_n 3, 1) := by decide +kernel
theorem dX3_renderVault_42 : decode cX3_renderVault 42 = .ok (.ifCond .le 49, 3) := by decide +kernel
theorem dX3_renderVault_45 : decode cX3_renderVault 45 = .ok (.aload_n 0, 1) := by decide +kernel
theorem dX3_renderVault_46 : decode cX3_renderVault 46 = .ok (.getfield 43, 3) := by decide +kernel
theorem dX3_renderVault_49 : decode cX3_renderVault 49 = .ok (.invokevirtual 210, 3) := by decide +kernel
theorem dX3_renderVault_52 : decode cX3_renderVault 52 = .ok (.ifCond .le 13, 3) := by decide +kernel
theorem dX3_renderVault_55 : decode cX3_renderVault 55 = .ok (.aload_n 0, 1) := by decide +kernel
theorem dX3_renderVault_56 : decode cX3_renderVault 56 = .ok (.getfield 43, 3) := by decide +kernel
theorem dX3_renderVault_59 : decode cX3_renderVault 59 = .ok (.bipush 32, 2) := by decide +kernel
theorem dX3_renderVault_61 : decode cX3_renderVault 61 = .ok (.invokevirtual 207, 3) := by decide +kernel
theorem dX3_renderVault_64 : decode cX3_renderVault 64 = .ok (.pop, 1) := by decide +kernel
theorem dX3_renderVault_65 : decode cX3_renderVault 65 = .ok (.aload_n 0, 1) := by decide +kernel
theorem dX3_renderVault_66 : decode cX3_renderVault 66 = .ok (.getfield 43, 3) := by decide +kernel
theorem dX3_renderVault_69 : decode cX3_renderVault 69 = .ok (.aload_n 0, 1) := by decide +kernel
theorem dX3_renderVault_70 : decode cX3_renderVault 70 = .ok (.getfield 10, 3) := by decide +kernel
theorem dX3_renderVault_73 : decode cX3_renderVault 73 = .ok (.getfield 65, 3) := by decide +kernel
theorem dX3_renderVault_76 : decode cX3_renderVault 76 = .ok (.iload_n 2, 1) := by decide +kernel
theorem dX3_renderVault_77 : decode cX3_renderVault 77 = .ok (.iaload, 1) := by decide +kernel
theorem dX3_renderVault_78 : decode cX3_renderVault 78 = .ok (.invokevirtual 203, 3) := by decide +kernel
theorem dX3_renderVault_81 : decode cX3_renderVault 81 = .ok (.bipush 120, 2) := by decide +kernel
theorem dX3_renderVault_83 : decode cX3_renderVault 83 = .ok (.invokevirtual 207, 3) := by decide +kernel
theorem dX3_renderVault_86 : decode cX3_renderVault 86 = .ok (.iload_n 3, 1) := by decide +kernel
theorem dX3_renderVault_87 : decode cX3_renderVault 87 = .ok (.invokevirtual 203, 3) := by decide +kernel
theorem dX3_renderVault_90 : decode cX3_renderVault 90 = .ok (.pop, 1) := by decide +kernel
theorem dX3_renderVault_91 : decode cX3_renderVault 91 = .ok (.iinc 1 (-1), 3) := by decide +kernel
theorem dX3_renderVault_94 : decode cX3_renderVault 94 = .ok (.goto (-76), 3) := by decide +kernel
theorem dX3_renderVault_97 : decode cX3_renderVault 97 = .ok (.aload_n 0, 1) := by decide +kernel
theorem dX3_renderVault_98 : decode cX3_renderVault 98 = .ok (.getfield 43, 3) := by decide +kernel
theorem dX3_renderVault_101 : decode cX3_renderVault 101 = .ok (.invokevirtual 210, 3) := by decide +kernel
theorem dX3_renderVault_104 : decode cX3_renderVault 104 = .ok (.ireturn, 1) := by decide +kernel
theorem dX3_outputAt_0 : decode cX3_outputAt 0 = .ok (.iload_n 1, 1) := by decide +kernel
theorem dX3_outputAt_1 : decode cX3_outputAt 1 = .ok (.ifCond .lt 14, 3) := by decide +kernel
theorem dX3_outputAt_4 : decode cX3_outputAt 4 = .ok (.iload_n 1, 1) := by decide +kernel
theorem dX3_outputAt_5 : decode cX3_outputAt 5 = .ok (.aload_n 0, 1) := by decide +kernel
theorem dX3_outputAt_6 : decode cX3_outputAt 6 = .ok (.getfield 43, 3) := by decide +kernel
theorem dX3_outputAt_9 : decode cX3_outputAt 9 = .ok (.invokevirtual 210, 3) := by decide +kernel
theorem dX3_outputAt_12 : decode cX3_outputAt 12 = .ok (.if_icmp .lt 13, 3) := by decide +kernel
theorem dX3_outputAt_15 : decode cX3_outputAt 15 = .ok (.new 216, 3) := by decide +kernel
theorem dX3_outputAt_18 : decode cX3_outputAt 18 = .ok (.dup, 1) := by decide +kernel
theorem dX3_outputAt_19 : decode cX3_outputAt 19 = .ok (.ldc 218, 2) := by decide +kernel
theorem dX3_outputAt_21 : decode cX3_outputAt 21 = .ok (.invokespecial 220, 3) := by decide +kernel
theorem dX3_outputAt_24 : decode cX3_outputAt 24 = .ok (.athrow, 1) := by decide +kernel
theorem dX3_outputAt_25 : decode cX3_outputAt 25 = .ok (.aload_n 0, 1) := by decide +kernel
theorem dX3_outputAt_26 : decode cX3_outputAt 26 = .ok (.getfield 43, 3) := by decide +kernel
theorem dX3_outputAt_29 : decode cX3_outputAt 29 = .ok (.iload_n 1, 1) := by decide +kernel
theorem dX3_outputAt_30 : decode cX3_outputAt 30 = .ok (.invokevirtual 221, 3) := by decide +kernel
theorem dX3_outputAt_33 : decode cX3_outputAt 33 = .ok (.ireturn, 1) := by decide +kernel
theorem dX3_type_0 : decode cX3_type 0 = .ok (.iload_n 1, 1) := by decide +kernel
theorem dX3_type_1 : decode cX3_type 1 = .ok (.bipush 32, 2) := by decide +kernel
theorem dX3_type_3 : decode cX3_type 3 = .ok (.if_icmp .lt 9, 3) := by decide +kernel
theorem dX3_type_6 : decode cX3_type 6 = .ok (.iload_n 1, 1) := by decide +kernel
theorem dX3_type_7 : decode cX3_type 7 = .ok (.bipush 126, 2) := by decide +kernel
theorem dX3_type_9 : decode cX3_type 9 = .ok (.if_icmp .le 13, 3) := by decide +kernel
theorem dX3_type_12 : decode cX3_type 12 = .ok (.new 225, 3) := by decide +kernel
theorem dX3_type_15 : decode cX3_type 15 = .ok (.dup, 1) := by decide +kernel
theorem dX3_type_16 : decode cX3_type 16 = .ok (.ldc 227, 2) := by decide +kernel
theorem dX3_type_18 : decode cX3_type 18 = .ok (.invokespecial 229, 3) := by decide +kernel
theorem dX3_type_21 : decode cX3_type 21 = .ok (.athrow, 1) := by decide +kernel
theorem dX3_type_22 : decode cX3_type 22 = .ok (.aload_n 0, 1) := by decide +kernel
theorem dX3_type_23 : decode cX3_type 23 = .ok (.getfield 36, 3) := by decide +kernel
theorem dX3_type_26 : decode cX3_type 26 = .ok (.getfield 230, 3) := by decide +kernel
theorem dX3_type_29 : decode cX3_type 29 = .ok (.bipush 60, 2) := by decide +kernel
theorem dX3_type_31 : decode cX3_type 31 = .ok (.if_icmp .lt 13, 3) := by decide +kernel
theorem dX3_type_34 : decode cX3_type 34 = .ok (.new 75, 3) := by decide +kernel
theorem dX3_type_37 : decode cX3_type 37 = .ok (.dup, 1) := by decide +kernel
theorem dX3_type_38 : decode cX3_type 38 = .ok (.ldc 232, 2) := by decide +kernel
theorem dX3_type_40 : decode cX3_type 40 = .ok (.invokespecial 79, 3) := by decide +kernel
theorem dX3_type_43 : decode cX3_type 43 = .ok (.athrow, 1) := by decide +kernel
theorem dX3_type_44 : decode cX3_type 44 = .ok (.aload_n 0, 1) := by decide +kernel
theorem dX3_type_45 : decode cX3_type 45 = .ok (.getfield 36, 3) := by decide +kernel
theorem dX3_type_48 : decode cX3_type 48 = .ok (.iload_n 1, 1) := by decide +kernel
theorem dX3_type_49 : decode cX3_type 49 = .ok (.invokevirtual 234, 3) := by decide +kernel
theorem dX3_type_52 : decode cX3_type 52 = .ok (.aload_n 0, 1) := by decide +kernel
theorem dX3_type_53 : decode cX3_type 53 = .ok (.getfield 36, 3) := by decide +kernel
theorem dX3_type_56 : decode cX3_type 56 = .ok (.getfield 230, 3) := by decide +kernel
theorem dX3_type_59 : decode cX3_type 59 = .ok (.ireturn, 1) := by decide +kernel
theorem dX3_runScript_0 : decode cX3_runScript 0 = .ok (.aload_n 0, 1) := by decide +kernel
theorem dX3_runScript_1 : decode cX3_runScript 1 = .ok (.getfield 36, 3) := by decide +kernel
theorem dX3_runScript_4 : decode cX3_runScript 4 = .ok (.invokevirtual 237, 3) := by decide +kernel
theorem dX3_runScript_7 : decode cX3_runScript 7 = .ok (.istore_n 1, 1) := by decide +kernel
theorem dX3_runScript_8 : decode cX3_runScript 8 = .ok (.aload_n 0, 1) := by decide +kernel
theorem dX3_runScript_9 : decode cX3_runScript 9 = .ok (.getfield 36, 3) := by decide +kernel
theorem dX3_runScript_12 : decode cX3_runScript 12 = .ok (.iconst 0, 1) := by decide +kernel
theorem dX3_runScript_13 : decode cX3_runScript 13 = .ok (.putfield 230, 3) := by decide +kernel
theorem dX3_runScript_16 : decode cX3_runScript 16 = .ok (.iload_n 1, 1) := by decide +kernel
theorem dX3_runScript_17 : decode cX3_runScript 17 = .ok (.ifCond .ne 24, 3) := by decide +kernel
theorem dX3_runScript_20 : decode cX3_runScript 20 = .ok (.aload_n 0, 1) := by decide +kernel
theorem dX3_runScript_21 : decode cX3_runScript 21 = .ok (.aload_n 0, 1) := by decide +kernel
theorem dX3_runScript_22 : decode cX3_runScript 22 = .ok (.getfield 36, 3) := by decide +kernel
theorem dX3_runScript_25 : decode cX3_runScript 25 = .ok (.getfield 240, 3) := by decide +kernel
theorem dX3_runScript_28 : decode cX3_runScript 28 = .ok (.putfield 47, 3) := by decide +kernel
theorem dX3_runScript_31 : decode cX3_runScript 31 = .ok (.new 225, 3) := by decide +kernel
theorem dX3_runScript_34 : decode cX3_runScript 34 = .ok (.dup, 1) := by decide +kernel
theorem dX3_runScript_35 : decode cX3_runScript 35 = .ok (.ldc 243, 2) := by decide +kernel
theorem dX3_runScript_37 : decode cX3_runScript 37 = .ok (.invokespecial 229, 3) := by decide +kernel
theorem dX3_runScript_40 : decode cX3_runScript 40 = .ok (.athrow, 1) := by decide +kernel
theorem dX3_runScript_41 : decode cX3_runScript 41 = .ok (.aload_n 0, 1) := by decide +kernel
theorem dX3_runScript_42 : decode cX3_runScript 42 = .ok (.getfield 16, 3) := by decide +kernel
theorem dX3_runScript_45 : decode cX3_runScript 45 = .ok (.aload_n 0, 1) := by decide +kernel
theorem dX3_runScript_46 : decode cX3_runScript 46 = .ok (.getfield 10, 3) := by decide +kernel
theorem dX3_runScript_49 : decode cX3_runScript 49 = .ok (.invokevirtual 245, 3) := by decide +kernel
theorem dX3_runScript_52 : decode cX3_runScript 52 = .ok (.iconst 0, 1) := by decide +kernel
theorem dX3_runScript_53 : decode cX3_runScript 53 = .ok (.istore_n 2, 1) := by decide +kernel
theorem dX3_runScript_54 : decode cX3_runScript 54 = .ok (.iload_n 2, 1) := by decide +kernel
theorem dX3_runScript_55 : decode cX3_runScript 55 = .ok (.aload_n 0, 1) := by decide +kernel
theorem dX3_runScript_56 : decode cX3_runScript 56 = .ok (.getfield 36, 3) := by decide +kernel
theorem dX3_runScript_59 : decode cX3_runScript 59 = .ok (.getfield 248, 3) := by decide +kernel
theorem dX3_runScript_62 : decode cX3_runScript 62 = .ok (.if_icmp .ge 99, 3) := by decide +kernel
theorem dX3_runScript_65 : decode cX3_runScript 65 = .ok (.aload_n 0, 1) := by decide +kernel
theorem dX3_runScript_66 : decode cX3_runScript 66 = .ok (.aload_n 0, 1) := by decide +kernel
theorem dX3_runScript_67 : decode cX3_runScript 67 = .ok (.getfield 16, 3) := by decide +kernel
theorem dX3_runScript_70 : decode cX3_runScript 70 = .ok (.aload_n 0, 1) := by decide +kernel
theorem dX3_runScript_71 : decode cX3_runScript 71 = .ok (.getfield 36, 3) := by decide +kernel
theorem dX3_runScript_74 : decode cX3_runScript 74 = .ok (.getfield 251, 3) := by decide +kernel
theorem dX3_runScript_77 : decode cX3_runScript 77 = .ok (.iload_n 2, 1) := by decide +kernel
theorem dX3_runScript_78 : decode cX3_runScript 78 = .ok (.iaload, 1) := by decide +kernel
theorem dX3_runScript_79 : decode cX3_runScript 79 = .ok (.aload_n 0, 1) := by decide +kernel
theorem dX3_runScript_80 : decode cX3_runScript 80 = .ok (.getfield 36, 3) := by decide +kernel
theorem dX3_runScript_83 : decode cX3_runScript 83 = .ok (.getfield 254, 3) := by decide +kernel
theorem dX3_runScript_86 : decode cX3_runScript 86 = .ok (.iload_n 2, 1) := by decide +kernel
theorem dX3_runScript_87 : decode cX3_runScript 87 = .ok (.iaload, 1) := by decide +kernel
theorem dX3_runScript_88 : decode cX3_runScript 88 = .ok (.aload_n 0, 1) := by decide +kernel
theorem dX3_runScript_89 : decode cX3_runScript 89 = .ok (.getfield 36, 3) := by decide +kernel
theorem dX3_runScript_92 : decode cX3_runScript 92 = .ok (.getfield 257, 3) := by decide +kernel
theorem dX3_runScript_95 : decode cX3_runScript 95 = .ok (.iload_n 2, 1) := by decide +kernel
theorem dX3_runScript_96 : decode cX3_runScript 96 = .ok (.iaload, 1) := by decide +kernel
theorem dX3_runScript_97 : decode cX3_runScript 97 = .ok (.invokevirtual 260, 3) := by decide +kernel
theorem dX3_runScript_100 : decode cX3_runScript 100 = .ok (.ifCond .eq 19, 3) := by decide +kernel
theorem dX3_runScript_103 : decode cX3_runScript 103 = .ok (.aload_n 0, 1) := by decide +kernel
theorem dX3_runScript_104 : decode cX3_runScript 104 = .ok (.iload_n 2, 1) := by decide +kernel
theorem dX3_runScript_105 : decode cX3_runScript 105 = .ok (.putfield 51, 3) := by decide +kernel
theorem dX3_runScript_108 : decode cX3_runScript 108 = .ok (.new 75, 3) := by decide +kernel
theorem dX3_runScript_111 : decode cX3_runScript 111 = .ok (.dup, 1) := by decide +kernel
theorem dX3_runScript_112 : decode cX3_runScript 112 = .ok (.ldc_w 264, 3) := by decide +kernel
theorem dX3_runScript_115 : decode cX3_runScript 115 = .ok (.invokespecial 79, 3) := by decide +kernel
theorem dX3_runScript_118 : decode cX3_runScript 118 = .ok (.athrow, 1) := by decide +kernel
theorem dX3_runScript_119 : decode cX3_runScript 119 = .ok (.aload_n 0, 1) := by decide +kernel
theorem dX3_runScript_120 : decode cX3_runScript 120 = .ok (.aload_n 0, 1) := by decide +kernel
theorem dX3_runScript_121 : decode cX3_runScript 121 = .ok (.getfield 16, 3) := by decide +kernel
theorem dX3_runScript_124 : decode cX3_runScript 124 = .ok (.aload_n 0, 1) := by decide +kernel
theorem dX3_runScript_125 : decode cX3_runScript 125 = .ok (.getfield 36, 3) := by decide +kernel
theorem dX3_runScript_128 : decode cX3_runScript 128 = .ok (.getfield 251, 3) := by decide +kernel
theorem dX3_runScript_131 : decode cX3_runScript 131 = .ok (.iload_n 2, 1) := by decide +kernel
theorem dX3_runScript_132 : decode cX3_runScript 132 = .ok (.iaload, 1) := by decide +kernel
theorem dX3_runScript_133 : decode cX3_runScript 133 = .ok (.aload_n 0, 1) := by decide +kernel
theorem dX3_runScript_134 : decode cX3_runScript 134 = .ok (.getfield 36, 3) := by decide +kernel
theorem dX3_runScript_137 : decode cX3_runScript 137 = .ok (.getfield 254, 3) := by decide +kernel
theorem dX3_runScript_140 : decode cX3_runScript 140 = .ok (.iload_n 2, 1) := by decide +kernel
theorem dX3_runScript_141 : decode cX3_runScript 141 = .ok (.iaload, 1) := by decide +kernel
theorem dX3_runScript_142 : decode cX3_runScript 142 = .ok (.aload_n 0, 1) := by decide +kernel
theorem dX3_runScript_143 : decode cX3_runScript 143 = .ok (.getfield 36, 3) := by decide +kernel
theorem dX3_runScript_146 : decode cX3_runScript 146 = .ok (.getfield 257, 3) := by decide +kernel
theorem dX3_runScript_149 : decode cX3_runScript 149 = .ok (.iload_n 2, 1) := by decide +kernel
theorem dX3_runScript_150 : decode cX3_runScript 150 = .ok (.iaload, 1) := by decide +kernel
theorem dX3_runScript_151 : decode cX3_runScript 151 = .ok (.invokevirtual 266, 3) := by decide +kernel
theorem dX3_runScript_154 : decode cX3_runScript 154 = .ok (.pop, 1) := by decide +kernel
theorem dX3_runScript_155 : decode cX3_runScript 155 = .ok (.iinc 2 1, 3) := by decide +kernel
theorem dX3_runScript_158 : decode cX3_runScript 158 = .ok (.goto (-104), 3) := by decide +kernel
theorem dX3_runScript_161 : decode cX3_runScript 161 = .ok (.aload_n 0, 1) := by decide +kernel
theorem dX3_runScript_162 : decode cX3_runScript 162 = .ok (.invokevirtual 269, 3) := by decide +kernel
theorem dX3_runScript_165 : decode cX3_runScript 165 = .ok (.aload_n 0, 1) := by decide +kernel
theorem dX3_runScript_166 : decode cX3_runScript 166 = .ok (.getfield 10, 3) := by decide +kernel
theorem dX3_runScript_169 : decode cX3_runScript 169 = .ok (.aload_n 0, 1) := by decide +kernel
theorem dX3_runScript_170 : decode cX3_runScript 170 = .ok (.getfield 16, 3) := by decide +kernel
theorem dX3_runScript_173 : decode cX3_runScript 173 = .ok (.invokevirtual 245, 3) := by decide +kernel
theorem dX3_runScript_176 : decode cX3_runScript 176 = .ok (.aload_n 0, 1) := by decide +kernel
theorem dX3_runScript_177 : decode cX3_runScript 177 = .ok (.getfield 36, 3) := by decide +kernel
theorem dX3_runScript_180 : decode cX3_runScript 180 = .ok (.getfield 248, 3) := by decide +kernel
theorem dX3_runScript_183 : decode cX3_runScript 183 = .ok (.ireturn, 1) := by decide +kernel
theorem dX3_errorPosition_0 : decode cX3_errorPosition 0 = .ok (.aload_n 0, 1) := by decide +kernel
theorem dX3_errorPosition_1 : decode cX3_errorPosition 1 = .ok (.getfield 47, 3) := by decide +kernel
theorem dX3_errorPosition_4 : decode cX3_errorPosition 4 = .ok (.iconst (-1), 1) := by decide +kernel
theorem dX3_errorPosition_5 : decode cX3_errorPosition 5 = .ok (.if_icmp .ne 14, 3) := by decide +kernel
theorem dX3_errorPosition_8 : decode cX3_errorPosition 8 = .ok (.new 89, 3) := by decide +kernel
theorem dX3_errorPosition_11 : decode cX3_errorPosition 11 = .ok (.dup, 1) := by decide +kernel
theorem dX3_errorPosition_12 : decode cX3_errorPosition 12 = .ok (.ldc_w 272, 3) := by decide +kernel
theorem dX3_errorPosition_15 : decode cX3_errorPosition 15 = .ok (.invokespecial 93, 3) := by decide +kernel
theorem dX3_errorPosition_18 : decode cX3_errorPosition 18 = .ok (.athrow, 1) := by decide +kernel
theorem dX3_errorPosition_19 : decode cX3_errorPosition 19 = .ok (.aload_n 0, 1) := by decide +kernel
theorem dX3_errorPosition_20 : decode cX3_errorPosition 20 = .ok (.getfield 47, 3) := by decide +kernel
theorem dX3_errorPosition_23 : decode cX3_errorPosition 23 = .ok (.ireturn, 1) := by decide +kernel
theorem dX3_failedCommand_0 : decode cX3_failedCommand 0 = .ok (.aload_n 0, 1) := by decide +kernel
theorem dX3_failedCommand_1 : decode cX3_failedCommand 1 = .ok (.getfield 51, 3) := by decide +kernel
theorem dX3_failedCommand_4 : decode cX3_failedCommand 4 = .ok (.iconst (-1), 1) := by decide +kernel
theorem dX3_failedCommand_5 : decode cX3_failedCommand 5 = .ok (.if_icmp .ne 14, 3) := by decide +kernel
theorem dX3_failedCommand_8 : decode cX3_failedCommand 8 = .ok (.new 89, 3) := by decide +kernel
theorem dX3_failedCommand_11 : decode cX3_failedCommand 11 = .ok (.dup, 1) := by decide +kernel
theorem dX3_failedCommand_12 : decode cX3_failedCommand 12 = .ok (.ldc_w 274, 3) := by decide +kernel
theorem dX3_failedCommand_15 : decode cX3_failedCommand 15 = .ok (.invokespecial 93, 3) := by decide +kernel
theorem dX3_failedCommand_18 : decode cX3_failedCommand 18 = .ok (.athrow, 1) := by decide +kernel
theorem dX3_failedCommand_19 : decode cX3_failedCommand 19 = .ok (.aload_n 0, 1) := by decide +kernel
theorem dX3_failedCommand_20 : decode cX3_failedCommand 20 = .ok (.getfield 51, 3) := by decide +kernel
theorem dX3_failedCommand_23 : decode cX3_failedCommand 23 = .ok (.ireturn, 1) := by decide +kernel
theorem dX3_undo_0 : decode cX3_undo 0 = .ok (.aload_n 0, 1) := by decide +kernel
theorem dX3_undo_1 : decode cX3_undo 1 = .ok (.getfield 276, 3) := by decide +kernel
theorem dX3_undo_4 : decode cX3_undo 4 = .ok (.ifCond .ne 14, 3) := by decide +kernel
theorem dX3_undo_7 : decode cX3_undo 7 = .ok (.new 75, 3) := by decide +kernel
theorem dX3_undo_10 : decode cX3_undo 10 = .ok (.dup, 1) := by decide +kernel
theorem dX3_undo_11 : decode cX3_undo 11 = .ok (.ldc_w 279, 3) := by decide +kernel
theorem dX3_undo_14 : decode cX3_undo 14 = .ok (.invokespecial 79, 3) := by decide +kernel
theorem dX3_undo_17 : decode cX3_undo 17 = .ok (.athrow, 1) := by decide +kernel
theorem dX3_undo_18 : decode cX3_undo 18 = .ok (.aload_n 0, 1) := by decide +kernel
theorem dX3_undo_19 : decode cX3_undo 19 = .ok (.dup, 1) := by decide +kernel
theorem dX3_undo_20 : decode cX3_undo 20 = .ok (.getfield 276, 3) := by decide +kernel
theorem dX3_undo_23 : decode cX3_undo 23 = .ok (.iconst 1, 1) := by decide +kernel
theorem dX3_undo_24 : decode cX3_undo 24 = .ok (.isub, 1) := by decide +kernel
theorem dX3_undo_25 : decode cX3_undo 25 = .ok (.putfield 276, 3) := by decide +kernel
theorem dX3_undo_28 : decode cX3_undo 28 = .ok (.aload_n 0, 1) := by decide +kernel
theorem dX3_undo_29 : decode cX3_undo 29 = .ok (.getfield 10, 3) := by decide +kernel
theorem dX3_undo_32 : decode cX3_undo 32 = .ok (.aload_n 0, 1) := by decide +kernel
theorem dX3_undo_33 : decode cX3_undo 33 = .ok (.getfield 22, 3) := by decide +kernel
theorem dX3_undo_36 : decode cX3_undo 36 = .ok (.aload_n 0, 1) := by decide +kernel
theorem dX3_undo_37 : decode cX3_undo 37 = .ok (.getfield 276, 3) := by decide +kernel
theorem dX3_undo_40 : decode cX3_undo 40 = .ok (.aaload, 1) := by decide +kernel
theorem dX3_undo_41 : decode cX3_undo 41 = .ok (.invokevirtual 245, 3) := by decide +kernel
theorem dX3_undo_44 : decode cX3_undo 44 = .ok (.aload_n 0, 1) := by decide +kernel
theorem dX3_undo_45 : decode cX3_undo 45 = .ok (.getfield 276, 3) := by decide +kernel
theorem dX3_undo_48 : decode cX3_undo 48 = .ok (.ireturn, 1) := by decide +kernel
theorem dX3_save_0 : decode cX3_save 0 = .ok (.aload_n 0, 1) := by decide +kernel
theorem dX3_save_1 : decode cX3_save 1 = .ok (.getfield 19, 3) := by decide +kernel
theorem dX3_save_4 : decode cX3_save 4 = .ok (.aload_n 0, 1) := by decide +kernel
theorem dX3_save_5 : decode cX3_save 5 = .ok (.getfield 10, 3) := by decide +kernel
theorem dX3_save_8 : decode cX3_save 8 = .ok (.invokevirtual 245, 3) := by decide +kernel
theorem dX3_save_11 : decode cX3_save 11 = .ok (.aload_n 0, 1) := by decide +kernel
theorem dX3_save_12 : decode cX3_save 12 = .ok (.iconst 1, 1) := by decide +kernel
theorem dX3_save_13 : decode cX3_save 13 = .ok (.putfield 281, 3) := by decide +kernel
theorem dX3_save_16 : decode cX3_save 16 = .ok (.aload_n 0, 1) := by decide +kernel
theorem dX3_save_17 : decode cX3_save 17 = .ok (.getfield 10, 3) := by decide +kernel
theorem dX3_save_20 : decode cX3_save 20 = .ok (.getfield 100, 3) := by decide +kernel
theorem dX3_save_23 : decode cX3_save 23 = .ok (.ireturn, 1) := by decide +kernel
theorem dX3_restore_0 : decode cX3_restore 0 = .ok (.aload_n 0, 1) := by decide +kernel
theorem dX3_restore_1 : decode cX3_restore 1 = .ok (.getfield 281, 3) := by decide +kernel
theorem dX3_restore_4 : decode cX3_restore 4 = .ok (.ifCond .ne 14, 3) := by decide +kernel
theorem dX3_restore_7 : decode cX3_restore 7 = .ok (.new 75, 3) := by decide +kernel
theorem dX3_restore_10 : decode cX3_restore 10 = .ok (.dup, 1) := by decide +kernel
theorem dX3_restore_11 : decode cX3_restore 11 = .ok (.ldc_w 285, 3) := by decide +kernel
theorem dX3_restore_14 : decode cX3_restore 14 = .ok (.invokespecial 79, 3) := by decide +kernel
theorem dX3_restore_17 : decode cX3_restore 17 = .ok (.athrow, 1) := by decide +kernel
theorem dX3_restore_18 : decode cX3_restore 18 = .ok (.aload_n 0, 1) := by decide +kernel
theorem dX3_restore_19 : decode cX3_restore 19 = .ok (.getfield 10, 3) := by decide +kernel
theorem dX3_restore_22 : decode cX3_restore 22 = .ok (.aload_n 0, 1) := by decide +kernel
theorem dX3_restore_23 : decode cX3_restore 23 = .ok (.getfield 19, 3) := by decide +kernel
theorem dX3_restore_26 : decode cX3_restore 26 = .ok (.invokevirtual 245, 3) := by decide +kernel
theorem dX3_restore_29 : decode cX3_restore 29 = .ok (.aload_n 0, 1) := by decide +kernel
theorem dX3_restore_30 : decode cX3_restore 30 = .ok (.iconst 0, 1) := by decide +kernel
theorem dX3_restore_31 : decode cX3_restore 31 = .ok (.putfield 276, 3) := by decide +kernel
theorem dX3_restore_34 : decode cX3_restore 34 = .ok (.aload_n 0, 1) := by decide +kernel
theorem dX3_restore_35 : decode cX3_restore 35 = .ok (.getfield 10, 3) := by decide +kernel
theorem dX3_restore_38 : decode cX3_restore 38 = .ok (.getfield 100, 3) := by decide +kernel
theorem dX3_restore_41 : decode cX3_restore 41 = .ok (.ireturn, 1) := by decide +kernel
theorem dX3_change_0 : decode cX3_change 0 = .ok (.aload_n 0, 1) := by decide +kernel
theorem dX3_change_1 : decode cX3_change 1 = .ok (.aload_n 0, 1) := by decide +kernel
theorem dX3_change_2 : decode cX3_change 2 = .ok (.getfield 10, 3) := by decide +kernel
theorem dX3_change_5 : decode cX3_change 5 = .ok (.iload_n 1, 1) := by decide +kernel
theorem dX3_change_6 : decode cX3_change 6 = .ok (.iload_n 2, 1) := by decide +kernel
theorem dX3_change_7 : decode cX3_change 7 = .ok (.iload_n 3, 1) := by decide +kernel
theorem dX3_change_8 : decode cX3_change 8 = .ok (.invokevirtual 260, 3) := by decide +kernel
theorem dX3_change_11 : decode cX3_change 11 = .ok (.invokestatic 287, 3) := by decide +kernel
theorem dX3_change_14 : decode cX3_change 14 = .ok (.aload_n 0, 1) := by decide +kernel
theorem dX3_change_15 : decode cX3_change 15 = .ok (.invokevirtual 269, 3) := by decide +kernel
theorem dX3_change_18 : decode cX3_change 18 = .ok (.aload_n 0, 1) := by decide +kernel
theorem dX3_change_19 : decode cX3_change 19 = .ok (.aload_n 0, 1) := by decide +kernel
theorem dX3_change_20 : decode cX3_change 20 = .ok (.getfield 10, 3) := by decide +kernel
theorem dX3_change_23 : decode cX3_change 23 = .ok (.iload_n 1, 1) := by decide +kernel
theorem dX3_change_24 : decode cX3_change 24 = .ok (.iload_n 2, 1) := by decide +kernel
theorem dX3_change_25 : decode cX3_change 25 = .ok (.iload_n 3, 1) := by decide +kernel
theorem dX3_change_26 : decode cX3_change 26 = .ok (.invokevirtual 266, 3) := by decide +kernel
theorem dX3_change_29 : decode cX3_change 29 = .ok (.ireturn, 1) := by decide +kernel
theorem dX3_faultOf_0 : decode cX3_faultOf 0 = .ok (.iload_n 2, 1) := by decide +kernel
theorem dX3_faultOf_1 : decode cX3_faultOf 1 = .ok (.tableswitch 90 0 5 #[39, 47, 53, 59, 67, 84], 39) := by decide +kernel
theorem dX3_faultOf_40 : decode cX3_faultOf 40 = .ok (.aload_n 1, 1) := by decide +kernel
theorem dX3_faultOf_41 : decode cX3_faultOf 41 = .ok (.iload_n 3, 1) := by decide +kernel
theorem dX3_faultOf_42 : decode cX3_faultOf 42 = .ok (.iload 4, 2) := by decide +kernel
theorem dX3_faultOf_44 : decode cX3_faultOf 44 = .ok (.invokevirtual 290, 3) := by decide +kernel
theorem dX3_faultOf_47 : decode cX3_faultOf 47 = .ok (.ireturn, 1) := by decide +kernel
theorem dX3_faultOf_48 : decode cX3_faultOf 48 = .ok (.aload_n 1, 1) := by decide +kernel
theorem dX3_faultOf_49 : decode cX3_faultOf 49 = .ok (.iload_n 3, 1) := by decide +kernel
theorem dX3_faultOf_50 : decode cX3_faultOf 50 = .ok (.invokevirtual 294, 3) := by decide +kernel
theorem dX3_faultOf_53 : decode cX3_faultOf 53 = .ok (.ireturn, 1) := by decide +kernel
theorem dX3_faultOf_54 : decode cX3_faultOf 54 = .ok (.aload_n 1, 1) := by decide +kernel
theorem dX3_faultOf_55 : decode cX3_faultOf 55 = .ok (.iload_n 3, 1) := by decide +kernel
theorem dX3_faultOf_56 : decode cX3_faultOf 56 = .ok (.invokevirtual 297, 3) := by decide +kernel
theorem dX3_faultOf_59 : decode cX3_faultOf 59 = .ok (.ireturn, 1) := by decide +kernel
theorem dX3_faultOf_60 : decode cX3_faultOf 60 = .ok (.aload_n 1, 1) := by decide +kernel
theorem dX3_faultOf_61 : decode cX3_faultOf 61 = .ok (.iload_n 3, 1) := by decide +kernel
theorem dX3_faultOf_62 : decode cX3_faultOf 62 = .ok (.iload 4, 2) := by decide +kernel
theorem dX3_faultOf_64 : decode cX3_faultOf 64 = .ok (.invokevirtual 300, 3) := by decide +kernel
theorem dX3_faultOf_67 : decode cX3_faultOf 67 = .ok (.ireturn, 1) := by decide +kernel
theorem dX3_faultOf_68 : decode cX3_faultOf 68 = .ok (.iload_n 3, 1) := by decide +kernel
theorem dX3_faultOf_69 : decode cX3_faultOf 69 = .ok (.iconst 1, 1) := by decide +kernel
theorem dX3_faultOf_70 : decode cX3_faultOf 70 = .ok (.if_icmp .lt 9, 3) := by decide +kernel
theorem dX3_faultOf_73 : decode cX3_faultOf 73 = .ok (.iload_n 3, 1) := by decide +kernel
theorem dX3_faultOf_74 : decode cX3_faultOf 74 = .ok (.bipush 20, 2) := by decide +kernel
theorem dX3_faultOf_76 : decode cX3_faultOf 76 = .ok (.if_icmp .le 7, 3) := by decide +kernel
theorem dX3_faultOf_79 : decode cX3_faultOf 79 = .ok (.iconst 2, 1) := by decide +kernel
theorem dX3_faultOf_80 : decode cX3_faultOf 80 = .ok (.goto 4, 3) := by decide +kernel
theorem dX3_faultOf_83 : decode cX3_faultOf 83 = .ok (.iconst 0, 1) := by decide +kernel
theorem dX3_faultOf_84 : decode cX3_faultOf 84 = .ok (.ireturn, 1) := by decide +kernel
theorem dX3_faultOf_85 : decode cX3_faultOf 85 = .ok (.aload_n 1, 1) := by decide +kernel
theorem dX3_faultOf_86 : decode cX3_faultOf 86 = .ok (.iload_n 3, 1) := by decide +kernel
theorem dX3_faultOf_87 : decode cX3_faultOf 87 = .ok (.invokevirtual 303, 3) := by decide +kernel
theorem dX3_faultOf_90 : decode cX3_faultOf 90 = .ok (.ireturn, 1) := by decide +kernel
theorem dX3_faultOf_91 : decode cX3_faultOf 91 = .ok (.aload_n 0, 1) := by decide +kernel
theorem dX3_faultOf_92 : decode cX3_faultOf 92 = .ok (.aload_n 1, 1) := by decide +kernel
theorem dX3_faultOf_93 : decode cX3_faultOf 93 = .ok (.iload_n 3, 1) := by decide +kernel
theorem dX3_faultOf_94 : decode cX3_faultOf 94 = .ok (.invokevirtual 306, 3) := by decide +kernel
theorem dX3_faultOf_97 : decode cX3_faultOf 97 = .ok (.ireturn, 1) := by decide +kernel
theorem dX3_faultOfPayment_0 : decode cX3_faultOfPayment 0 = .ok (.iload_n 2, 1) := by decide +kernel
theorem dX3_faultOfPayment_1 : decode cX3_faultOfPayment 1 = .ok (.invokestatic 309, 3) := by decide +kernel
theorem dX3_faultOfPayment_4 : decode cX3_faultOfPayment 4 = .ok (.ifCond .ne 5, 3) := by decide +kernel
theorem dX3_faultOfPayment_7 : decode cX3_faultOfPayment 7 = .ok (.iconst 2, 1) := by decide +kernel
theorem dX3_faultOfPayment_8 : decode cX3_faultOfPayment 8 = .ok (.ireturn, 1) := by decide +kernel
theorem dX3_faultOfPayment_9 : decode cX3_faultOfPayment 9 = .ok (.aload_n 0, 1) := by decide +kernel
theorem dX3_faultOfPayment_10 : decode cX3_faultOfPayment 10 = .ok (.getfield 29, 3) := by decide +kernel
theorem dX3_faultOfPayment_13 : decode cX3_faultOfPayment 13 = .ok (.aload_n 1, 1) := by decide +kernel
theorem dX3_faultOfPayment_14 : decode cX3_faultOfPayment 14 = .ok (.iload_n 2, 1) := by decide +kernel
theorem dX3_faultOfPayment_15 : decode cX3_faultOfPayment 15 = .ok (.invokevirtual 153, 3) := by decide +kernel
theorem dX3_faultOfPayment_18 : decode cX3_faultOfPayment 18 = .ok (.ifCond .eq 7, 3) := by decide +kernel
theorem dX3_faultOfPayment_21 : decode cX3_faultOfPayment 21 = .ok (.iconst 0, 1) := by decide +kernel
theorem dX3_faultOfPayment_22 : decode cX3_faultOfPayment 22 = .ok (.goto 4, 3) := by decide +kernel
theorem dX3_faultOfPayment_25 : decode cX3_faultOfPayment 25 = .ok (.iconst 4, 1) := by decide +kernel
theorem dX3_faultOfPayment_26 : decode cX3_faultOfPayment 26 = .ok (.ireturn, 1) := by decide +kernel
theorem dX3_perform_0 : decode cX3_perform 0 = .ok (.iload_n 2, 1) := by decide +kernel
theorem dX3_perform_1 : decode cX3_perform 1 = .ok (.tableswitch 79 0 5 #[39, 47, 53, 59, 67, 73], 39) := by decide +kernel
theorem dX3_perform_40 : decode cX3_perform 40 = .ok (.aload_n 1, 1) := by decide +kernel
theorem dX3_perform_41 : decode cX3_perform 41 = .ok (.iload_n 3, 1) := by decide +kernel
theorem dX3_perform_42 : decode cX3_perform 42 = .ok (.iload 4, 2) := by decide +kernel
theorem dX3_perform_44 : decode cX3_perform 44 = .ok (.invokevirtual 312, 3) := by decide +kernel
theorem dX3_perform_47 : decode cX3_perform 47 = .ok (.ireturn, 1) := by decide +kernel
theorem dX3_perform_48 : decode cX3_perform 48 = .ok (.aload_n 1, 1) := by decide +kernel
theorem dX3_perform_49 : decode cX3_perform 49 = .ok (.iload_n 3, 1) := by decide +kernel
theorem dX3_perform_50 : decode cX3_perform 50 = .ok (.invokevirtual 315, 3) := by decide +kernel
theorem dX3_perform_53 : decode cX3_perform 53 = .ok (.ireturn, 1) := by decide +kernel
theorem dX3_perform_54 : decode cX3_perform 54 = .ok (.aload_n 1, 1) := by decide +kernel
theorem dX3_perform_55 : decode cX3_perform 55 = .ok (.iload_n 3, 1) := by decide +kernel
theorem dX3_perform_56 : decode cX3_perform 56 = .ok (.invokevirtual 318, 3) := by decide +kernel
theorem dX3_perform_59 : decode cX3_perform 59 = .ok (.ireturn, 1) := by decide +kernel
theorem dX3_perform_60 : decode cX3_perform 60 = .ok (.aload_n 1, 1) := by decide +kernel
theorem dX3_perform_61 : decode cX3_perform 61 = .ok (.iload_n 3, 1) := by decide +kernel
theorem dX3_perform_62 : decode cX3_perform 62 = .ok (.iload 4, 2) := by decide +kernel
theorem dX3_perform_64 : decode cX3_perform 64 = .ok (.invokevirtual 321, 3) := by decide +kernel
theorem dX3_perform_67 : decode cX3_perform 67 = .ok (.ireturn, 1) := by decide +kernel
theorem dX3_perform_68 : decode cX3_perform 68 = .ok (.aload_n 1, 1) := by decide +kernel
theorem dX3_perform_69 : decode cX3_perform 69 = .ok (.iload_n 3, 1) := by decide +kernel
theorem dX3_perform_70 : decode cX3_perform 70 = .ok (.invokevirtual 324, 3) := by decide +kernel
theorem dX3_perform_73 : decode cX3_perform 73 = .ok (.ireturn, 1) := by decide +kernel
theorem dX3_perform_74 : decode cX3_perform 74 = .ok (.aload_n 1, 1) := by decide +kernel
theorem dX3_perform_75 : decode cX3_perform 75 = .ok (.iload_n 3, 1) := by decide +kernel
theorem dX3_perform_76 : decode cX3_perform 76 = .ok (.invokevirtual 327, 3) := by decide +kernel
theorem dX3_perform_79 : decode cX3_perform 79 = .ok (.ireturn, 1) := by decide +kernel
theorem dX3_perform_80 : decode cX3_perform 80 = .ok (.aload_n 0, 1) := by decide +kernel
theorem dX3_perform_81 : decode cX3_perform 81 = .ok (.getfield 29, 3) := by decide +kernel
theorem dX3_perform_84 : decode cX3_perform 84 = .ok (.aload_n 1, 1) := by decide +kernel
theorem dX3_perform_85 : decode cX3_perform 85 = .ok (.iload_n 3, 1) := by decide +kernel
theorem dX3_perform_86 : decode cX3_perform 86 = .ok (.invokevirtual 153, 3) := by decide +kernel
theorem dX3_perform_89 : decode cX3_perform 89 = .ok (.pop, 1) := by decide +kernel
theorem dX3_perform_90 : decode cX3_perform 90 = .ok (.aload_n 1, 1) := by decide +kernel
theorem dX3_perform_91 : decode cX3_perform 91 = .ok (.iload_n 3, 1) := by decide +kernel
theorem dX3_perform_92 : decode cX3_perform 92 = .ok (.aload_n 0, 1) := by decide +kernel
theorem dX3_perform_93 : decode cX3_perform 93 = .ok (.getfield 29, 3) := by decide +kernel
theorem dX3_perform_96 : decode cX3_perform 96 = .ok (.getfield 162, 3) := by decide +kernel
theorem dX3_perform_99 : decode cX3_perform 99 = .ok (.invokevirtual 330, 3) := by decide +kernel
theorem dX3_perform_102 : decode cX3_perform 102 = .ok (.ireturn, 1) := by decide +kernel
theorem dX3_throwFor_0 : decode cX3_throwFor 0 = .ok (.iload_n 0, 1) := by decide +kernel
theorem dX3_throwFor_1 : decode cX3_throwFor 1 = .ok (.tableswitch 90 1 5 #[35, 46, 57, 68, 79], 35) := by decide +kernel
theorem dX3_throwFor_36 : decode cX3_throwFor 36 = .ok (.new 216, 3) := by decide +kernel
theorem dX3_throwFor_39 : decode cX3_throwFor 39 = .ok (.dup, 1) := by decide +kernel
theorem dX3_throwFor_40 : decode cX3_throwFor 40 = .ok (.ldc_w 334, 3) := by decide +kernel
theorem dX3_throwFor_43 : decode cX3_throwFor 43 = .ok (.invokespecial 220, 3) := by decide +kernel
theorem dX3_throwFor_46 : decode cX3_throwFor 46 = .ok (.athrow, 1) := by decide +kernel
theorem dX3_throwFor_47 : decode cX3_throwFor 47 = .ok (.new 225, 3) := by decide +kernel
theorem dX3_throwFor_50 : decode cX3_throwFor 50 = .ok (.dup, 1) := by decide +kernel
theorem dX3_throwFor_51 : decode cX3_throwFor 51 = .ok (.ldc_w 336, 3) := by decide +kernel
theorem dX3_throwFor_54 : decode cX3_throwFor 54 = .ok (.invokespecial 229, 3) := by decide +kernel
theorem dX3_throwFor_57 : decode cX3_throwFor 57 = .ok (.athrow, 1) := by decide +kernel
theorem dX3_throwFor_58 : decode cX3_throwFor 58 = .ok (.new 75, 3) := by decide +kernel
theorem dX3_throwFor_61 : decode cX3_throwFor 61 = .ok (.dup, 1) := by decide +kernel
theorem dX3_throwFor_62 : decode cX3_throwFor 62 = .ok (.ldc_w 338, 3) := by decide +kernel
theorem dX3_throwFor_65 : decode cX3_throwFor 65 = .ok (.invokespecial 79, 3) := by decide +kernel
theorem dX3_throwFor_68 : decode cX3_throwFor 68 = .ok (.athrow, 1) := by decide +kernel
theorem dX3_throwFor_69 : decode cX3_throwFor 69 = .ok (.new 157, 3) := by decide +kernel
theorem dX3_throwFor_72 : decode cX3_throwFor 72 = .ok (.dup, 1) := by decide +kernel
theorem dX3_throwFor_73 : decode cX3_throwFor 73 = .ok (.ldc_w 340, 3) := by decide +kernel
theorem dX3_throwFor_76 : decode cX3_throwFor 76 = .ok (.invokespecial 161, 3) := by decide +kernel
theorem dX3_throwFor_79 : decode cX3_throwFor 79 = .ok (.athrow, 1) := by decide +kernel
theorem dX3_throwFor_80 : decode cX3_throwFor 80 = .ok (.new 89, 3) := by decide +kernel
theorem dX3_throwFor_83 : decode cX3_throwFor 83 = .ok (.dup, 1) := by decide +kernel
theorem dX3_throwFor_84 : decode cX3_throwFor 84 = .ok (.ldc_w 342, 3) := by decide +kernel
theorem dX3_throwFor_87 : decode cX3_throwFor 87 = .ok (.invokespecial 93, 3) := by decide +kernel
theorem dX3_throwFor_90 : decode cX3_throwFor 90 = .ok (.athrow, 1) := by decide +kernel
theorem dX3_throwFor_91 : decode cX3_throwFor 91 = .ok (.return_, 1) := by decide +kernel
theorem dX3_remember_0 : decode cX3_remember 0 = .ok (.aload_n 0, 1) := by decide +kernel
theorem dX3_remember_1 : decode cX3_remember 1 = .ok (.getfield 276, 3) := by decide +kernel
theorem dX3_remember_4 : decode cX3_remember 4 = .ok (.bipush 8, 2) := by decide +kernel
theorem dX3_remember_6 : decode cX3_remember 6 = .ok (.if_icmp .ne 7, 3) := by decide +kernel
theorem dX3_remember_9 : decode cX3_remember 9 = .ok (.aload_n 0, 1) := by decide +kernel
theorem dX3_remember_10 : decode cX3_remember 10 = .ok (.invokevirtual 344, 3) := by decide +kernel
theorem dX3_remember_13 : decode cX3_remember 13 = .ok (.aload_n 0, 1) := by decide +kernel
theorem dX3_remember_14 : decode cX3_remember 14 = .ok (.getfield 22, 3) := by decide +kernel
theorem dX3_remember_17 : decode cX3_remember 17 = .ok (.aload_n 0, 1) := by decide +kernel
theorem dX3_remember_18 : decode cX3_remember 18 = .ok (.getfield 276, 3) := by decide +kernel
theorem dX3_remember_21 : decode cX3_remember 21 = .ok (.aaload, 1) := by decide +kernel
theorem dX3_remember_22 : decode cX3_remember 22 = .ok (.aload_n 0, 1) := by decide +kernel
theorem dX3_remember_23 : decode cX3_remember 23 = .ok (.getfield 10, 3) := by decide +kernel
theorem dX3_remember_26 : decode cX3_remember 26 = .ok (.invokevirtual 245, 3) := by decide +kernel
theorem dX3_remember_29 : decode cX3_remember 29 = .ok (.aload_n 0, 1) := by decide +kernel
theorem dX3_remember_30 : decode cX3_remember 30 = .ok (.dup, 1) := by decide +kernel
theorem dX3_remember_31 : decode cX3_remember 31 = .ok (.getfield 276, 3) := by decide +kernel
theorem dX3_remember_34 : decode cX3_remember 34 = .ok (.iconst 1, 1) := by decide +kernel
theorem dX3_remember_35 : decode cX3_remember 35 = .ok (.iadd, 1) := by decide +kernel
theorem dX3_remember_36 : decode cX3_remember 36 = .ok (.putfield 276, 3) := by decide +kernel
theorem dX3_remember_39 : decode cX3_remember 39 = .ok (.return_, 1) := by decide +kernel
theorem dX3_dropOldestChange_0 : decode cX3_dropOldestChange 0 = .ok (.aload_n 0, 1) := by decide +kernel
theorem dX3_dropOldestChange_1 : decode cX3_dropOldestChange 1 = .ok (.getfield 22, 3) := by decide +kernel
theorem dX3_dropOldestChange_4 : decode cX3_dropOldestChange 4 = .ok (.iconst 0, 1) := by decide +kernel
theorem dX3_dropOldestChange_5 : decode cX3_dropOldestChange 5 = .ok (.aaload, 1) := by decide +kernel
theorem dX3_dropOldestChange_6 : decode cX3_dropOldestChange 6 = .ok (.astore_n 1, 1) := by decide +kernel
theorem dX3_dropOldestChange_7 : decode cX3_dropOldestChange 7 = .ok (.iconst 1, 1) := by decide +kernel
theorem dX3_dropOldestChange_8 : decode cX3_dropOldestChange 8 = .ok (.istore_n 2, 1) := by decide +kernel
theorem dX3_dropOldestChange_9 : decode cX3_dropOldestChange 9 = .ok (.iload_n 2, 1) := by decide +kernel
theorem dX3_dropOldestChange_10 : decode cX3_dropOldestChange 10 = .ok (.bipush 8, 2) := by decide +kernel
theorem dX3_dropOldestChange_12 : decode cX3_dropOldestChange 12 = .ok (.if_icmp .ge 23, 3) := by decide +kernel
theorem dX3_dropOldestChange_15 : decode cX3_dropOldestChange 15 = .ok (.aload_n 0, 1) := by decide +kernel
theorem dX3_dropOldestChange_16 : decode cX3_dropOldestChange 16 = .ok (.getfield 22, 3) := by decide +kernel
theorem dX3_dropOldestChange_19 : decode cX3_dropOldestChange 19 = .ok (.iload_n 2, 1) := by decide +kernel
theorem dX3_dropOldestChange_20 : decode cX3_dropOldestChange 20 = .ok (.iconst 1, 1) := by decide +kernel
theorem dX3_dropOldestChange_21 : decode cX3_dropOldestChange 21 = .ok (.isub, 1) := by decide +kernel
theorem dX3_dropOldestChange_22 : decode cX3_dropOldestChange 22 = .ok (.aload_n 0, 1) := by decide +kernel
theorem dX3_dropOldestChange_23 : decode cX3_dropOldestChange 23 = .ok (.getfield 22, 3) := by decide +kernel
theorem dX3_dropOldestChange_26 : decode cX3_dropOldestChange 26 = .ok (.iload_n 2, 1) := by decide +kernel
theorem dX3_dropOldestChange_27 : decode cX3_dropOldestChange 27 = .ok (.aaload, 1) := by decide +kernel
theorem dX3_dropOldestChange_28 : decode cX3_dropOldestChange 28 = .ok (.aastore, 1) := by decide +kernel
theorem dX3_dropOldestChange_29 : decode cX3_dropOldestChange 29 = .ok (.iinc 2 1, 3) := by decide +kernel
theorem dX3_dropOldestChange_32 : decode cX3_dropOldestChange 32 = .ok (.goto (-23), 3) := by decide +kernel
theorem dX3_dropOldestChange_35 : decode cX3_dropOldestChange 35 = .ok (.aload_n 0, 1) := by decide +kernel
theorem dX3_dropOldestChange_36 : decode cX3_dropOldestChange 36 = .ok (.getfield 22, 3) := by decide +kernel
theorem dX3_dropOldestChange_39 : decode cX3_dropOldestChange 39 = .ok (.bipush 7, 2) := by decide +kernel
theorem dX3_dropOldestChange_41 : decode cX3_dropOldestChange 41 = .ok (.aload_n 1, 1) := by decide +kernel
theorem dX3_dropOldestChange_42 : decode cX3_dropOldestChange 42 = .ok (.aastore, 1) := by decide +kernel
theorem dX3_dropOldestChange_43 : decode cX3_dropOldestChange 43 = .ok (.aload_n 0, 1) := by decide +kernel
theorem dX3_dropOldestChange_44 : decode cX3_dropOldestChange 44 = .ok (.bipush 7, 2) := by decide +kernel
theorem dX3_dropOldestChange_46 : decode cX3_dropOldestChange 46 = .ok (.putfield 276, 3) := by decide +kernel
theorem dX3_dropOldestChange_49 : decode cX3_dropOldestChange 49 = .ok (.return_, 1) := by decide +kernel
theorem dX3_bothWaysAgree_0 : decode cX3_bothWaysAgree 0 = .ok (.aload_n 0, 1) := by decide +kernel
theorem dX3_bothWaysAgree_1 : decode cX3_bothWaysAgree 1 = .ok (.getfield 29, 3) := by decide +kernel
theorem dX3_bothWaysAgree_4 : decode cX3_bothWaysAgree 4 = .ok (.aload_n 0, 1) := by decide +kernel
theorem dX3_bothWaysAgree_5 : decode cX3_bothWaysAgree 5 = .ok (.getfield 10, 3) := by decide +kernel
theorem dX3_bothWaysAgree_8 : decode cX3_bothWaysAgree 8 = .ok (.invokevirtual 133, 3) := by decide +kernel
theorem dX3_bothWaysAgree_11 : decode cX3_bothWaysAgree 11 = .ok (.aload_n 0, 1) := by decide +kernel
theorem dX3_bothWaysAgree_12 : decode cX3_bothWaysAgree 12 = .ok (.getfield 29, 3) := by decide +kernel
theorem dX3_bothWaysAgree_15 : decode cX3_bothWaysAgree 15 = .ok (.aload_n 0, 1) := by decide +kernel
theorem dX3_bothWaysAgree_16 : decode cX3_bothWaysAgree 16 = .ok (.getfield 10, 3) := by decide +kernel
theorem dX3_bothWaysAgree_19 : decode cX3_bothWaysAgree 19 = .ok (.invokevirtual 143, 3) := by decide +kernel
theorem dX3_bothWaysAgree_22 : decode cX3_bothWaysAgree 22 = .ok (.iconst 1, 1) := by decide +kernel
theorem dX3_bothWaysAgree_23 : decode cX3_bothWaysAgree 23 = .ok (.istore_n 1, 1) := by decide +kernel
theorem dX3_bothWaysAgree_24 : decode cX3_bothWaysAgree 24 = .ok (.iload_n 1, 1) := by decide +kernel
theorem dX3_bothWaysAgree_25 : decode cX3_bothWaysAgree 25 = .ok (.bipush 99, 2) := by decide +kernel
theorem dX3_bothWaysAgree_27 : decode cX3_bothWaysAgree 27 = .ok (.if_icmp .gt 30, 3) := by decide +kernel
theorem dX3_bothWaysAgree_30 : decode cX3_bothWaysAgree 30 = .ok (.aload_n 0, 1) := by decide +kernel
theorem dX3_bothWaysAgree_31 : decode cX3_bothWaysAgree 31 = .ok (.getfield 29, 3) := by decide +kernel
theorem dX3_bothWaysAgree_34 : decode cX3_bothWaysAgree 34 = .ok (.iload_n 1, 1) := by decide +kernel
theorem dX3_bothWaysAgree_35 : decode cX3_bothWaysAgree 35 = .ok (.invokevirtual 137, 3) := by decide +kernel
theorem dX3_bothWaysAgree_38 : decode cX3_bothWaysAgree 38 = .ok (.aload_n 0, 1) := by decide +kernel
theorem dX3_bothWaysAgree_39 : decode cX3_bothWaysAgree 39 = .ok (.getfield 29, 3) := by decide +kernel
theorem dX3_bothWaysAgree_42 : decode cX3_bothWaysAgree 42 = .ok (.iload_n 1, 1) := by decide +kernel
theorem dX3_bothWaysAgree_43 : decode cX3_bothWaysAgree 43 = .ok (.invokevirtual 146, 3) := by decide +kernel
theorem dX3_bothWaysAgree_46 : decode cX3_bothWaysAgree 46 = .ok (.if_icmp .eq 5, 3) := by decide +kernel
theorem dX3_bothWaysAgree_49 : decode cX3_bothWaysAgree 49 = .ok (.iconst 0, 1) := by decide +kernel
theorem dX3_bothWaysAgree_50 : decode cX3_bothWaysAgree 50 = .ok (.ireturn, 1) := by decide +kernel
theorem dX3_bothWaysAgree_51 : decode cX3_bothWaysAgree 51 = .ok (.iinc 1 1, 3) := by decide +kernel
theorem dX3_bothWaysAgree_54 : decode cX3_bothWaysAgree 54 = .ok (.goto (-30), 3) := by decide +kernel
theorem dX3_bothWaysAgree_57 : decode cX3_bothWaysAgree 57 = .ok (.iconst 1, 1) := by decide +kernel
theorem dX3_bothWaysAgree_58 : decode cX3_bothWaysAgree 58 = .ok (.ireturn, 1) := by decide +kernel
theorem dX3_requireDie_0 : decode cX3_requireDie 0 = .ok (.aload_n 0, 1) := by decide +kernel
theorem dX3_requireDie_1 : decode cX3_requireDie 1 = .ok (.getfield 10, 3) := by decide +kernel
theorem dX3_requireDie_4 : decode cX3_requireDie 4 = .ok (.iload_n 1, 1) := by decide +kernel
theorem dX3_requireDie_5 : decode cX3_requireDie 5 = .ok (.invokevirtual 347, 3) := by decide +kernel
theorem dX3_requireDie_8 : decode cX3_requireDie 8 = .ok (.ifCond .ne 14, 3) := by decide +kernel
theorem dX3_requireDie_11 : decode cX3_requireDie 11 = .ok (.new 216, 3) := by decide +kernel
theorem dX3_requireDie_14 : decode cX3_requireDie 14 = .ok (.dup, 1) := by decide +kernel
theorem dX3_requireDie_15 : decode cX3_requireDie 15 = .ok (.ldc_w 334, 3) := by decide +kernel
theorem dX3_requireDie_18 : decode cX3_requireDie 18 = .ok (.invokespecial 220, 3) := by decide +kernel
theorem dX3_requireDie_21 : decode cX3_requireDie 21 = .ok (.athrow, 1) := by decide +kernel
theorem dX3_requireDie_22 : decode cX3_requireDie 22 = .ok (.return_, 1) := by decide +kernel
theorem dX3_requireValue_0 : decode cX3_requireValue 0 = .ok (.aload_n 0, 1) := by decide +kernel
theorem dX3_requireValue_1 : decode cX3_requireValue 1 = .ok (.getfield 10, 3) := by decide +kernel
theorem dX3_requireValue_4 : decode cX3_requireValue 4 = .ok (.iload_n 1, 1) := by decide +kernel
theorem dX3_requireValue_5 : decode cX3_requireValue 5 = .ok (.invokevirtual 350, 3) := by decide +kernel
theorem dX3_requireValue_8 : decode cX3_requireValue 8 = .ok (.istore_n 2, 1) := by decide +kernel
theorem dX3_requireValue_9 : decode cX3_requireValue 9 = .ok (.iload_n 2, 1) := by decide +kernel
theorem dX3_requireValue_10 : decode cX3_requireValue 10 = .ok (.iconst (-1), 1) := by decide +kernel
theorem dX3_requireValue_11 : decode cX3_requireValue 11 = .ok (.if_icmp .ne 14, 3) := by decide +kernel
theorem dX3_requireValue_14 : decode cX3_requireValue 14 = .ok (.new 89, 3) := by decide +kernel
theorem dX3_requireValue_17 : decode cX3_requireValue 17 = .ok (.dup, 1) := by decide +kernel
theorem dX3_requireValue_18 : decode cX3_requireValue 18 = .ok (.ldc_w 353, 3) := by decide +kernel
theorem dX3_requireValue_21 : decode cX3_requireValue 21 = .ok (.invokespecial 93, 3) := by decide +kernel
theorem dX3_requireValue_24 : decode cX3_requireValue 24 = .ok (.athrow, 1) := by decide +kernel
theorem dX3_requireValue_25 : decode cX3_requireValue 25 = .ok (.iload_n 2, 1) := by decide +kernel
theorem dX3_requireValue_26 : decode cX3_requireValue 26 = .ok (.ireturn, 1) := by decide +kernel
theorem dX3_requireGrade_0 : decode cX3_requireGrade 0 = .ok (.iload_n 0, 1) := by decide +kernel
theorem dX3_requireGrade_1 : decode cX3_requireGrade 1 = .ok (.bipush 65, 2) := by decide +kernel
theorem dX3_requireGrade_3 : decode cX3_requireGrade 3 = .ok (.if_icmp .lt 9, 3) := by decide +kernel
theorem dX3_requireGrade_6 : decode cX3_requireGrade 6 = .ok (.iload_n 0, 1) := by decide +kernel
theorem dX3_requireGrade_7 : decode cX3_requireGrade 7 = .ok (.bipush 67, 2) := by decide +kernel
theorem dX3_requireGrade_9 : decode cX3_requireGrade 9 = .ok (.if_icmp .le 14, 3) := by decide +kernel
theorem dX3_requireGrade_12 : decode cX3_requireGrade 12 = .ok (.new 225, 3) := by decide +kernel
theorem dX3_requireGrade_15 : decode cX3_requireGrade 15 = .ok (.dup, 1) := by decide +kernel
theorem dX3_requireGrade_16 : decode cX3_requireGrade 16 = .ok (.ldc_w 355, 3) := by decide +kernel
theorem dX3_requireGrade_19 : decode cX3_requireGrade 19 = .ok (.invokespecial 229, 3) := by decide +kernel
theorem dX3_requireGrade_22 : decode cX3_requireGrade 22 = .ok (.athrow, 1) := by decide +kernel
theorem dX3_requireGrade_23 : decode cX3_requireGrade 23 = .ok (.iload_n 0, 1) := by decide +kernel
theorem dX3_requireGrade_24 : decode cX3_requireGrade 24 = .ok (.bipush 65, 2) := by decide +kernel
theorem dX3_requireGrade_26 : decode cX3_requireGrade 26 = .ok (.isub, 1) := by decide +kernel
theorem dX3_requireGrade_27 : decode cX3_requireGrade 27 = .ok (.ireturn, 1) := by decide +kernel
theorem dX3_requireAmount_0 : decode cX3_requireAmount 0 = .ok (.iload_n 0, 1) := by decide +kernel
theorem dX3_requireAmount_1 : decode cX3_requireAmount 1 = .ok (.invokestatic 309, 3) := by decide +kernel
theorem dX3_requireAmount_4 : decode cX3_requireAmount 4 = .ok (.ifCond .ne 14, 3) := by decide +kernel
theorem dX3_requireAmount_7 : decode cX3_requireAmount 7 = .ok (.new 225, 3) := by decide +kernel
theorem dX3_requireAmount_10 : decode cX3_requireAmount 10 = .ok (.dup, 1) := by decide +kernel
theorem dX3_requireAmount_11 : decode cX3_requireAmount 11 = .ok (.ldc_w 357, 3) := by decide +kernel
theorem dX3_requireAmount_14 : decode cX3_requireAmount 14 = .ok (.invokespecial 229, 3) := by decide +kernel
theorem dX3_requireAmount_17 : decode cX3_requireAmount 17 = .ok (.athrow, 1) := by decide +kernel
theorem dX3_requireAmount_18 : decode cX3_requireAmount 18 = .ok (.return_, 1) := by decide +kernel
theorem dX3_requirePayable_0 : decode cX3_requirePayable 0 = .ok (.iload_n 0, 1) := by decide +kernel
theorem dX3_requirePayable_1 : decode cX3_requirePayable 1 = .ok (.sipush 1000, 3) := by decide +kernel
theorem dX3_requirePayable_4 : decode cX3_requirePayable 4 = .ok (.if_icmp .ne 13, 3) := by decide +kernel
theorem dX3_requirePayable_7 : decode cX3_requirePayable 7 = .ok (.new 89, 3) := by decide +kernel
theorem dX3_requirePayable_10 : decode cX3_requirePayable 10 = .ok (.dup, 1) := by decide +kernel
theorem dX3_requirePayable_11 : decode cX3_requirePayable 11 = .ok (.ldc 159, 2) := by decide +kernel
theorem dX3_requirePayable_13 : decode cX3_requirePayable 13 = .ok (.invokespecial 93, 3) := by decide +kernel
theorem dX3_requirePayable_16 : decode cX3_requirePayable 16 = .ok (.athrow, 1) := by decide +kernel
theorem dX3_requirePayable_17 : decode cX3_requirePayable 17 = .ok (.iload_n 0, 1) := by decide +kernel
theorem dX3_requirePayable_18 : decode cX3_requirePayable 18 = .ok (.ireturn, 1) := by decide +kernel
theorem dX3_isAmount_0 : decode cX3_isAmount 0 = .ok (.iload_n 0, 1) := by decide +kernel
theorem dX3_isAmount_1 : decode cX3_isAmount 1 = .ok (.iconst 1, 1) := by decide +kernel
theorem dX3_isAmount_2 : decode cX3_isAmount 2 = .ok (.if_icmp .lt 13, 3) := by decide +kernel
theorem dX3_isAmount_5 : decode cX3_isAmount 5 = .ok (.iload_n 0, 1) := by decide +kernel
theorem dX3_isAmount_6 : decode cX3_isAmount 6 = .ok (.bipush 99, 2) := by decide +kernel
theorem dX3_isAmount_8 : decode cX3_isAmount 8 = .ok (.if_icmp .gt 7, 3) := by decide +kernel
theorem dX3_isAmount_11 : decode cX3_isAmount 11 = .ok (.iconst 1, 1) := by decide +kernel
theorem dX3_isAmount_12 : decode cX3_isAmount 12 = .ok (.goto 4, 3) := by decide +kernel
theorem dX3_isAmount_15 : decode cX3_isAmount 15 = .ok (.iconst 0, 1) := by decide +kernel
theorem dX3_isAmount_16 : decode cX3_isAmount 16 = .ok (.ireturn, 1) := by decide +kernel
theorem dX3_gradeOfWear_0 : decode cX3_gradeOfWear 0 = .ok (.iload_n 0, 1) := by decide +kernel
theorem dX3_gradeOfWear_1 : decode cX3_gradeOfWear 1 = .ok (.bipush 10, 2) := by decide +kernel
theorem dX3_gradeOfWear_3 : decode cX3_gradeOfWear 3 = .ok (.if_icmp .ge 5, 3) := by decide +kernel
theorem dX3_gradeOfWear_6 : decode cX3_gradeOfWear 6 = .ok (.iconst 0, 1) := by decide +kernel
theorem dX3_gradeOfWear_7 : decode cX3_gradeOfWear 7 = .ok (.ireturn, 1) := by decide +kernel
theorem dX3_gradeOfWear_8 : decode cX3_gradeOfWear 8 = .ok (.iload_n 0, 1) := by decide +kernel
theorem dX3_gradeOfWear_9 : decode cX3_gradeOfWear 9 = .ok (.bipush 20, 2) := by decide +kernel
theorem dX3_gradeOfWear_11 : decode cX3_gradeOfWear 11 = .ok (.if_icmp .ge 7, 3) := by decide +kernel
theorem dX3_gradeOfWear_14 : decode cX3_gradeOfWear 14 = .ok (.iconst 1, 1) := by decide +kernel
theorem dX3_gradeOfWear_15 : decode cX3_gradeOfWear 15 = .ok (.goto 4, 3) := by decide +kernel
theorem dX3_gradeOfWear_18 : decode cX3_gradeOfWear 18 = .ok (.iconst 2, 1) := by decide +kernel
theorem dX3_gradeOfWear_19 : decode cX3_gradeOfWear 19 = .ok (.ireturn, 1) := by decide +kernel
theorem dX4_init_0 : decode cX4_init 0 = .ok (.aload_n 0, 1) := by decide +kernel
theorem dX4_init_1 : decode cX4_init 1 = .ok (.invokespecial 1, 3) := by decide +kernel
theorem dX4_init_4 : decode cX4_init 4 = .ok (.aload_n 0, 1) := by decide +kernel
theorem dX4_init_5 : decode cX4_init 5 = .ok (.sipush 144, 3) := by decide +kernel
theorem dX4_init_8 : decode cX4_init 8 = .ok (.newarray .int, 2) := by decide +kernel
theorem dX4_init_10 : decode cX4_init 10 = .ok (.putfield 9, 3) := by decide +kernel
theorem dX4_init_13 : decode cX4_init 13 = .ok (.aload_n 0, 1) := by decide +kernel
theorem dX4_init_14 : decode cX4_init 14 = .ok (.sipush 144, 3) := by decide +kernel
theorem dX4_init_17 : decode cX4_init 17 = .ok (.newarray .int, 2) := by decide +kernel
theorem dX4_init_19 : decode cX4_init 19 = .ok (.putfield 13, 3) := by decide +kernel
theorem dX4_init_22 : decode cX4_init 22 = .ok (.aload_n 0, 1) := by decide +kernel
theorem dX4_init_23 : decode cX4_init 23 = .ok (.sipush 144, 3) := by decide +kernel
theorem dX4_init_26 : decode cX4_init 26 = .ok (.newarray .int, 2) := by decide +kernel
theorem dX4_init_28 : decode cX4_init 28 = .ok (.putfield 16, 3) := by decide +kernel
theorem dX4_init_31 : decode cX4_init 31 = .ok (.aload_n 0, 1) := by decide +kernel
theorem dX4_init_32 : decode cX4_init 32 = .ok (.sipush 1152, 3) := by decide +kernel
theorem dX4_init_35 : decode cX4_init 35 = .ok (.newarray .int, 2) := by decide +kernel
theorem dX4_init_37 : decode cX4_init 37 = .ok (.putfield 19, 3) := by decide +kernel
theorem dX4_init_40 : decode cX4_init 40 = .ok (.aload_n 0, 1) := by decide +kernel
theorem dX4_init_41 : decode cX4_init 41 = .ok (.iconst (-1), 1) := by decide +kernel
theorem dX4_init_42 : decode cX4_init 42 = .ok (.putfield 22, 3) := by decide +kernel
theorem dX4_init_45 : decode cX4_init 45 = .ok (.aload_n 0, 1) := by decide +kernel
theorem dX4_init_46 : decode cX4_init 46 = .ok (.iconst (-1), 1) := by decide +kernel
theorem dX4_init_47 : decode cX4_init 47 = .ok (.putfield 26, 3) := by decide +kernel
theorem dX4_init_50 : decode cX4_init 50 = .ok (.aload_n 0, 1) := by decide +kernel
theorem dX4_init_51 : decode cX4_init 51 = .ok (.bipush 60, 2) := by decide +kernel
theorem dX4_init_53 : decode cX4_init 53 = .ok (.newarray .int, 2) := by decide +kernel
theorem dX4_init_55 : decode cX4_init 55 = .ok (.putfield 29, 3) := by decide +kernel
theorem dX4_init_58 : decode cX4_init 58 = .ok (.aload_n 0, 1) := by decide +kernel
theorem dX4_init_59 : decode cX4_init 59 = .ok (.iconst 5, 1) := by decide +kernel
theorem dX4_init_60 : decode cX4_init 60 = .ok (.newarray .int, 2) := by decide +kernel
theorem dX4_init_62 : decode cX4_init 62 = .ok (.putfield 32, 3) := by decide +kernel
theorem dX4_init_65 : decode cX4_init 65 = .ok (.aload_n 0, 1) := by decide +kernel
theorem dX4_init_66 : decode cX4_init 66 = .ok (.sipush 600, 3) := by decide +kernel
theorem dX4_init_69 : decode cX4_init 69 = .ok (.newarray .int, 2) := by decide +kernel
theorem dX4_init_71 : decode cX4_init 71 = .ok (.putfield 35, 3) := by decide +kernel
theorem dX4_init_74 : decode cX4_init 74 = .ok (.aload_n 0, 1) := by decide +kernel
theorem dX4_init_75 : decode cX4_init 75 = .ok (.iconst 5, 1) := by decide +kernel
theorem dX4_init_76 : decode cX4_init 76 = .ok (.newarray .int, 2) := by decide +kernel
theorem dX4_init_78 : decode cX4_init 78 = .ok (.putfield 38, 3) := by decide +kernel
theorem dX4_init_81 : decode cX4_init 81 = .ok (.aload_n 0, 1) := by decide +kernel
theorem dX4_init_82 : decode cX4_init 82 = .ok (.bipush 80, 2) := by decide +kernel
theorem dX4_init_84 : decode cX4_init 84 = .ok (.newarray .int, 2) := by decide +kernel
theorem dX4_init_86 : decode cX4_init 86 = .ok (.putfield 41, 3) := by decide +kernel
theorem dX4_init_89 : decode cX4_init 89 = .ok (.aload_n 0, 1) := by decide +kernel
theorem dX4_init_90 : decode cX4_init 90 = .ok (.bipush 39, 2) := by decide +kernel
theorem dX4_init_92 : decode cX4_init 92 = .ok (.newarray .char, 2) := by decide +kernel
theorem dX4_init_94 : decode cX4_init 94 = .ok (.dup, 1) := by decide +kernel
theorem dX4_init_95 : decode cX4_init 95 = .ok (.iconst 0, 1) := by decide +kernel
theorem dX4_init_96 : decode cX4_init 96 = .ok (.bipush 100, 2) := by decide +kernel
theorem dX4_init_98 : decode cX4_init 98 = .ok (.castore, 1) := by decide +kernel
theorem dX4_init_99 : decode cX4_init 99 = .ok (.dup, 1) := by decide +kernel
theorem dX4_init_100 : decode cX4_init 100 = .ok (.iconst 1, 1) := by decide +kernel
theorem dX4_init_101 : decode cX4_init 101 = .ok (.bipush 105, 2) := by decide +kernel
theorem dX4_init_103 : decode cX4_init 103 = .ok (.castore, 1) := by decide +kernel
theorem dX4_init_104 : decode cX4_init 104 = .ok (.dup, 1) := by decide +kernel
theorem dX4_init_105 : decode cX4_init 105 = .ok (.iconst 2, 1) := by decide +kernel
theorem dX4_init_106 : decode cX4_init 106 = .ok (.bipush 101, 2) := by decide +kernel
theorem dX4_init_108 : decode cX4_init 108 = .ok (.castore, 1) := by decide +kernel
theorem dX4_init_109 : decode cX4_init 109 = .ok (.dup, 1) := by decide +kernel
theorem dX4_init_110 : decode cX4_init 110 = .ok (.iconst 3, 1) := by decide +kernel
theorem dX4_init_111 : decode cX4_init 111 = .ok (.bipush 32, 2) := by decide +kernel
theorem dX4_init_113 : decode cX4_init 113 = .ok (.castore, 1) := by decide +kernel
theorem dX4_init_114 : decode cX4_init 114 = .ok (.dup, 1) := by decide +kernel
theorem dX4_init_115 : decode cX4_init 115 = .ok (.iconst 4, 1) := by decide +kernel
theorem dX4_init_116 : decode cX4_init 116 = .ok (.bipush 115, 2) := by decide +kernel
theorem dX4_init_118 : decode cX4_init 118 = .ok (.castore, 1) := by decide +kernel
theorem dX4_init_119 : decode cX4_init 119 = .ok (.dup, 1) := by decide +kernel
theorem dX4_init_120 : decode cX4_init 120 = .ok (.iconst 5, 1) := by decide +kernel
theorem dX4_init_121 : decode cX4_init 121 = .ok (.bipush 104, 2) := by decide +kernel
theorem dX4_init_123 : decode cX4_init 123 = .ok (.castore, 1) := by decide +kernel
theorem dX4_init_124 : decode cX4_init 124 = .ok (.dup, 1) := by decide +kernel
theorem dX4_init_125 : decode cX4_init 125 = .ok (.bipush 6, 2) := by decide +kernel
theorem dX4_init_127 : decode cX4_init 127 = .ok (.bipush 97, 2) := by decide +kernel
theorem dX4_init_129 : decode cX4_init 129 = .ok (.castore, 1) := by decide +kernel
theorem dX4_init_130 : decode cX4_init 130 = .ok (.dup, 1) := by decide +kernel
theorem dX4_init_131 : decode cX4_init 131 = .ok (.bipush 7, 2) := by decide +kernel
theorem dX4_init_133 : decode cX4_init 133 = .ok (.bipush 114, 2) := by decide +kernel
theorem dX4_init_135 : decode cX4_init 135 = .ok (.castore, 1) := by decide +kernel
theorem dX4_init_136 : decode cX4_init 136 = .ok (.dup, 1) := by decide +kernel
theorem dX4_init_137 : decode cX4_init 137 = .ok (.bipush 8, 2) := by decide +kernel
theorem dX4_init_139 : decode cX4_init 139 = .ok (.bipush 112, 2) := by decide +kernel
theorem dX4_init_141 : decode cX4_init 141 = .ok (.castore, 1) := by decide +kernel
theorem dX4_init_142 : decode cX4_init 142 = .ok (.dup, 1) := by decide +kernel
theorem dX4_init_143 : decode cX4_init 143 = .ok (.bipush 9, 2) := by decide +kernel
theorem dX4_init_145 : decode cX4_init 145 = .ok (.bipush 101, 2) := by decide +kernel
theorem dX4_init_147 : decode cX4_init 147 = .ok (.castore, 1) := by decide +kernel
theorem dX4_init_148 : decode cX4_init 148 = .ok (.dup, 1) := by decide +kernel
theorem dX4_init_149 : decode cX4_init 149 = .ok (.bipush 10, 2) := by decide +kernel
theorem dX4_init_151 : decode cX4_init 151 = .ok (.bipush 110, 2) := by decide +kernel
theorem dX4_init_153 : decode cX4_init 153 = .ok (.castore, 1) := by decide +kernel
theorem dX4_init_154 : decode cX4_init 154 = .ok (.dup, 1) := by decide +kernel
theorem dX4_init_155 : decode cX4_init 155 = .ok (.bipush 11, 2) := by decide +kernel
theorem dX4_init_157 : decode cX4_init 157 = .ok (.bipush 32, 2) := by decide +kernel
theorem dX4_init_159 : decode cX4_init 159 = .ok (.castore, 1) := by decide +kernel
theorem dX4_init_160 : decode cX4_init 160 = .ok (.dup, 1) := by decide +kernel
theorem dX4_init_161 : decode cX4_init 161 = .ok (.bipush 12, 2) := by decide +kernel
theorem dX4_init_163 : decode cX4_init 163 = .ok (.bipush 108, 2) := by decide +kernel
theorem dX4_init_165 : decode cX4_init 165 = .ok (.castore, 1) := by decide +kernel
theorem dX4_init_166 : decode cX4_init 166 = .ok (.dup, 1) := by decide +kernel
theorem dX4_init_167 : decode cX4_init 167 = .ok (.bipush 13, 2) := by decide +kernel
theorem dX4_init_169 : decode cX4_init 169 = .ok (.bipush 101, 2) := by decide +kernel
theorem dX4_init_171 : decode cX4_init 171 = .ok (.castore, 1) := by decide +kernel
theorem dX4_init_172 : decode cX4_init 172 = .ok (.dup, 1) := by decide +kernel
theorem dX4_init_173 : decode cX4_init 173 = .ok (.bipush 14, 2) := by decide +kernel
theorem dX4_init_175 : decode cX4_init 175 = .ok (.bipush 97, 2) := by decide +kernel
theorem dX4_init_177 : decode cX4_init 177 = .ok (.castore, 1) := by decide +kernel
theorem dX4_init_178 : decode cX4_init 178 = .ok (.dup, 1) := by decide +kernel
theorem dX4_init_179 : decode cX4_init 179 = .ok (.bipush 15, 2) := by decide +kernel
theorem dX4_init_181 : decode cX4_init 181 = .ok (.bipush 102, 2) := by decide +kernel
theorem dX4_init_183 : decode cX4_init 183 = .ok (.castore, 1) := by decide +kernel
theorem dX4_init_184 : decode cX4_init 184 = .ok (.dup, 1) := by decide +kernel
theorem dX4_init_185 : decode cX4_init 185 = .ok (.bipush 16, 2) := by decide +kernel
theorem dX4_init_187 : decode cX4_init 187 = .ok (.bipush 32, 2) := by decide +kernel
theorem dX4_init_189 : decode cX4_init 189 = .ok (.castore, 1) := by decide +kernel
theorem dX4_init_190 : decode cX4_init 190 = .ok (.dup, 1) := by decide +kernel
theorem dX4_init_191 : decode cX4_init 191 = .ok (.bipush 17, 2) := by decide +kernel
theorem dX4_init_193 : decode cX4_init 193 = .ok (.bipush 115, 2) := by decide +kernel
theorem dX4_init_195 : decode cX4_init 195 = .ok (.castore, 1) := by decide +kernel
theorem dX4_init_196 : decode cX4_init 196 = .ok (.dup, 1) := by decide +kernel
theorem dX4_init_197 : decode cX4_init 197 = .ok (.bipush 18, 2) := by decide +kernel
theorem dX4_init_199 : decode cX4_init 199 = .ok (.bipush 116, 2) := by decide +kernel
theorem dX4_init_201 : decode cX4_init 201 = .ok (.castore, 1) := by decide +kernel
theorem dX4_init_202 : decode cX4_init 202 = .ok (.dup, 1) := by decide +kernel
theorem dX4_init_203 : decode cX4_init 203 = .ok (.bipush 19, 2) := by decide +kernel
theorem dX4_init_205 : decode cX4_init 205 = .ok (.bipush 114, 2) := by decide +kernel
theorem dX4_init_207 : decode cX4_init 207 = .ok (.castore, 1) := by decide +kernel
theorem dX4_init_208 : decode cX4_init 208 = .ok (.dup, 1) := by decide +kernel
theorem dX4_init_209 : decode cX4_init 209 = .ok (.bipush 20, 2) := by decide +kernel
theorem dX4_init_211 : decode cX4_init 211 = .ok (.bipush 105, 2) := by decide +kernel
theorem dX4_init_213 : decode cX4_init 213 = .ok (.castore, 1) := by decide +kernel
theorem dX4_init_214 : decode cX4_init 214 = .ok (.dup, 1) := by decide +kernel
theorem dX4_init_215 : decode cX4_init 215 = .ok (.bipush 21, 2) := by decide +kernel
theorem dX4_init_217 : decode cX4_init 217 = .ok (.bipush 107, 2) := by decide +kernel
theorem dX4_init_219 : decode cX4_init 219 = .ok (.castore, 1) := by decide +kernel
theorem dX4_init_220 : decode cX4_init 220 = .ok (.dup, 1) := by decide +kernel
theorem dX4_init_221 : decode cX4_init 221 = .ok (.bipush 22, 2) := by decide +kernel
theorem dX4_init_223 : decode cX4_init 223 = .ok (.bipush 101, 2) := by decide +kernel
theorem dX4_init_225 : decode cX4_init 225 = .ok (.castore, 1) := by decide +kernel
theorem dX4_init_226 : decode cX4_init 226 = .ok (.dup, 1) := by decide +kernel
theorem dX4_init_227 : decode cX4_init 227 = .ok (.bipush 23, 2) := by decide +kernel
theorem dX4_init_229 : decode cX4_init 229 = .ok (.bipush 32, 2) := by decide +kernel
theorem dX4_init_231 : decode cX4_init 231 = .ok (.castore, 1) := by decide +kernel
theorem dX4_init_232 : decode cX4_init 232 = .ok (.dup, 1) := by decide +kernel
theorem dX4_init_233 : decode cX4_init 233 = .ok (.bipush 24, 2) := by decide +kernel
theorem dX4_init_235 : decode cX4_init 235 = .ok (.bipush 121, 2) := by decide +kernel
theorem dX4_init_237 : decode cX4_init 237 = .ok (.castore, 1) := by decide +kernel
theorem dX4_init_238 : decode cX4_init 238 = .ok (.dup, 1) := by decide +kernel
theorem dX4_init_239 : decode cX4_init 239 = .ok (.bipush 25, 2) := by decide +kernel
theorem dX4_init_241 : decode cX4_init 241 = .ok (.bipush 101, 2) := by decide +kernel
theorem dX4_init_243 : decode cX4_init 243 = .ok (.castore, 1) := by decide +kernel
theorem dX4_init_244 : decode cX4_init 244 = .ok (.dup, 1) := by decide +kernel
theorem dX4_init_245 : decode cX4_init 245 = .ok (.bipush 26, 2) := by decide +kernel
theorem dX4_init_247 : decode cX4_init 247 = .ok (.bipush 97, 2) := by decide +kernel
theorem dX4_init_249 : decode cX4_init 249 = .ok (.castore, 1) := by decide +kernel
theorem dX4_init_250 : decode cX4_init 250 = .ok (.dup, 1) := by decide +kernel
theorem dX4_init_251 : decode cX4_init 251 = .ok (.bipush 27, 2) := by decide +kernel
theorem dX4_init_253 : decode cX4_init 253 = .ok (.bipush 114, 2) := by decide +kernel
theorem dX4_init_255 : decode cX4_init 255 = .ok (.castore, 1) := by decide +kernel
theorem dX4_init_256 : decode cX4_init 256 = .ok (.dup, 1) := by decide +kernel
theorem dX4_init_257 : decode cX4_init 257 = .ok (.bipush 28, 2) := by decide +kernel
theorem dX4_init_259 : decode cX4_init 259 = .ok (.bipush 114, 2) := by decide +kernel
theorem dX4_init_261 : decode cX4_init 261 = .ok (.castore, 1) := by decide +kernel
theorem dX4_init_262 : decode cX4_init 262 = .ok (.dup, 1) := by decide +kernel
theorem dX4_init_263 : decode cX4_init 263 = .ok (.bipush 29, 2) := by decide +kernel
theorem dX4_init_265 : decode cX4_init 265 = .ok (.bipush 101, 2) := by decide +kernel
theorem dX4_init_267 : decode cX4_init 267 = .ok (.castore, 1) := by decide +kernel
theorem dX4_init_268 : decode cX4_init 268 = .ok (.dup, 1) := by decide +kernel
theorem dX4_init_269 : decode cX4_init 269 = .ok (.bipush 30, 2) := by decide +kernel
theorem dX4_init_271 : decode cX4_init 271 = .ok (.bipush 99, 2) := by decide +kernel
theorem dX4_init_273 : decode cX4_init 273 = .ok (.castore, 1) := by decide +kernel
theorem dX4_init_274 : decode cX4_init 274 = .ok (.dup, 1) := by decide +kernel
theorem dX4_init_275 : decode cX4_init 275 = .ok (.bipush 31, 2) := by decide +kernel
theorem dX4_init_277 : decode cX4_init 277 = .ok (.bipush 97, 2) := by decide +kernel
theorem dX4_init_279 : decode cX4_init 279 = .ok (.castore, 1) := by decide +kernel
theorem dX4_init_280 : decode cX4_init 280 = .ok (.dup, 1) := by decide +kernel
theorem dX4_init_281 : decode cX4_init 281 = .ok (.bipush 32, 2) := by decide +kernel
theorem dX4_init_283 : decode cX4_init 283 = .ok (.bipush 108, 2) := by decide +kernel
theorem dX4_init_285 : decode cX4_init 285 = .ok (.castore, 1) := by decide +kernel
theorem dX4_init_286 : decode cX4_init 286 = .ok (.dup, 1) := by decide +kernel
theorem dX4_init_287 : decode cX4_init 287 = .ok (.bipush 33, 2) := by decide +kernel
theorem dX4_init_289 : decode cX4_init 289 = .ok (.bipush 108, 2) := by decide +kernel
theorem dX4_init_291 : decode cX4_init 291 = .ok (.castore, 1) := by decide +kernel
theorem dX4_init_292 : decode cX4_init 292 = .ok (.dup, 1) := by decide +kernel
theorem dX4_init_293 : decode cX4_init 293 = .ok (.bipush 34, 2) := by decide +kernel
theorem dX4_init_295 : decode cX4_init 295 = .ok (.bipush 32, 2) := by decide +kernel
theorem dX4_init_297 : decode cX4_init 297 = .ok (.castore, 1) := by decide +kernel
theorem dX4_init_298 : decode cX4_init 298 = .ok (.dup, 1) := by decide +kernel
theorem dX4_init_299 : decode cX4_init 299 = .ok (.bipush 35, 2) := by decide +kernel
theorem dX4_init_301 : decode cX4_init 301 = .ok (.bipush 112, 2) := by decide +kernel
theorem dX4_init_303 : decode cX4_init 303 = .ok (.castore, 1) := by decide +kernel
theorem dX4_init_304 : decode cX4_init 304 = .ok (.dup, 1) := by decide +kernel
theorem dX4_init_305 : decode cX4_init 305 = .ok (.bipush 36, 2) := by decide +kernel
theorem dX4_init_307 : decode cX4_init 307 = .ok (.bipush 97, 2) := by decide +kernel
theorem dX4_init_309 : decode cX4_init 309 = .ok (.castore, 1) := by decide +kernel
theorem dX4_init_310 : decode cX4_init 310 = .ok (.dup, 1) := by decide +kernel
theorem dX4_init_311 : decode cX4_init 311 = .ok (.bipush 37, 2) := by decide +kernel
theorem dX4_init_313 : decode cX4_init 313 = .ok (.bipush 121, 2) := by decide +kernel
theorem dX4_init_315 : decode cX4_init 315 = .ok (.castore, 1) := by decide +kernel
theorem dX4_init_316 : decode cX4_init 316 = .ok (.dup, 1) := by decide +kernel
theorem dX4_init_317 : decode cX4_init 317 = .ok (.bipush 38, 2) := by decide +kernel
theorem dX4_init_319 : decode cX4_init 319 = .ok (.bipush 32, 2) := by decide +kernel
theorem dX4_init_321 : decode cX4_init 321 = .ok (.castore, 1) := by decide +kernel
theorem dX4_init_322 : decode cX4_init 322 = .ok (.putfield 44, 3) := by decide +kernel
theorem dX4_init_325 : decode cX4_init 325 = .ok (.aload_n 0, 1) := by decide +kernel
theorem dX4_init_326 : decode cX4_init 326 = .ok (.bipush 8, 2) := by decide +kernel
theorem dX4_init_328 : decode cX4_init 328 = .ok (.newarray .int, 2) := by decide +kernel
theorem dX4_init_330 : decode cX4_init 330 = .ok (.dup, 1) := by decide +kernel
theorem dX4_init_331 : decode cX4_init 331 = .ok (.iconst 0, 1) := by decide +kernel
theorem dX4_init_332 : decode cX4_init 332 = .ok (.iconst 0, 1) := by decide +kernel
theorem dX4_init_333 : decode cX4_init 333 = .ok (.iastore, 1) := by decide +kernel
theorem dX4_init_334 : decode cX4_init 334 = .ok (.dup, 1) := by decide +kernel
theorem dX4_init_335 : decode cX4_init 335 = .ok (.iconst 1, 1) := by decide +kernel
theorem dX4_init_336 : decode cX4_init 336 = .ok (.iconst 4, 1) := by decide +kernel
theorem dX4_init_337 : decode cX4_init 337 = .ok (.iastore, 1) := by decide +kernel
theorem dX4_init_338 : decode cX4_init 338 = .ok (.dup, 1) := by decide +kernel
theorem dX4_init_339 : decode cX4_init 339 = .ok (.iconst 2, 1) := by decide +kernel
theorem dX4_init_340 : decode cX4_init 340 = .ok (.bipush 12, 2) := by decide +kernel
theorem dX4_init_342 : decode cX4_init 342 = .ok (.iastore, 1) := by decide +kernel
theorem dX4_init_343 : decode cX4_init 343 = .ok (.dup, 1) := by decide +kernel
theorem dX4_init_344 : decode cX4_init 344 = .ok (.iconst 3, 1) := by decide +kernel
theorem dX4_init_345 : decode cX4_init 345 = .ok (.bipush 17, 2) := by decide +kernel
theorem dX4_init_347 : decode cX4_init 347 = .ok (.iastore, 1) := by decide +kernel
theorem dX4_init_348 : decode cX4_init 348 = .ok (.dup, 1) := by decide +kernel
theorem dX4_init_349 : decode cX4_init 349 = .ok (.iconst 4, 1) := by decide +kernel
theorem dX4_init_350 : decode cX4_init 350 = .ok (.bipush 24, 2) := by decide +kernel
theorem dX4_init_352 : decode cX4_init 352 = .ok (.iastore, 1) := by decide +kernel
theorem dX4_init_353 : decode cX4_init 353 = .ok (.dup, 1) := by decide +kernel
theorem dX4_init_354 : decode cX4_init 354 = .ok (.iconst 5, 1) := by decide +kernel
theorem dX4_init_355 : decode cX4_init 355 = .ok (.bipush 28, 2) := by decide +kernel
theorem dX4_init_357 : decode cX4_init 357 = .ok (.iastore, 1) := by decide +kernel
theorem dX4_init_358 : decode cX4_init 358 = .ok (.dup, 1) := by decide +kernel
theorem dX4_init_359 : decode cX4_init 359 = .ok (.bipush 6, 2) := by decide +kernel
theorem dX4_init_361 : decode cX4_init 361 = .ok (.bipush 35, 2) := by decide +kernel
theorem dX4_init_363 : decode cX4_init 363 = .ok (.iastore, 1) := by decide +kernel
theorem dX4_init_364 : decode cX4_init 364 = .ok (.dup, 1) := by decide +kernel
theorem dX4_init_365 : decode cX4_init 365 = .ok (.bipush 7, 2) := by decide +kernel
theorem dX4_init_367 : decode cX4_init 367 = .ok (.bipush 39, 2) := by decide +kernel
theorem dX4_init_369 : decode cX4_init 369 = .ok (.iastore, 1) := by decide +kernel
theorem dX4_init_370 : decode cX4_init 370 = .ok (.putfield 48, 3) := by decide +kernel
theorem dX4_init_373 : decode cX4_init 373 = .ok (.aload_n 0, 1) := by decide +kernel
theorem dX4_init_374 : decode cX4_init 374 = .ok (.sipush 183, 3) := by decide +kernel
theorem dX4_init_377 : decode cX4_init 377 = .ok (.newarray .int, 2) := by decide +kernel
theorem dX4_init_379 : decode cX4_init 379 = .ok (.putfield 51, 3) := by decide +kernel
theorem dX4_init_382 : decode cX4_init 382 = .ok (.return_, 1) := by decide +kernel
theorem dX4_thrown_0 : decode cX4_thrown 0 = .ok (.aload_n 0, 1) := by decide +kernel
theorem dX4_thrown_1 : decode cX4_thrown 1 = .ok (.getfield 54, 3) := by decide +kernel
theorem dX4_thrown_4 : decode cX4_thrown 4 = .ok (.ireturn, 1) := by decide +kernel
theorem dX4_throwing_0 : decode cX4_throwing 0 = .ok (.aload_n 0, 1) := by decide +kernel
theorem dX4_throwing_1 : decode cX4_throwing 1 = .ok (.iload_n 1, 1) := by decide +kernel
theorem dX4_throwing_2 : decode cX4_throwing 2 = .ok (.putfield 54, 3) := by decide +kernel
theorem dX4_throwing_5 : decode cX4_throwing 5 = .ok (.iconst (-1), 1) := by decide +kernel
theorem dX4_throwing_6 : decode cX4_throwing 6 = .ok (.ireturn, 1) := by decide +kernel
theorem dX4_in_0 : decode cX4_in 0 = .ok (.lload_n 0, 1) := by decide +kernel
theorem dX4_in_1 : decode cX4_in 1 = .ok (.lload_n 2, 1) := by decide +kernel
theorem dX4_in_2 : decode cX4_in 2 = .ok (.lcmp, 1) := by decide +kernel
theorem dX4_in_3 : decode cX4_in 3 = .ok (.ifCond .lt 14, 3) := by decide +kernel
theorem dX4_in_6 : decode cX4_in 6 = .ok (.lload_n 0, 1) := by decide +kernel
theorem dX4_in_7 : decode cX4_in 7 = .ok (.lload 4, 2) := by decide +kernel
theorem dX4_in_9 : decode cX4_in 9 = .ok (.lcmp, 1) := by decide +kernel
theorem dX4_in_10 : decode cX4_in 10 = .ok (.ifCond .gt 7, 3) := by decide +kernel
theorem dX4_in_13 : decode cX4_in 13 = .ok (.iconst 1, 1) := by decide +kernel
theorem dX4_in_14 : decode cX4_in 14 = .ok (.goto 4, 3) := by decide +kernel
theorem dX4_in_17 : decode cX4_in 17 = .ok (.iconst 0, 1) := by decide +kernel
theorem dX4_in_18 : decode cX4_in 18 = .ok (.ireturn, 1) := by decide +kernel
theorem dX4_starts_0 : decode cX4_starts 0 = .ok (.aload_n 0, 1) := by decide +kernel
theorem dX4_starts_1 : decode cX4_starts 1 = .ok (.iconst 0, 1) := by decide +kernel
theorem dX4_starts_2 : decode cX4_starts 2 = .ok (.putfield 54, 3) := by decide +kernel
theorem dX4_starts_5 : decode cX4_starts 5 = .ok (.iconst 0, 1) := by decide +kernel
theorem dX4_starts_6 : decode cX4_starts 6 = .ok (.istore_n 1, 1) := by decide +kernel
theorem dX4_starts_7 : decode cX4_starts 7 = .ok (.iload_n 1, 1) := by decide +kernel
theorem dX4_starts_8 : decode cX4_starts 8 = .ok (.sipush 144, 3) := by decide +kernel
theorem dX4_starts_11 : decode cX4_starts 11 = .ok (.if_icmp .ge 21, 3) := by decide +kernel
theorem dX4_starts_14 : decode cX4_starts 14 = .ok (.aload_n 0, 1) := by decide +kernel
theorem dX4_starts_15 : decode cX4_starts 15 = .ok (.getfield 13, 3) := by decide +kernel
theorem dX4_starts_18 : decode cX4_starts 18 = .ok (.iload_n 1, 1) := by decide +kernel
theorem dX4_starts_19 : decode cX4_starts 19 = .ok (.aload_n 0, 1) := by decide +kernel
theorem dX4_starts_20 : decode cX4_starts 20 = .ok (.getfield 9, 3) := by decide +kernel
theorem dX4_starts_23 : decode cX4_starts 23 = .ok (.iload_n 1, 1) := by decide +kernel
theorem dX4_starts_24 : decode cX4_starts 24 = .ok (.iaload, 1) := by decide +kernel
theorem dX4_starts_25 : decode cX4_starts 25 = .ok (.iastore, 1) := by decide +kernel
theorem dX4_starts_26 : decode cX4_starts 26 = .ok (.iinc 1 1, 3) := by decide +kernel
theorem dX4_starts_29 : decode cX4_starts 29 = .ok (.goto (-22), 3) := by decide +kernel
theorem dX4_starts_32 : decode cX4_starts 32 = .ok (.return_, 1) := by decide +kernel
theorem dX4_changed_0 : decode cX4_changed 0 = .ok (.aload_n 0, 1) := by decide +kernel
theorem dX4_changed_1 : decode cX4_changed 1 = .ok (.getfield 54, 3) := by decide +kernel
theorem dX4_changed_4 : decode cX4_changed 4 = .ok (.ifCond .le 5, 3) := by decide +kernel
theorem dX4_changed_7 : decode cX4_changed 7 = .ok (.iload_n 1, 1) := by decide +kernel
theorem dX4_changed_8 : decode cX4_changed 8 = .ok (.ireturn, 1) := by decide +kernel
theorem dX4_changed_9 : decode cX4_changed 9 = .ok (.aload_n 0, 1) := by decide +kernel
theorem dX4_changed_10 : decode cX4_changed 10 = .ok (.getfield 57, 3) := by decide +kernel
theorem dX4_changed_13 : decode cX4_changed 13 = .ok (.bipush 8, 2) := by decide +kernel
theorem dX4_changed_15 : decode cX4_changed 15 = .ok (.if_icmp .ne 44, 3) := by decide +kernel
theorem dX4_changed_18 : decode cX4_changed 18 = .ok (.iconst 0, 1) := by decide +kernel
theorem dX4_changed_19 : decode cX4_changed 19 = .ok (.istore_n 2, 1) := by decide +kernel
theorem dX4_changed_20 : decode cX4_changed 20 = .ok (.iload_n 2, 1) := by decide +kernel
theorem dX4_changed_21 : decode cX4_changed 21 = .ok (.sipush 1008, 3) := by decide +kernel
theorem dX4_changed_24 : decode cX4_changed 24 = .ok (.if_icmp .ge 25, 3) := by decide +kernel
theorem dX4_changed_27 : decode cX4_changed 27 = .ok (.aload_n 0, 1) := by decide +kernel
theorem dX4_changed_28 : decode cX4_changed 28 = .ok (.getfield 19, 3) := by decide +kernel
theorem dX4_changed_31 : decode cX4_changed 31 = .ok (.iload_n 2, 1) := by decide +kernel
theorem dX4_changed_32 : decode cX4_changed 32 = .ok (.aload_n 0, 1) := by decide +kernel
theorem dX4_changed_33 : decode cX4_changed 33 = .ok (.getfield 19, 3) := by decide +kernel
theorem dX4_changed_36 : decode cX4_changed 36 = .ok (.iload_n 2, 1) := by decide +kernel
theorem dX4_changed_37 : decode cX4_changed 37 = .ok (.sipush 144, 3) := by decide +kernel
theorem dX4_changed_40 : decode cX4_changed 40 = .ok (.iadd, 1) := by decide +kernel
theorem dX4_changed_41 : decode cX4_changed 41 = .ok (.iaload, 1) := by decide +kernel
theorem dX4_changed_42 : decode cX4_changed 42 = .ok (.iastore, 1) := by decide +kernel
theorem dX4_changed_43 : decode cX4_changed 43 = .ok (.iinc 2 1, 3) := by decide +kernel
theorem dX4_changed_46 : decode cX4_changed 46 = .ok (.goto (-26), 3) := by decide +kernel
theorem dX4_changed_49 : decode cX4_changed 49 = .ok (.aload_n 0, 1) := by decide +kernel
theorem dX4_changed_50 : decode cX4_changed 50 = .ok (.dup, 1) := by decide +kernel
theorem dX4_changed_51 : decode cX4_changed 51 = .ok (.getfield 57, 3) := by decide +kernel
theorem dX4_changed_54 : decode cX4_changed 54 = .ok (.iconst 1, 1) := by decide +kernel
theorem dX4_changed_55 : decode cX4_changed 55 = .ok (.isub, 1) := by decide +kernel
theorem dX4_changed_56 : decode cX4_changed 56 = .ok (.putfield 57, 3) := by decide +kernel
theorem dX4_changed_59 : decode cX4_changed 59 = .ok (.iconst 0, 1) := by decide +kernel
theorem dX4_changed_60 : decode cX4_changed 60 = .ok (.istore_n 2, 1) := by decide +kernel
theorem dX4_changed_61 : decode cX4_changed 61 = .ok (.iload_n 2, 1) := by decide +kernel
theorem dX4_changed_62 : decode cX4_changed 62 = .ok (.sipush 144, 3) := by decide +kernel
theorem dX4_changed_65 : decode cX4_changed 65 = .ok (.if_icmp .ge 30, 3) := by decide +kernel
theorem dX4_changed_68 : decode cX4_changed 68 = .ok (.aload_n 0, 1) := by decide +kernel
theorem dX4_changed_69 : decode cX4_changed 69 = .ok (.getfield 19, 3) := by decide +kernel
theorem dX4_changed_72 : decode cX4_changed 72 = .ok (.sipush 144, 3) := by decide +kernel
theorem dX4_changed_75 : decode cX4_changed 75 = .ok (.aload_n 0, 1) := by decide +kernel
theorem dX4_changed_76 : decode cX4_changed 76 = .ok (.getfield 57, 3) := by decide +kernel
theorem dX4_changed_79 : decode cX4_changed 79 = .ok (.imul, 1) := by decide +kernel
theorem dX4_changed_80 : decode cX4_changed 80 = .ok (.iload_n 2, 1) := by decide +kernel
theorem dX4_changed_81 : decode cX4_changed 81 = .ok (.iadd, 1) := by decide +kernel
theorem dX4_changed_82 : decode cX4_changed 82 = .ok (.aload_n 0, 1) := by decide +kernel
theorem dX4_changed_83 : decode cX4_changed 83 = .ok (.getfield 13, 3) := by decide +kernel
theorem dX4_changed_86 : decode cX4_changed 86 = .ok (.iload_n 2, 1) := by decide +kernel
theorem dX4_changed_87 : decode cX4_changed 87 = .ok (.iaload, 1) := by decide +kernel
theorem dX4_changed_88 : decode cX4_changed 88 = .ok (.iastore, 1) := by decide +kernel
theorem dX4_changed_89 : decode cX4_changed 89 = .ok (.iinc 2 1, 3) := by decide +kernel
theorem dX4_changed_92 : decode cX4_changed 92 = .ok (.goto (-31), 3) := by decide +kernel
theorem dX4_changed_95 : decode cX4_changed 95 = .ok (.aload_n 0, 1) := by decide +kernel
theorem dX4_changed_96 : decode cX4_changed 96 = .ok (.dup, 1) := by decide +kernel
theorem dX4_changed_97 : decode cX4_changed 97 = .ok (.getfield 57, 3) := by decide +kernel
theorem dX4_changed_100 : decode cX4_changed 100 = .ok (.iconst 1, 1) := by decide +kernel
theorem dX4_changed_101 : decode cX4_changed 101 = .ok (.iadd, 1) := by decide +kernel
theorem dX4_changed_102 : decode cX4_changed 102 = .ok (.putfield 57, 3) := by decide +kernel
theorem dX4_changed_105 : decode cX4_changed 105 = .ok (.iload_n 1, 1) := by decide +kernel
theorem dX4_changed_106 : decode cX4_changed 106 = .ok (.ireturn, 1) := by decide +kernel
theorem dX4_dieAt_0 : decode cX4_dieAt 0 = .ok (.bipush 9, 2) := by decide +kernel
theorem dX4_dieAt_2 : decode cX4_dieAt 2 = .ok (.iconst 3, 1) := by decide +kernel
theorem dX4_dieAt_3 : decode cX4_dieAt 3 = .ok (.iload_n 0, 1) := by decide +kernel
theorem dX4_dieAt_4 : decode cX4_dieAt 4 = .ok (.imul, 1) := by decide +kernel
theorem dX4_dieAt_5 : decode cX4_dieAt 5 = .ok (.iadd, 1) := by decide +kernel
theorem dX4_dieAt_6 : decode cX4_dieAt 6 = .ok (.ireturn, 1) := by decide +kernel
theorem dX4_coinAt_0 : decode cX4_coinAt 0 = .ok (.bipush 24, 2) := by decide +kernel
theorem dX4_coinAt_2 : decode cX4_coinAt 2 = .ok (.iconst 3, 1) := by decide +kernel
theorem dX4_coinAt_3 : decode cX4_coinAt 3 = .ok (.iload_n 0, 1) := by decide +kernel
theorem dX4_coinAt_4 : decode cX4_coinAt 4 = .ok (.imul, 1) := by decide +kernel
theorem dX4_coinAt_5 : decode cX4_coinAt 5 = .ok (.iadd, 1) := by decide +kernel
theorem dX4_coinAt_6 : decode cX4_coinAt 6 = .ok (.ireturn, 1) := by decide +kernel
theorem dX4_isDie_0 : decode cX4_isDie 0 = .ok (.iload_n 1, 1) := by decide +kernel
theorem dX4_isDie_1 : decode cX4_isDie 1 = .ok (.i2l, 1) := by decide +kernel
theorem dX4_isDie_2 : decode cX4_isDie 2 = .ok (.lconst 0, 1) := by decide +kernel
theorem dX4_isDie_3 : decode cX4_isDie 3 = .ok (.aload_n 0, 1) := by decide +kernel
theorem dX4_isDie_4 : decode cX4_isDie 4 = .ok (.getfield 9, 3) := by decide +kernel
theorem dX4_isDie_7 : decode cX4_isDie 7 = .ok (.iconst 0, 1) := by decide +kernel
theorem dX4_isDie_8 : decode cX4_isDie 8 = .ok (.iaload, 1) := by decide +kernel
theorem dX4_isDie_9 : decode cX4_isDie 9 = .ok (.iconst 1, 1) := by decide +kernel
theorem dX4_isDie_10 : decode cX4_isDie 10 = .ok (.isub, 1) := by decide +kernel
theorem dX4_isDie_11 : decode cX4_isDie 11 = .ok (.i2l, 1) := by decide +kernel
theorem dX4_isDie_12 : decode cX4_isDie 12 = .ok (.invokestatic 60, 3) := by decide +kernel
theorem dX4_isDie_15 : decode cX4_isDie 15 = .ok (.ireturn, 1) := by decide +kernel
theorem dX4_dieOf_0 : decode cX4_dieOf 0 = .ok (.iconst 0, 1) := by decide +kernel
theorem dX4_dieOf_1 : decode cX4_dieOf 1 = .ok (.istore_n 2, 1) := by decide +kernel
theorem dX4_dieOf_2 : decode cX4_dieOf 2 = .ok (.iload_n 2, 1) := by decide +kernel
theorem dX4_dieOf_3 : decode cX4_dieOf 3 = .ok (.aload_n 0, 1) := by decide +kernel
theorem dX4_dieOf_4 : decode cX4_dieOf 4 = .ok (.getfield 9, 3) := by decide +kernel
theorem dX4_dieOf_7 : decode cX4_dieOf 7 = .ok (.iconst 0, 1) := by decide +kernel
theorem dX4_dieOf_8 : decode cX4_dieOf 8 = .ok (.iaload, 1) := by decide +kernel
theorem dX4_dieOf_9 : decode cX4_dieOf 9 = .ok (.if_icmp .ge 24, 3) := by decide +kernel
theorem dX4_dieOf_12 : decode cX4_dieOf 12 = .ok (.aload_n 0, 1) := by decide +kernel
theorem dX4_dieOf_13 : decode cX4_dieOf 13 = .ok (.getfield 9, 3) := by decide +kernel
theorem dX4_dieOf_16 : decode cX4_dieOf 16 = .ok (.iload_n 2, 1) := by decide +kernel
theorem dX4_dieOf_17 : decode cX4_dieOf 17 = .ok (.invokestatic 64, 3) := by decide +kernel
theorem dX4_dieOf_20 : decode cX4_dieOf 20 = .ok (.iaload, 1) := by decide +kernel
theorem dX4_dieOf_21 : decode cX4_dieOf 21 = .ok (.iload_n 1, 1) := by decide +kernel
theorem dX4_dieOf_22 : decode cX4_dieOf 22 = .ok (.if_icmp .ne 5, 3) := by decide +kernel
theorem dX4_dieOf_25 : decode cX4_dieOf 25 = .ok (.iload_n 2, 1) := by decide +kernel
theorem dX4_dieOf_26 : decode cX4_dieOf 26 = .ok (.ireturn, 1) := by decide +kernel
theorem dX4_dieOf_27 : decode cX4_dieOf 27 = .ok (.iinc 2 1, 3) := by decide +kernel
theorem dX4_dieOf_30 : decode cX4_dieOf 30 = .ok (.goto (-28), 3) := by decide +kernel
theorem dX4_dieOf_33 : decode cX4_dieOf 33 = .ok (.iconst (-1), 1) := by decide +kernel
theorem dX4_dieOf_34 : decode cX4_dieOf 34 = .ok (.ireturn, 1) := by decide +kernel
theorem dX4_weightOfCoin_0 : decode cX4_weightOfCoin 0 = .ok (.aload_n 0, 1) := by decide +kernel
theorem dX4_weightOfCoin_1 : decode cX4_weightOfCoin 1 = .ok (.getfield 9, 3) := by decide +kernel
theorem dX4_weightOfCoin_4 : decode cX4_weightOfCoin 4 = .ok (.aload_n 0, 1) := by decide +kernel
theorem dX4_weightOfCoin_5 : decode cX4_weightOfCoin 5 = .ok (.getfield 9, 3) := by decide +kernel
theorem dX4_weightOfCoin_8 : decode cX4_weightOfCoin 8 = .ok (.iload_n 1, 1) := by decide +kernel
theorem dX4_weightOfCoin_9 : decode cX4_weightOfCoin 9 = .ok (.invokestatic 68, 3) := by decide +kernel
theorem dX4_weightOfCoin_12 : decode cX4_weightOfCoin 12 = .ok (.iaload, 1) := by decide +kernel
theorem dX4_weightOfCoin_13 : decode cX4_weightOfCoin 13 = .ok (.invokestatic 64, 3) := by decide +kernel
theorem dX4_weightOfCoin_16 : decode cX4_weightOfCoin 16 = .ok (.iconst 1, 1) := by decide +kernel
theorem dX4_weightOfCoin_17 : decode cX4_weightOfCoin 17 = .ok (.iadd, 1) := by decide +kernel
theorem dX4_weightOfCoin_18 : decode cX4_weightOfCoin 18 = .ok (.iaload, 1) := by decide +kernel
theorem dX4_weightOfCoin_19 : decode cX4_weightOfCoin 19 = .ok (.ireturn, 1) := by decide +kernel
theorem dX4_valueOfCoin_0 : decode cX4_valueOfCoin 0 = .ok (.aload_n 0, 1) := by decide +kernel
theorem dX4_valueOfCoin_1 : decode cX4_valueOfCoin 1 = .ok (.getfield 9, 3) := by decide +kernel
theorem dX4_valueOfCoin_4 : decode cX4_valueOfCoin 4 = .ok (.aload_n 0, 1) := by decide +kernel
theorem dX4_valueOfCoin_5 : decode cX4_valueOfCoin 5 = .ok (.getfield 9, 3) := by decide +kernel
theorem dX4_valueOfCoin_8 : decode cX4_valueOfCoin 8 = .ok (.iload_n 1, 1) := by decide +kernel
theorem dX4_valueOfCoin_9 : decode cX4_valueOfCoin 9 = .ok (.invokestatic 68, 3) := by decide +kernel
theorem dX4_valueOfCoin_12 : decode cX4_valueOfCoin 12 = .ok (.iaload, 1) := by decide +kernel
theorem dX4_valueOfCoin_13 : decode cX4_valueOfCoin 13 = .ok (.invokestatic 64, 3) := by decide +kernel
theorem dX4_valueOfCoin_16 : decode cX4_valueOfCoin 16 = .ok (.iaload, 1) := by decide +kernel
theorem dX4_valueOfCoin_17 : decode cX4_valueOfCoin 17 = .ok (.ireturn, 1) := by decide +kernel
theorem dX4_many_0 : decode cX4_many 0 = .ok (.iconst 0, 1) := by decide +kernel
theorem dX4_many_1 : decode cX4_many 1 = .ok (.istore_n 2, 1) := by decide +kernel
theorem dX4_many_2 : decode cX4_many 2 = .ok (.iconst 0, 1) := by decide +kernel
theorem dX4_many_3 : decode cX4_many 3 = .ok (.istore_n 3, 1) := by decide +kernel
theorem dX4_many_4 : decode cX4_many 4 = .ok (.iload_n 3, 1) := by decide +kernel
theorem dX4_many_5 : decode cX4_many 5 = .ok (.aload_n 0, 1) := by decide +kernel
theorem dX4_many_6 : decode cX4_many 6 = .ok (.getfield 9, 3) := by decide +kernel
theorem dX4_many_9 : decode cX4_many 9 = .ok (.iconst 3, 1) := by decide +kernel
theorem dX4_many_10 : decode cX4_many 10 = .ok (.iaload, 1) := by decide +kernel
theorem dX4_many_11 : decode cX4_many 11 = .ok (.if_icmp .ge 30, 3) := by decide +kernel
theorem dX4_many_14 : decode cX4_many 14 = .ok (.iload_n 2, 1) := by decide +kernel
theorem dX4_many_15 : decode cX4_many 15 = .ok (.aload_n 0, 1) := by decide +kernel
theorem dX4_many_16 : decode cX4_many 16 = .ok (.getfield 9, 3) := by decide +kernel
theorem dX4_many_19 : decode cX4_many 19 = .ok (.iload_n 3, 1) := by decide +kernel
theorem dX4_many_20 : decode cX4_many 20 = .ok (.invokestatic 68, 3) := by decide +kernel
theorem dX4_many_23 : decode cX4_many 23 = .ok (.iaload, 1) := by decide +kernel
theorem dX4_many_24 : decode cX4_many 24 = .ok (.iload_n 1, 1) := by decide +kernel
theorem dX4_many_25 : decode cX4_many 25 = .ok (.if_icmp .ne 7, 3) := by decide +kernel
theorem dX4_many_28 : decode cX4_many 28 = .ok (.iconst 1, 1) := by decide +kernel
theorem dX4_many_29 : decode cX4_many 29 = .ok (.goto 4, 3) := by decide +kernel
theorem dX4_many_32 : decode cX4_many 32 = .ok (.iconst 0, 1) := by decide +kernel
theorem dX4_many_33 : decode cX4_many 33 = .ok (.iadd, 1) := by decide +kernel
theorem dX4_many_34 : decode cX4_many 34 = .ok (.istore_n 2, 1) := by decide +kernel
theorem dX4_many_35 : decode cX4_many 35 = .ok (.iinc 3 1, 3) := by decide +kernel
theorem dX4_many_38 : decode cX4_many 38 = .ok (.goto (-34), 3) := by decide +kernel
theorem dX4_many_41 : decode cX4_many 41 = .ok (.iload_n 2, 1) := by decide +kernel
theorem dX4_many_42 : decode cX4_many 42 = .ok (.ireturn, 1) := by decide +kernel
theorem dX4_takesOut_0 : decode cX4_takesOut 0 = .ok (.iload_n 1, 1) := by decide +kernel
theorem dX4_takesOut_1 : decode cX4_takesOut 1 = .ok (.invokestatic 68, 3) := by decide +kernel
theorem dX4_takesOut_4 : decode cX4_takesOut 4 = .ok (.istore_n 2, 1) := by decide +kernel
theorem dX4_takesOut_5 : decode cX4_takesOut 5 = .ok (.iload_n 2, 1) := by decide +kernel
theorem dX4_takesOut_6 : decode cX4_takesOut 6 = .ok (.sipush 141, 3) := by decide +kernel
theorem dX4_takesOut_9 : decode cX4_takesOut 9 = .ok (.if_icmp .ge 23, 3) := by decide +kernel
theorem dX4_takesOut_12 : decode cX4_takesOut 12 = .ok (.aload_n 0, 1) := by decide +kernel
theorem dX4_takesOut_13 : decode cX4_takesOut 13 = .ok (.getfield 9, 3) := by decide +kernel
theorem dX4_takesOut_16 : decode cX4_takesOut 16 = .ok (.iload_n 2, 1) := by decide +kernel
theorem dX4_takesOut_17 : decode cX4_takesOut 17 = .ok (.aload_n 0, 1) := by decide +kernel
theorem dX4_takesOut_18 : decode cX4_takesOut 18 = .ok (.getfield 9, 3) := by decide +kernel
theorem dX4_takesOut_21 : decode cX4_takesOut 21 = .ok (.iload_n 2, 1) := by decide +kernel
theorem dX4_takesOut_22 : decode cX4_takesOut 22 = .ok (.iconst 3, 1) := by decide +kernel
theorem dX4_takesOut_23 : decode cX4_takesOut 23 = .ok (.iadd, 1) := by decide +kernel
theorem dX4_takesOut_24 : decode cX4_takesOut 24 = .ok (.iaload, 1) := by decide +kernel
theorem dX4_takesOut_25 : decode cX4_takesOut 25 = .ok (.iastore, 1) := by decide +kernel
theorem dX4_takesOut_26 : decode cX4_takesOut 26 = .ok (.iinc 2 1, 3) := by decide +kernel
theorem dX4_takesOut_29 : decode cX4_takesOut 29 = .ok (.goto (-24), 3) := by decide +kernel
theorem dX4_takesOut_32 : decode cX4_takesOut 32 = .ok (.sipush 141, 3) := by decide +kernel
theorem dX4_takesOut_35 : decode cX4_takesOut 35 = .ok (.istore_n 2, 1) := by decide +kernel
theorem dX4_takesOut_36 : decode cX4_takesOut 36 = .ok (.iload_n 2, 1) := by decide +kernel
theorem dX4_takesOut_37 : decode cX4_takesOut 37 = .ok (.sipush 144, 3) := by decide +kernel
theorem dX4_takesOut_40 : decode cX4_takesOut 40 = .ok (.if_icmp .ge 16, 3) := by decide +kernel
theorem dX4_takesOut_43 : decode cX4_takesOut 43 = .ok (.aload_n 0, 1) := by decide +kernel
theorem dX4_takesOut_44 : decode cX4_takesOut 44 = .ok (.getfield 9, 3) := by decide +kernel
theorem dX4_takesOut_47 : decode cX4_takesOut 47 = .ok (.iload_n 2, 1) := by decide +kernel
theorem dX4_takesOut_48 : decode cX4_takesOut 48 = .ok (.iconst 0, 1) := by decide +kernel
theorem dX4_takesOut_49 : decode cX4_takesOut 49 = .ok (.iastore, 1) := by decide +kernel
theorem dX4_takesOut_50 : decode cX4_takesOut 50 = .ok (.iinc 2 1, 3) := by decide +kernel
theorem dX4_takesOut_53 : decode cX4_takesOut 53 = .ok (.goto (-17), 3) := by decide +kernel
theorem dX4_takesOut_56 : decode cX4_takesOut 56 = .ok (.aload_n 0, 1) := by decide +kernel
theorem dX4_takesOut_57 : decode cX4_takesOut 57 = .ok (.getfield 9, 3) := by decide +kernel
theorem dX4_takesOut_60 : decode cX4_takesOut 60 = .ok (.iconst 3, 1) := by decide +kernel
theorem dX4_takesOut_61 : decode cX4_takesOut 61 = .ok (.dup2, 1) := by decide +kernel
theorem dX4_takesOut_62 : decode cX4_takesOut 62 = .ok (.iaload, 1) := by decide +kernel
theorem dX4_takesOut_63 : decode cX4_takesOut 63 = .ok (.iconst 1, 1) := by decide +kernel
theorem dX4_takesOut_64 : decode cX4_takesOut 64 = .ok (.isub, 1) := by decide +kernel
theorem dX4_takesOut_65 : decode cX4_takesOut 65 = .ok (.iastore, 1) := by decide +kernel
theorem dX4_takesOut_66 : decode cX4_takesOut 66 = .ok (.return_, 1) := by decide +kernel
theorem dX4_gradeBy_0 : decode cX4_gradeBy 0 = .ok (.iconst 2, 1) := by decide +kernel
theorem dX4_gradeBy_1 : decode cX4_gradeBy 1 = .ok (.iload_n 0, 1) := by decide +kernel
theorem dX4_gradeBy_2 : decode cX4_gradeBy 2 = .ok (.bipush 10, 2) := by decide +kernel
theorem dX4_gradeBy_4 : decode cX4_gradeBy 4 = .ok (.idiv, 1) := by decide +kernel
theorem dX4_gradeBy_5 : decode cX4_gradeBy 5 = .ok (.invokestatic 71, 3) := by decide +kernel
theorem dX4_gradeBy_8 : decode cX4_gradeBy 8 = .ok (.ireturn, 1) := by decide +kernel
theorem dX4_dieIt_0 : decode cX4_dieIt 0 = .ok (.iload_n 1, 1) := by decide +kernel
theorem dX4_dieIt_1 : decode cX4_dieIt 1 = .ok (.i2l, 1) := by decide +kernel
theorem dX4_dieIt_2 : decode cX4_dieIt 2 = .ok (.lconst 1, 1) := by decide +kernel
theorem dX4_dieIt_3 : decode cX4_dieIt 3 = .ok (.ldc2_w 77, 3) := by decide +kernel
theorem dX4_dieIt_6 : decode cX4_dieIt 6 = .ok (.invokestatic 60, 3) := by decide +kernel
theorem dX4_dieIt_9 : decode cX4_dieIt 9 = .ok (.ifCond .eq 15, 3) := by decide +kernel
theorem dX4_dieIt_12 : decode cX4_dieIt 12 = .ok (.iload_n 2, 1) := by decide +kernel
theorem dX4_dieIt_13 : decode cX4_dieIt 13 = .ok (.i2l, 1) := by decide +kernel
theorem dX4_dieIt_14 : decode cX4_dieIt 14 = .ok (.lconst 1, 1) := by decide +kernel
theorem dX4_dieIt_15 : decode cX4_dieIt 15 = .ok (.ldc2_w 79, 3) := by decide +kernel
theorem dX4_dieIt_18 : decode cX4_dieIt 18 = .ok (.invokestatic 60, 3) := by decide +kernel
theorem dX4_dieIt_21 : decode cX4_dieIt 21 = .ok (.ifCond .ne 9, 3) := by decide +kernel
theorem dX4_dieIt_24 : decode cX4_dieIt 24 = .ok (.aload_n 0, 1) := by decide +kernel
theorem dX4_dieIt_25 : decode cX4_dieIt 25 = .ok (.iconst 1, 1) := by decide +kernel
theorem dX4_dieIt_26 : decode cX4_dieIt 26 = .ok (.invokevirtual 81, 3) := by decide +kernel
theorem dX4_dieIt_29 : decode cX4_dieIt 29 = .ok (.ireturn, 1) := by decide +kernel
theorem dX4_dieIt_30 : decode cX4_dieIt 30 = .ok (.aload_n 0, 1) := by decide +kernel
theorem dX4_dieIt_31 : decode cX4_dieIt 31 = .ok (.getfield 9, 3) := by decide +kernel
theorem dX4_dieIt_34 : decode cX4_dieIt 34 = .ok (.iconst 0, 1) := by decide +kernel
theorem dX4_dieIt_35 : decode cX4_dieIt 35 = .ok (.iaload, 1) := by decide +kernel
theorem dX4_dieIt_36 : decode cX4_dieIt 36 = .ok (.iconst 5, 1) := by decide +kernel
theorem dX4_dieIt_37 : decode cX4_dieIt 37 = .ok (.if_icmp .ne 9, 3) := by decide +kernel
theorem dX4_dieIt_40 : decode cX4_dieIt 40 = .ok (.aload_n 0, 1) := by decide +kernel
theorem dX4_dieIt_41 : decode cX4_dieIt 41 = .ok (.iconst 2, 1) := by decide +kernel
theorem dX4_dieIt_42 : decode cX4_dieIt 42 = .ok (.invokevirtual 81, 3) := by decide +kernel
theorem dX4_dieIt_45 : decode cX4_dieIt 45 = .ok (.ireturn, 1) := by decide +kernel
theorem dX4_dieIt_46 : decode cX4_dieIt 46 = .ok (.aload_n 0, 1) := by decide +kernel
theorem dX4_dieIt_47 : decode cX4_dieIt 47 = .ok (.iload_n 1, 1) := by decide +kernel
theorem dX4_dieIt_48 : decode cX4_dieIt 48 = .ok (.invokevirtual 84, 3) := by decide +kernel
theorem dX4_dieIt_51 : decode cX4_dieIt 51 = .ok (.iconst (-1), 1) := by decide +kernel
theorem dX4_dieIt_52 : decode cX4_dieIt 52 = .ok (.if_icmp .eq 9, 3) := by decide +kernel
theorem dX4_dieIt_55 : decode cX4_dieIt 55 = .ok (.aload_n 0, 1) := by decide +kernel
theorem dX4_dieIt_56 : decode cX4_dieIt 56 = .ok (.iconst 3, 1) := by decide +kernel
theorem dX4_dieIt_57 : decode cX4_dieIt 57 = .ok (.invokevirtual 81, 3) := by decide +kernel
theorem dX4_dieIt_60 : decode cX4_dieIt 60 = .ok (.ireturn, 1) := by decide +kernel
theorem dX4_dieIt_61 : decode cX4_dieIt 61 = .ok (.aload_n 0, 1) := by decide +kernel
theorem dX4_dieIt_62 : decode cX4_dieIt 62 = .ok (.getfield 9, 3) := by decide +kernel
theorem dX4_dieIt_65 : decode cX4_dieIt 65 = .ok (.iconst 0, 1) := by decide +kernel
theorem dX4_dieIt_66 : decode cX4_dieIt 66 = .ok (.iaload, 1) := by decide +kernel
theorem dX4_dieIt_67 : decode cX4_dieIt 67 = .ok (.invokestatic 64, 3) := by decide +kernel
theorem dX4_dieIt_70 : decode cX4_dieIt 70 = .ok (.istore_n 3, 1) := by decide +kernel
theorem dX4_dieIt_71 : decode cX4_dieIt 71 = .ok (.aload_n 0, 1) := by decide +kernel
theorem dX4_dieIt_72 : decode cX4_dieIt 72 = .ok (.getfield 9, 3) := by decide +kernel
theorem dX4_dieIt_75 : decode cX4_dieIt 75 = .ok (.iload_n 3, 1) := by decide +kernel
theorem dX4_dieIt_76 : decode cX4_dieIt 76 = .ok (.iload_n 1, 1) := by decide +kernel
theorem dX4_dieIt_77 : decode cX4_dieIt 77 = .ok (.iastore, 1) := by decide +kernel
theorem dX4_dieIt_78 : decode cX4_dieIt 78 = .ok (.aload_n 0, 1) := by decide +kernel
theorem dX4_dieIt_79 : decode cX4_dieIt 79 = .ok (.getfield 9, 3) := by decide +kernel
theorem dX4_dieIt_82 : decode cX4_dieIt 82 = .ok (.iload_n 3, 1) := by decide +kernel
theorem dX4_dieIt_83 : decode cX4_dieIt 83 = .ok (.iconst 1, 1) := by decide +kernel
theorem dX4_dieIt_84 : decode cX4_dieIt 84 = .ok (.iadd, 1) := by decide +kernel
theorem dX4_dieIt_85 : decode cX4_dieIt 85 = .ok (.iload_n 2, 1) := by decide +kernel
theorem dX4_dieIt_86 : decode cX4_dieIt 86 = .ok (.iastore, 1) := by decide +kernel
theorem dX4_dieIt_87 : decode cX4_dieIt 87 = .ok (.aload_n 0, 1) := by decide +kernel
theorem dX4_dieIt_88 : decode cX4_dieIt 88 = .ok (.getfield 9, 3) := by decide +kernel
theorem dX4_dieIt_91 : decode cX4_dieIt 91 = .ok (.iconst 0, 1) := by decide +kernel
theorem dX4_dieIt_92 : decode cX4_dieIt 92 = .ok (.dup2, 1) := by decide +kernel
theorem dX4_dieIt_93 : decode cX4_dieIt 93 = .ok (.iaload, 1) := by decide +kernel
theorem dX4_dieIt_94 : decode cX4_dieIt 94 = .ok (.iconst 1, 1) := by decide +kernel
theorem dX4_dieIt_95 : decode cX4_dieIt 95 = .ok (.iadd, 1) := by decide +kernel
theorem dX4_dieIt_96 : decode cX4_dieIt 96 = .ok (.iastore, 1) := by decide +kernel
theorem dX4_dieIt_97 : decode cX4_dieIt 97 = .ok (.aload_n 0, 1) := by decide +kernel
theorem dX4_dieIt_98 : decode cX4_dieIt 98 = .ok (.getfield 9, 3) := by decide +kernel
theorem dX4_dieIt_101 : decode cX4_dieIt 101 = .ok (.iconst 0, 1) := by decide +kernel
theorem dX4_dieIt_102 : decode cX4_dieIt 102 = .ok (.iaload, 1) := by decide +kernel
theorem dX4_dieIt_103 : decode cX4_dieIt 103 = .ok (.iconst 1, 1) := by decide +kernel
theorem dX4_dieIt_104 : decode cX4_dieIt 104 = .ok (.isub, 1) := by decide +kernel
theorem dX4_dieIt_105 : decode cX4_dieIt 105 = .ok (.ireturn, 1) := by decide +kernel
theorem dX4_addDie_0 : decode cX4_addDie 0 = .ok (.aload_n 0, 1) := by decide +kernel
theorem dX4_addDie_1 : decode cX4_addDie 1 = .ok (.invokevirtual 87, 3) := by decide +kernel
theorem dX4_addDie_4 : decode cX4_addDie 4 = .ok (.aload_n 0, 1) := by decide +kernel
theorem dX4_addDie_5 : decode cX4_addDie 5 = .ok (.aload_n 0, 1) := by decide +kernel
theorem dX4_addDie_6 : decode cX4_addDie 6 = .ok (.iload_n 1, 1) := by decide +kernel
theorem dX4_addDie_7 : decode cX4_addDie 7 = .ok (.iload_n 2, 1) := by decide +kernel
theorem dX4_addDie_8 : decode cX4_addDie 8 = .ok (.invokevirtual 90, 3) := by decide +kernel
theorem dX4_addDie_11 : decode cX4_addDie 11 = .ok (.invokevirtual 93, 3) := by decide +kernel
theorem dX4_addDie_14 : decode cX4_addDie 14 = .ok (.ireturn, 1) := by decide +kernel
theorem dX4_sharpenIt_0 : decode cX4_sharpenIt 0 = .ok (.aload_n 0, 1) := by decide +kernel
theorem dX4_sharpenIt_1 : decode cX4_sharpenIt 1 = .ok (.iload_n 1, 1) := by decide +kernel
theorem dX4_sharpenIt_2 : decode cX4_sharpenIt 2 = .ok (.invokevirtual 96, 3) := by decide +kernel
theorem dX4_sharpenIt_5 : decode cX4_sharpenIt 5 = .ok (.ifCond .ne 9, 3) := by decide +kernel
theorem dX4_sharpenIt_8 : decode cX4_sharpenIt 8 = .ok (.aload_n 0, 1) := by decide +kernel
theorem dX4_sharpenIt_9 : decode cX4_sharpenIt 9 = .ok (.iconst 1, 1) := by decide +kernel
theorem dX4_sharpenIt_10 : decode cX4_sharpenIt 10 = .ok (.invokevirtual 81, 3) := by decide +kernel
theorem dX4_sharpenIt_13 : decode cX4_sharpenIt 13 = .ok (.ireturn, 1) := by decide +kernel
theorem dX4_sharpenIt_14 : decode cX4_sharpenIt 14 = .ok (.aload_n 0, 1) := by decide +kernel
theorem dX4_sharpenIt_15 : decode cX4_sharpenIt 15 = .ok (.getfield 9, 3) := by decide +kernel
theorem dX4_sharpenIt_18 : decode cX4_sharpenIt 18 = .ok (.iload_n 1, 1) := by decide +kernel
theorem dX4_sharpenIt_19 : decode cX4_sharpenIt 19 = .ok (.invokestatic 64, 3) := by decide +kernel
theorem dX4_sharpenIt_22 : decode cX4_sharpenIt 22 = .ok (.iconst 2, 1) := by decide +kernel
theorem dX4_sharpenIt_23 : decode cX4_sharpenIt 23 = .ok (.iadd, 1) := by decide +kernel
theorem dX4_sharpenIt_24 : decode cX4_sharpenIt 24 = .ok (.iaload, 1) := by decide +kernel
theorem dX4_sharpenIt_25 : decode cX4_sharpenIt 25 = .ok (.istore_n 2, 1) := by decide +kernel
theorem dX4_sharpenIt_26 : decode cX4_sharpenIt 26 = .ok (.iload_n 2, 1) := by decide +kernel
theorem dX4_sharpenIt_27 : decode cX4_sharpenIt 27 = .ok (.ifCond .ne 9, 3) := by decide +kernel
theorem dX4_sharpenIt_30 : decode cX4_sharpenIt 30 = .ok (.aload_n 0, 1) := by decide +kernel
theorem dX4_sharpenIt_31 : decode cX4_sharpenIt 31 = .ok (.iconst 2, 1) := by decide +kernel
theorem dX4_sharpenIt_32 : decode cX4_sharpenIt 32 = .ok (.invokevirtual 81, 3) := by decide +kernel
theorem dX4_sharpenIt_35 : decode cX4_sharpenIt 35 = .ok (.ireturn, 1) := by decide +kernel
theorem dX4_sharpenIt_36 : decode cX4_sharpenIt 36 = .ok (.aload_n 0, 1) := by decide +kernel
theorem dX4_sharpenIt_37 : decode cX4_sharpenIt 37 = .ok (.getfield 9, 3) := by decide +kernel
theorem dX4_sharpenIt_40 : decode cX4_sharpenIt 40 = .ok (.iload_n 1, 1) := by decide +kernel
theorem dX4_sharpenIt_41 : decode cX4_sharpenIt 41 = .ok (.invokestatic 64, 3) := by decide +kernel
theorem dX4_sharpenIt_44 : decode cX4_sharpenIt 44 = .ok (.iconst 2, 1) := by decide +kernel
theorem dX4_sharpenIt_45 : decode cX4_sharpenIt 45 = .ok (.iadd, 1) := by decide +kernel
theorem dX4_sharpenIt_46 : decode cX4_sharpenIt 46 = .ok (.iconst 0, 1) := by decide +kernel
theorem dX4_sharpenIt_47 : decode cX4_sharpenIt 47 = .ok (.iastore, 1) := by decide +kernel
theorem dX4_sharpenIt_48 : decode cX4_sharpenIt 48 = .ok (.iload_n 2, 1) := by decide +kernel
theorem dX4_sharpenIt_49 : decode cX4_sharpenIt 49 = .ok (.ireturn, 1) := by decide +kernel
theorem dX4_sharpen_0 : decode cX4_sharpen 0 = .ok (.aload_n 0, 1) := by decide +kernel
theorem dX4_sharpen_1 : decode cX4_sharpen 1 = .ok (.invokevirtual 87, 3) := by decide +kernel
theorem dX4_sharpen_4 : decode cX4_sharpen 4 = .ok (.aload_n 0, 1) := by decide +kernel
theorem dX4_sharpen_5 : decode cX4_sharpen 5 = .ok (.aload_n 0, 1) := by decide +kernel
theorem dX4_sharpen_6 : decode cX4_sharpen 6 = .ok (.iload_n 1, 1) := by decide +kernel
theorem dX4_sharpen_7 : decode cX4_sharpen 7 = .ok (.invokevirtual 100, 3) := by decide +kernel
theorem dX4_sharpen_10 : decode cX4_sharpen 10 = .ok (.invokevirtual 93, 3) := by decide +kernel
theorem dX4_sharpen_13 : decode cX4_sharpen 13 = .ok (.ireturn, 1) := by decide +kernel
theorem dX4_leafIt_0 : decode cX4_leafIt 0 = .ok (.iload_n 1, 1) := by decide +kernel
theorem dX4_leafIt_1 : decode cX4_leafIt 1 = .ok (.i2l, 1) := by decide +kernel
theorem dX4_leafIt_2 : decode cX4_leafIt 2 = .ok (.lconst 1, 1) := by decide +kernel
theorem dX4_leafIt_3 : decode cX4_leafIt 3 = .ok (.ldc2_w 103, 3) := by decide +kernel
theorem dX4_leafIt_6 : decode cX4_leafIt 6 = .ok (.invokestatic 60, 3) := by decide +kernel
theorem dX4_leafIt_9 : decode cX4_leafIt 9 = .ok (.ifCond .ne 9, 3) := by decide +kernel
theorem dX4_leafIt_12 : decode cX4_leafIt 12 = .ok (.aload_n 0, 1) := by decide +kernel
theorem dX4_leafIt_13 : decode cX4_leafIt 13 = .ok (.iconst 1, 1) := by decide +kernel
theorem dX4_leafIt_14 : decode cX4_leafIt 14 = .ok (.invokevirtual 81, 3) := by decide +kernel
theorem dX4_leafIt_17 : decode cX4_leafIt 17 = .ok (.ireturn, 1) := by decide +kernel
theorem dX4_leafIt_18 : decode cX4_leafIt 18 = .ok (.aload_n 0, 1) := by decide +kernel
theorem dX4_leafIt_19 : decode cX4_leafIt 19 = .ok (.getfield 9, 3) := by decide +kernel
theorem dX4_leafIt_22 : decode cX4_leafIt 22 = .ok (.iconst 1, 1) := by decide +kernel
theorem dX4_leafIt_23 : decode cX4_leafIt 23 = .ok (.iaload, 1) := by decide +kernel
theorem dX4_leafIt_24 : decode cX4_leafIt 24 = .ok (.iload_n 1, 1) := by decide +kernel
theorem dX4_leafIt_25 : decode cX4_leafIt 25 = .ok (.iadd, 1) := by decide +kernel
theorem dX4_leafIt_26 : decode cX4_leafIt 26 = .ok (.sipush 999, 3) := by decide +kernel
theorem dX4_leafIt_29 : decode cX4_leafIt 29 = .ok (.if_icmp .le 9, 3) := by decide +kernel
theorem dX4_leafIt_32 : decode cX4_leafIt 32 = .ok (.aload_n 0, 1) := by decide +kernel
theorem dX4_leafIt_33 : decode cX4_leafIt 33 = .ok (.iconst 2, 1) := by decide +kernel
theorem dX4_leafIt_34 : decode cX4_leafIt 34 = .ok (.invokevirtual 81, 3) := by decide +kernel
theorem dX4_leafIt_37 : decode cX4_leafIt 37 = .ok (.ireturn, 1) := by decide +kernel
theorem dX4_leafIt_38 : decode cX4_leafIt 38 = .ok (.aload_n 0, 1) := by decide +kernel
theorem dX4_leafIt_39 : decode cX4_leafIt 39 = .ok (.getfield 9, 3) := by decide +kernel
theorem dX4_leafIt_42 : decode cX4_leafIt 42 = .ok (.iconst 1, 1) := by decide +kernel
theorem dX4_leafIt_43 : decode cX4_leafIt 43 = .ok (.dup2, 1) := by decide +kernel
theorem dX4_leafIt_44 : decode cX4_leafIt 44 = .ok (.iaload, 1) := by decide +kernel
theorem dX4_leafIt_45 : decode cX4_leafIt 45 = .ok (.iload_n 1, 1) := by decide +kernel
theorem dX4_leafIt_46 : decode cX4_leafIt 46 = .ok (.iadd, 1) := by decide +kernel
theorem dX4_leafIt_47 : decode cX4_leafIt 47 = .ok (.iastore, 1) := by decide +kernel
theorem dX4_leafIt_48 : decode cX4_leafIt 48 = .ok (.aload_n 0, 1) := by decide +kernel
theorem dX4_leafIt_49 : decode cX4_leafIt 49 = .ok (.getfield 9, 3) := by decide +kernel
theorem dX4_leafIt_52 : decode cX4_leafIt 52 = .ok (.bipush 8, 2) := by decide +kernel
theorem dX4_leafIt_54 : decode cX4_leafIt 54 = .ok (.dup2, 1) := by decide +kernel
theorem dX4_leafIt_55 : decode cX4_leafIt 55 = .ok (.iaload, 1) := by decide +kernel
theorem dX4_leafIt_56 : decode cX4_leafIt 56 = .ok (.iload_n 1, 1) := by decide +kernel
theorem dX4_leafIt_57 : decode cX4_leafIt 57 = .ok (.iadd, 1) := by decide +kernel
theorem dX4_leafIt_58 : decode cX4_leafIt 58 = .ok (.iastore, 1) := by decide +kernel
theorem dX4_leafIt_59 : decode cX4_leafIt 59 = .ok (.aload_n 0, 1) := by decide +kernel
theorem dX4_leafIt_60 : decode cX4_leafIt 60 = .ok (.getfield 9, 3) := by decide +kernel
theorem dX4_leafIt_63 : decode cX4_leafIt 63 = .ok (.iconst 1, 1) := by decide +kernel
theorem dX4_leafIt_64 : decode cX4_leafIt 64 = .ok (.iaload, 1) := by decide +kernel
theorem dX4_leafIt_65 : decode cX4_leafIt 65 = .ok (.ireturn, 1) := by decide +kernel
theorem dX4_addLeaves_0 : decode cX4_addLeaves 0 = .ok (.aload_n 0, 1) := by decide +kernel
theorem dX4_addLeaves_1 : decode cX4_addLeaves 1 = .ok (.invokevirtual 87, 3) := by decide +kernel
theorem dX4_addLeaves_4 : decode cX4_addLeaves 4 = .ok (.aload_n 0, 1) := by decide +kernel
theorem dX4_addLeaves_5 : decode cX4_addLeaves 5 = .ok (.aload_n 0, 1) := by decide +kernel
theorem dX4_addLeaves_6 : decode cX4_addLeaves 6 = .ok (.iload_n 1, 1) := by decide +kernel
theorem dX4_addLeaves_7 : decode cX4_addLeaves 7 = .ok (.invokevirtual 105, 3) := by decide +kernel
theorem dX4_addLeaves_10 : decode cX4_addLeaves 10 = .ok (.invokevirtual 93, 3) := by decide +kernel
theorem dX4_addLeaves_13 : decode cX4_addLeaves 13 = .ok (.ireturn, 1) := by decide +kernel
theorem dX4_strikeIt_0 : decode cX4_strikeIt 0 = .ok (.aload_n 0, 1) := by decide +kernel
theorem dX4_strikeIt_1 : decode cX4_strikeIt 1 = .ok (.iload_n 1, 1) := by decide +kernel
theorem dX4_strikeIt_2 : decode cX4_strikeIt 2 = .ok (.invokevirtual 96, 3) := by decide +kernel
theorem dX4_strikeIt_5 : decode cX4_strikeIt 5 = .ok (.ifCond .ne 9, 3) := by decide +kernel
theorem dX4_strikeIt_8 : decode cX4_strikeIt 8 = .ok (.aload_n 0, 1) := by decide +kernel
theorem dX4_strikeIt_9 : decode cX4_strikeIt 9 = .ok (.iconst 1, 1) := by decide +kernel
theorem dX4_strikeIt_10 : decode cX4_strikeIt 10 = .ok (.invokevirtual 81, 3) := by decide +kernel
theorem dX4_strikeIt_13 : decode cX4_strikeIt 13 = .ok (.ireturn, 1) := by decide +kernel
theorem dX4_strikeIt_14 : decode cX4_strikeIt 14 = .ok (.iload_n 2, 1) := by decide +kernel
theorem dX4_strikeIt_15 : decode cX4_strikeIt 15 = .ok (.i2l, 1) := by decide +kernel
theorem dX4_strikeIt_16 : decode cX4_strikeIt 16 = .ok (.lconst 1, 1) := by decide +kernel
theorem dX4_strikeIt_17 : decode cX4_strikeIt 17 = .ok (.ldc2_w 79, 3) := by decide +kernel
theorem dX4_strikeIt_20 : decode cX4_strikeIt 20 = .ok (.invokestatic 60, 3) := by decide +kernel
theorem dX4_strikeIt_23 : decode cX4_strikeIt 23 = .ok (.ifCond .ne 9, 3) := by decide +kernel
theorem dX4_strikeIt_26 : decode cX4_strikeIt 26 = .ok (.aload_n 0, 1) := by decide +kernel
theorem dX4_strikeIt_27 : decode cX4_strikeIt 27 = .ok (.iconst 2, 1) := by decide +kernel
theorem dX4_strikeIt_28 : decode cX4_strikeIt 28 = .ok (.invokevirtual 81, 3) := by decide +kernel
theorem dX4_strikeIt_31 : decode cX4_strikeIt 31 = .ok (.ireturn, 1) := by decide +kernel
theorem dX4_strikeIt_32 : decode cX4_strikeIt 32 = .ok (.iload_n 1, 1) := by decide +kernel
theorem dX4_strikeIt_33 : decode cX4_strikeIt 33 = .ok (.invokestatic 64, 3) := by decide +kernel
theorem dX4_strikeIt_36 : decode cX4_strikeIt 36 = .ok (.istore_n 3, 1) := by decide +kernel
theorem dX4_strikeIt_37 : decode cX4_strikeIt 37 = .ok (.aload_n 0, 1) := by decide +kernel
theorem dX4_strikeIt_38 : decode cX4_strikeIt 38 = .ok (.getfield 9, 3) := by decide +kernel
theorem dX4_strikeIt_41 : decode cX4_strikeIt 41 = .ok (.iconst 1, 1) := by decide +kernel
theorem dX4_strikeIt_42 : decode cX4_strikeIt 42 = .ok (.iaload, 1) := by decide +kernel
theorem dX4_strikeIt_43 : decode cX4_strikeIt 43 = .ok (.iload_n 2, 1) := by decide +kernel
theorem dX4_strikeIt_44 : decode cX4_strikeIt 44 = .ok (.aload_n 0, 1) := by decide +kernel
theorem dX4_strikeIt_45 : decode cX4_strikeIt 45 = .ok (.getfield 9, 3) := by decide +kernel
theorem dX4_strikeIt_48 : decode cX4_strikeIt 48 = .ok (.iload_n 3, 1) := by decide +kernel
theorem dX4_strikeIt_49 : decode cX4_strikeIt 49 = .ok (.iconst 1, 1) := by decide +kernel
theorem dX4_strikeIt_50 : decode cX4_strikeIt 50 = .ok (.iadd, 1) := by decide +kernel
theorem dX4_strikeIt_51 : decode cX4_strikeIt 51 = .ok (.iaload, 1) := by decide +kernel
theorem dX4_strikeIt_52 : decode cX4_strikeIt 52 = .ok (.imul, 1) := by decide +kernel
theorem dX4_strikeIt_53 : decode cX4_strikeIt 53 = .ok (.if_icmp .lt 16, 3) := by decide +kernel
theorem dX4_strikeIt_56 : decode cX4_strikeIt 56 = .ok (.aload_n 0, 1) := by decide +kernel
theorem dX4_strikeIt_57 : decode cX4_strikeIt 57 = .ok (.getfield 9, 3) := by decide +kernel
theorem dX4_strikeIt_60 : decode cX4_strikeIt 60 = .ok (.iconst 3, 1) := by decide +kernel
theorem dX4_strikeIt_61 : decode cX4_strikeIt 61 = .ok (.iaload, 1) := by decide +kernel
theorem dX4_strikeIt_62 : decode cX4_strikeIt 62 = .ok (.iload_n 2, 1) := by decide +kernel
theorem dX4_strikeIt_63 : decode cX4_strikeIt 63 = .ok (.iadd, 1) := by decide +kernel
theorem dX4_strikeIt_64 : decode cX4_strikeIt 64 = .ok (.bipush 40, 2) := by decide +kernel
theorem dX4_strikeIt_66 : decode cX4_strikeIt 66 = .ok (.if_icmp .le 9, 3) := by decide +kernel
theorem dX4_strikeIt_69 : decode cX4_strikeIt 69 = .ok (.aload_n 0, 1) := by decide +kernel
theorem dX4_strikeIt_70 : decode cX4_strikeIt 70 = .ok (.iconst 3, 1) := by decide +kernel
theorem dX4_strikeIt_71 : decode cX4_strikeIt 71 = .ok (.invokevirtual 81, 3) := by decide +kernel
theorem dX4_strikeIt_74 : decode cX4_strikeIt 74 = .ok (.ireturn, 1) := by decide +kernel
theorem dX4_strikeIt_75 : decode cX4_strikeIt 75 = .ok (.aload_n 0, 1) := by decide +kernel
theorem dX4_strikeIt_76 : decode cX4_strikeIt 76 = .ok (.getfield 9, 3) := by decide +kernel
theorem dX4_strikeIt_79 : decode cX4_strikeIt 79 = .ok (.iload_n 3, 1) := by decide +kernel
theorem dX4_strikeIt_80 : decode cX4_strikeIt 80 = .ok (.iconst 2, 1) := by decide +kernel
theorem dX4_strikeIt_81 : decode cX4_strikeIt 81 = .ok (.iadd, 1) := by decide +kernel
theorem dX4_strikeIt_82 : decode cX4_strikeIt 82 = .ok (.iaload, 1) := by decide +kernel
theorem dX4_strikeIt_83 : decode cX4_strikeIt 83 = .ok (.iload_n 2, 1) := by decide +kernel
theorem dX4_strikeIt_84 : decode cX4_strikeIt 84 = .ok (.iadd, 1) := by decide +kernel
theorem dX4_strikeIt_85 : decode cX4_strikeIt 85 = .ok (.bipush 30, 2) := by decide +kernel
theorem dX4_strikeIt_87 : decode cX4_strikeIt 87 = .ok (.if_icmp .le 9, 3) := by decide +kernel
theorem dX4_strikeIt_90 : decode cX4_strikeIt 90 = .ok (.aload_n 0, 1) := by decide +kernel
theorem dX4_strikeIt_91 : decode cX4_strikeIt 91 = .ok (.iconst 4, 1) := by decide +kernel
theorem dX4_strikeIt_92 : decode cX4_strikeIt 92 = .ok (.invokevirtual 81, 3) := by decide +kernel
theorem dX4_strikeIt_95 : decode cX4_strikeIt 95 = .ok (.ireturn, 1) := by decide +kernel
theorem dX4_strikeIt_96 : decode cX4_strikeIt 96 = .ok (.iconst 0, 1) := by decide +kernel
theorem dX4_strikeIt_97 : decode cX4_strikeIt 97 = .ok (.istore 4, 2) := by decide +kernel
theorem dX4_strikeIt_99 : decode cX4_strikeIt 99 = .ok (.iload 4, 2) := by decide +kernel
theorem dX4_strikeIt_101 : decode cX4_strikeIt 101 = .ok (.iload_n 2, 1) := by decide +kernel
theorem dX4_strikeIt_102 : decode cX4_strikeIt 102 = .ok (.if_icmp .ge 112, 3) := by decide +kernel
theorem dX4_strikeIt_105 : decode cX4_strikeIt 105 = .ok (.aload_n 0, 1) := by decide +kernel
theorem dX4_strikeIt_106 : decode cX4_strikeIt 106 = .ok (.getfield 9, 3) := by decide +kernel
theorem dX4_strikeIt_109 : decode cX4_strikeIt 109 = .ok (.iconst 3, 1) := by decide +kernel
theorem dX4_strikeIt_110 : decode cX4_strikeIt 110 = .ok (.iaload, 1) := by decide +kernel
theorem dX4_strikeIt_111 : decode cX4_strikeIt 111 = .ok (.invokestatic 68, 3) := by decide +kernel
theorem dX4_strikeIt_114 : decode cX4_strikeIt 114 = .ok (.istore 5, 2) := by decide +kernel
theorem dX4_strikeIt_116 : decode cX4_strikeIt 116 = .ok (.aload_n 0, 1) := by decide +kernel
theorem dX4_strikeIt_117 : decode cX4_strikeIt 117 = .ok (.getfield 9, 3) := by decide +kernel
theorem dX4_strikeIt_120 : decode cX4_strikeIt 120 = .ok (.iload 5, 2) := by decide +kernel
theorem dX4_strikeIt_122 : decode cX4_strikeIt 122 = .ok (.iload_n 1, 1) := by decide +kernel
theorem dX4_strikeIt_123 : decode cX4_strikeIt 123 = .ok (.iastore, 1) := by decide +kernel
theorem dX4_strikeIt_124 : decode cX4_strikeIt 124 = .ok (.aload_n 0, 1) := by decide +kernel
theorem dX4_strikeIt_125 : decode cX4_strikeIt 125 = .ok (.getfield 9, 3) := by decide +kernel
theorem dX4_strikeIt_128 : decode cX4_strikeIt 128 = .ok (.iload 5, 2) := by decide +kernel
theorem dX4_strikeIt_130 : decode cX4_strikeIt 130 = .ok (.iconst 1, 1) := by decide +kernel
theorem dX4_strikeIt_131 : decode cX4_strikeIt 131 = .ok (.iadd, 1) := by decide +kernel
theorem dX4_strikeIt_132 : decode cX4_strikeIt 132 = .ok (.aload_n 0, 1) := by decide +kernel
theorem dX4_strikeIt_133 : decode cX4_strikeIt 133 = .ok (.getfield 9, 3) := by decide +kernel
theorem dX4_strikeIt_136 : decode cX4_strikeIt 136 = .ok (.iconst 2, 1) := by decide +kernel
theorem dX4_strikeIt_137 : decode cX4_strikeIt 137 = .ok (.iaload, 1) := by decide +kernel
theorem dX4_strikeIt_138 : decode cX4_strikeIt 138 = .ok (.iastore, 1) := by decide +kernel
theorem dX4_strikeIt_139 : decode cX4_strikeIt 139 = .ok (.aload_n 0, 1) := by decide +kernel
theorem dX4_strikeIt_140 : decode cX4_strikeIt 140 = .ok (.getfield 9, 3) := by decide +kernel
theorem dX4_strikeIt_143 : decode cX4_strikeIt 143 = .ok (.iload 5, 2) := by decide +kernel
theorem dX4_strikeIt_145 : decode cX4_strikeIt 145 = .ok (.iconst 2, 1) := by decide +kernel
theorem dX4_strikeIt_146 : decode cX4_strikeIt 146 = .ok (.iadd, 1) := by decide +kernel
theorem dX4_strikeIt_147 : decode cX4_strikeIt 147 = .ok (.aload_n 0, 1) := by decide +kernel
theorem dX4_strikeIt_148 : decode cX4_strikeIt 148 = .ok (.getfield 9, 3) := by decide +kernel
theorem dX4_strikeIt_151 : decode cX4_strikeIt 151 = .ok (.iload_n 3, 1) := by decide +kernel
theorem dX4_strikeIt_152 : decode cX4_strikeIt 152 = .ok (.iconst 2, 1) := by decide +kernel
theorem dX4_strikeIt_153 : decode cX4_strikeIt 153 = .ok (.iadd, 1) := by decide +kernel
theorem dX4_strikeIt_154 : decode cX4_strikeIt 154 = .ok (.iaload, 1) := by decide +kernel
theorem dX4_strikeIt_155 : decode cX4_strikeIt 155 = .ok (.invokestatic 108, 3) := by decide +kernel
theorem dX4_strikeIt_158 : decode cX4_strikeIt 158 = .ok (.iastore, 1) := by decide +kernel
theorem dX4_strikeIt_159 : decode cX4_strikeIt 159 = .ok (.aload_n 0, 1) := by decide +kernel
theorem dX4_strikeIt_160 : decode cX4_strikeIt 160 = .ok (.getfield 9, 3) := by decide +kernel
theorem dX4_strikeIt_163 : decode cX4_strikeIt 163 = .ok (.iload_n 3, 1) := by decide +kernel
theorem dX4_strikeIt_164 : decode cX4_strikeIt 164 = .ok (.iconst 2, 1) := by decide +kernel
theorem dX4_strikeIt_165 : decode cX4_strikeIt 165 = .ok (.iadd, 1) := by decide +kernel
theorem dX4_strikeIt_166 : decode cX4_strikeIt 166 = .ok (.dup2, 1) := by decide +kernel
theorem dX4_strikeIt_167 : decode cX4_strikeIt 167 = .ok (.iaload, 1) := by decide +kernel
theorem dX4_strikeIt_168 : decode cX4_strikeIt 168 = .ok (.iconst 1, 1) := by decide +kernel
theorem dX4_strikeIt_169 : decode cX4_strikeIt 169 = .ok (.iadd, 1) := by decide +kernel
theorem dX4_strikeIt_170 : decode cX4_strikeIt 170 = .ok (.iastore, 1) := by decide +kernel
theorem dX4_strikeIt_171 : decode cX4_strikeIt 171 = .ok (.aload_n 0, 1) := by decide +kernel
theorem dX4_strikeIt_172 : decode cX4_strikeIt 172 = .ok (.getfield 9, 3) := by decide +kernel
theorem dX4_strikeIt_175 : decode cX4_strikeIt 175 = .ok (.iconst 3, 1) := by decide +kernel
theorem dX4_strikeIt_176 : decode cX4_strikeIt 176 = .ok (.dup2, 1) := by decide +kernel
theorem dX4_strikeIt_177 : decode cX4_strikeIt 177 = .ok (.iaload, 1) := by decide +kernel
theorem dX4_strikeIt_178 : decode cX4_strikeIt 178 = .ok (.iconst 1, 1) := by decide +kernel
theorem dX4_strikeIt_179 : decode cX4_strikeIt 179 = .ok (.iadd, 1) := by decide +kernel
theorem dX4_strikeIt_180 : decode cX4_strikeIt 180 = .ok (.iastore, 1) := by decide +kernel
theorem dX4_strikeIt_181 : decode cX4_strikeIt 181 = .ok (.aload_n 0, 1) := by decide +kernel
theorem dX4_strikeIt_182 : decode cX4_strikeIt 182 = .ok (.getfield 9, 3) := by decide +kernel
theorem dX4_strikeIt_185 : decode cX4_strikeIt 185 = .ok (.iconst 4, 1) := by decide +kernel
theorem dX4_strikeIt_186 : decode cX4_strikeIt 186 = .ok (.dup2, 1) := by decide +kernel
theorem dX4_strikeIt_187 : decode cX4_strikeIt 187 = .ok (.iaload, 1) := by decide +kernel
theorem dX4_strikeIt_188 : decode cX4_strikeIt 188 = .ok (.iconst 1, 1) := by decide +kernel
theorem dX4_strikeIt_189 : decode cX4_strikeIt 189 = .ok (.iadd, 1) := by decide +kernel
theorem dX4_strikeIt_190 : decode cX4_strikeIt 190 = .ok (.iastore, 1) := by decide +kernel
theorem dX4_strikeIt_191 : decode cX4_strikeIt 191 = .ok (.aload_n 0, 1) := by decide +kernel
theorem dX4_strikeIt_192 : decode cX4_strikeIt 192 = .ok (.getfield 9, 3) := by decide +kernel
theorem dX4_strikeIt_195 : decode cX4_strikeIt 195 = .ok (.iconst 1, 1) := by decide +kernel
theorem dX4_strikeIt_196 : decode cX4_strikeIt 196 = .ok (.dup2, 1) := by decide +kernel
theorem dX4_strikeIt_197 : decode cX4_strikeIt 197 = .ok (.iaload, 1) := by decide +kernel
theorem dX4_strikeIt_198 : decode cX4_strikeIt 198 = .ok (.aload_n 0, 1) := by decide +kernel
theorem dX4_strikeIt_199 : decode cX4_strikeIt 199 = .ok (.getfield 9, 3) := by decide +kernel
theorem dX4_strikeIt_202 : decode cX4_strikeIt 202 = .ok (.iload_n 3, 1) := by decide +kernel
theorem dX4_strikeIt_203 : decode cX4_strikeIt 203 = .ok (.iconst 1, 1) := by decide +kernel
theorem dX4_strikeIt_204 : decode cX4_strikeIt 204 = .ok (.iadd, 1) := by decide +kernel
theorem dX4_strikeIt_205 : decode cX4_strikeIt 205 = .ok (.iaload, 1) := by decide +kernel
theorem dX4_strikeIt_206 : decode cX4_strikeIt 206 = .ok (.isub, 1) := by decide +kernel
theorem dX4_strikeIt_207 : decode cX4_strikeIt 207 = .ok (.iastore, 1) := by decide +kernel
theorem dX4_strikeIt_208 : decode cX4_strikeIt 208 = .ok (.iinc 4 1, 3) := by decide +kernel
theorem dX4_strikeIt_211 : decode cX4_strikeIt 211 = .ok (.goto (-112), 3) := by decide +kernel
theorem dX4_strikeIt_214 : decode cX4_strikeIt 214 = .ok (.aload_n 0, 1) := by decide +kernel
theorem dX4_strikeIt_215 : decode cX4_strikeIt 215 = .ok (.getfield 9, 3) := by decide +kernel
theorem dX4_strikeIt_218 : decode cX4_strikeIt 218 = .ok (.iconst 3, 1) := by decide +kernel
theorem dX4_strikeIt_219 : decode cX4_strikeIt 219 = .ok (.iaload, 1) := by decide +kernel
theorem dX4_strikeIt_220 : decode cX4_strikeIt 220 = .ok (.ireturn, 1) := by decide +kernel
theorem dX4_strike_0 : decode cX4_strike 0 = .ok (.aload_n 0, 1) := by decide +kernel
theorem dX4_strike_1 : decode cX4_strike 1 = .ok (.invokevirtual 87, 3) := by decide +kernel
theorem dX4_strike_4 : decode cX4_strike 4 = .ok (.aload_n 0, 1) := by decide +kernel
theorem dX4_strike_5 : decode cX4_strike 5 = .ok (.aload_n 0, 1) := by decide +kernel
theorem dX4_strike_6 : decode cX4_strike 6 = .ok (.iload_n 1, 1) := by decide +kernel
theorem dX4_strike_7 : decode cX4_strike 7 = .ok (.iload_n 2, 1) := by decide +kernel
theorem dX4_strike_8 : decode cX4_strike 8 = .ok (.invokevirtual 111, 3) := by decide +kernel
theorem dX4_strike_11 : decode cX4_strike 11 = .ok (.invokevirtual 93, 3) := by decide +kernel
theorem dX4_strike_14 : decode cX4_strike 14 = .ok (.ireturn, 1) := by decide +kernel
theorem dX4_yearsIt_0 : decode cX4_yearsIt 0 = .ok (.iload_n 1, 1) := by decide +kernel
theorem dX4_yearsIt_1 : decode cX4_yearsIt 1 = .ok (.i2l, 1) := by decide +kernel
theorem dX4_yearsIt_2 : decode cX4_yearsIt 2 = .ok (.lconst 1, 1) := by decide +kernel
theorem dX4_yearsIt_3 : decode cX4_yearsIt 3 = .ok (.ldc2_w 114, 3) := by decide +kernel
theorem dX4_yearsIt_6 : decode cX4_yearsIt 6 = .ok (.invokestatic 60, 3) := by decide +kernel
theorem dX4_yearsIt_9 : decode cX4_yearsIt 9 = .ok (.ifCond .ne 9, 3) := by decide +kernel
theorem dX4_yearsIt_12 : decode cX4_yearsIt 12 = .ok (.aload_n 0, 1) := by decide +kernel
theorem dX4_yearsIt_13 : decode cX4_yearsIt 13 = .ok (.iconst 1, 1) := by decide +kernel
theorem dX4_yearsIt_14 : decode cX4_yearsIt 14 = .ok (.invokevirtual 81, 3) := by decide +kernel
theorem dX4_yearsIt_17 : decode cX4_yearsIt 17 = .ok (.ireturn, 1) := by decide +kernel
theorem dX4_yearsIt_18 : decode cX4_yearsIt 18 = .ok (.iconst 0, 1) := by decide +kernel
theorem dX4_yearsIt_19 : decode cX4_yearsIt 19 = .ok (.istore_n 2, 1) := by decide +kernel
theorem dX4_yearsIt_20 : decode cX4_yearsIt 20 = .ok (.iconst 0, 1) := by decide +kernel
theorem dX4_yearsIt_21 : decode cX4_yearsIt 21 = .ok (.istore_n 3, 1) := by decide +kernel
theorem dX4_yearsIt_22 : decode cX4_yearsIt 22 = .ok (.iload_n 3, 1) := by decide +kernel
theorem dX4_yearsIt_23 : decode cX4_yearsIt 23 = .ok (.iload_n 1, 1) := by decide +kernel
theorem dX4_yearsIt_24 : decode cX4_yearsIt 24 = .ok (.if_icmp .ge 134, 3) := by decide +kernel
theorem dX4_yearsIt_27 : decode cX4_yearsIt 27 = .ok (.aload_n 0, 1) := by decide +kernel
theorem dX4_yearsIt_28 : decode cX4_yearsIt 28 = .ok (.getfield 9, 3) := by decide +kernel
theorem dX4_yearsIt_31 : decode cX4_yearsIt 31 = .ok (.iconst 2, 1) := by decide +kernel
theorem dX4_yearsIt_32 : decode cX4_yearsIt 32 = .ok (.dup2, 1) := by decide +kernel
theorem dX4_yearsIt_33 : decode cX4_yearsIt 33 = .ok (.iaload, 1) := by decide +kernel
theorem dX4_yearsIt_34 : decode cX4_yearsIt 34 = .ok (.iconst 1, 1) := by decide +kernel
theorem dX4_yearsIt_35 : decode cX4_yearsIt 35 = .ok (.iadd, 1) := by decide +kernel
theorem dX4_yearsIt_36 : decode cX4_yearsIt 36 = .ok (.iastore, 1) := by decide +kernel
theorem dX4_yearsIt_37 : decode cX4_yearsIt 37 = .ok (.iconst 0, 1) := by decide +kernel
theorem dX4_yearsIt_38 : decode cX4_yearsIt 38 = .ok (.istore 4, 2) := by decide +kernel
theorem dX4_yearsIt_40 : decode cX4_yearsIt 40 = .ok (.iload 4, 2) := by decide +kernel
theorem dX4_yearsIt_42 : decode cX4_yearsIt 42 = .ok (.aload_n 0, 1) := by decide +kernel
theorem dX4_yearsIt_43 : decode cX4_yearsIt 43 = .ok (.getfield 9, 3) := by decide +kernel
theorem dX4_yearsIt_46 : decode cX4_yearsIt 46 = .ok (.iconst 3, 1) := by decide +kernel
theorem dX4_yearsIt_47 : decode cX4_yearsIt 47 = .ok (.iaload, 1) := by decide +kernel
theorem dX4_yearsIt_48 : decode cX4_yearsIt 48 = .ok (.if_icmp .ge 104, 3) := by decide +kernel
theorem dX4_yearsIt_51 : decode cX4_yearsIt 51 = .ok (.aload_n 0, 1) := by decide +kernel
theorem dX4_yearsIt_52 : decode cX4_yearsIt 52 = .ok (.getfield 9, 3) := by decide +kernel
theorem dX4_yearsIt_55 : decode cX4_yearsIt 55 = .ok (.iconst 2, 1) := by decide +kernel
theorem dX4_yearsIt_56 : decode cX4_yearsIt 56 = .ok (.iaload, 1) := by decide +kernel
theorem dX4_yearsIt_57 : decode cX4_yearsIt 57 = .ok (.aload_n 0, 1) := by decide +kernel
theorem dX4_yearsIt_58 : decode cX4_yearsIt 58 = .ok (.getfield 9, 3) := by decide +kernel
theorem dX4_yearsIt_61 : decode cX4_yearsIt 61 = .ok (.iload 4, 2) := by decide +kernel
theorem dX4_yearsIt_63 : decode cX4_yearsIt 63 = .ok (.invokestatic 68, 3) := by decide +kernel
theorem dX4_yearsIt_66 : decode cX4_yearsIt 66 = .ok (.iconst 1, 1) := by decide +kernel
theorem dX4_yearsIt_67 : decode cX4_yearsIt 67 = .ok (.iadd, 1) := by decide +kernel
theorem dX4_yearsIt_68 : decode cX4_yearsIt 68 = .ok (.iaload, 1) := by decide +kernel
theorem dX4_yearsIt_69 : decode cX4_yearsIt 69 = .ok (.isub, 1) := by decide +kernel
theorem dX4_yearsIt_70 : decode cX4_yearsIt 70 = .ok (.istore 5, 2) := by decide +kernel
theorem dX4_yearsIt_72 : decode cX4_yearsIt 72 = .ok (.iload 5, 2) := by decide +kernel
theorem dX4_yearsIt_74 : decode cX4_yearsIt 74 = .ok (.iconst 5, 1) := by decide +kernel
theorem dX4_yearsIt_75 : decode cX4_yearsIt 75 = .ok (.if_icmp .eq 10, 3) := by decide +kernel
theorem dX4_yearsIt_78 : decode cX4_yearsIt 78 = .ok (.iload 5, 2) := by decide +kernel
theorem dX4_yearsIt_80 : decode cX4_yearsIt 80 = .ok (.bipush 10, 2) := by decide +kernel
theorem dX4_yearsIt_82 : decode cX4_yearsIt 82 = .ok (.if_icmp .ne 23, 3) := by decide +kernel
theorem dX4_yearsIt_85 : decode cX4_yearsIt 85 = .ok (.aload_n 0, 1) := by decide +kernel
theorem dX4_yearsIt_86 : decode cX4_yearsIt 86 = .ok (.getfield 9, 3) := by decide +kernel
theorem dX4_yearsIt_89 : decode cX4_yearsIt 89 = .ok (.iload 4, 2) := by decide +kernel
theorem dX4_yearsIt_91 : decode cX4_yearsIt 91 = .ok (.invokestatic 68, 3) := by decide +kernel
theorem dX4_yearsIt_94 : decode cX4_yearsIt 94 = .ok (.iconst 2, 1) := by decide +kernel
theorem dX4_yearsIt_95 : decode cX4_yearsIt 95 = .ok (.iadd, 1) := by decide +kernel
theorem dX4_yearsIt_96 : decode cX4_yearsIt 96 = .ok (.iaload, 1) := by decide +kernel
theorem dX4_yearsIt_97 : decode cX4_yearsIt 97 = .ok (.iconst 2, 1) := by decide +kernel
theorem dX4_yearsIt_98 : decode cX4_yearsIt 98 = .ok (.if_icmp .ge 7, 3) := by decide +kernel
theorem dX4_yearsIt_101 : decode cX4_yearsIt 101 = .ok (.iconst 1, 1) := by decide +kernel
theorem dX4_yearsIt_102 : decode cX4_yearsIt 102 = .ok (.goto 4, 3) := by decide +kernel
theorem dX4_yearsIt_105 : decode cX4_yearsIt 105 = .ok (.iconst 0, 1) := by decide +kernel
theorem dX4_yearsIt_106 : decode cX4_yearsIt 106 = .ok (.istore 6, 2) := by decide +kernel
theorem dX4_yearsIt_108 : decode cX4_yearsIt 108 = .ok (.aload_n 0, 1) := by decide +kernel
theorem dX4_yearsIt_109 : decode cX4_yearsIt 109 = .ok (.getfield 9, 3) := by decide +kernel
theorem dX4_yearsIt_112 : decode cX4_yearsIt 112 = .ok (.iload 4, 2) := by decide +kernel
theorem dX4_yearsIt_114 : decode cX4_yearsIt 114 = .ok (.invokestatic 68, 3) := by decide +kernel
theorem dX4_yearsIt_117 : decode cX4_yearsIt 117 = .ok (.iconst 2, 1) := by decide +kernel
theorem dX4_yearsIt_118 : decode cX4_yearsIt 118 = .ok (.iadd, 1) := by decide +kernel
theorem dX4_yearsIt_119 : decode cX4_yearsIt 119 = .ok (.dup2, 1) := by decide +kernel
theorem dX4_yearsIt_120 : decode cX4_yearsIt 120 = .ok (.iaload, 1) := by decide +kernel
theorem dX4_yearsIt_121 : decode cX4_yearsIt 121 = .ok (.iload 6, 2) := by decide +kernel
theorem dX4_yearsIt_123 : decode cX4_yearsIt 123 = .ok (.ifCond .eq 7, 3) := by decide +kernel
theorem dX4_yearsIt_126 : decode cX4_yearsIt 126 = .ok (.iconst 1, 1) := by decide +kernel
theorem dX4_yearsIt_127 : decode cX4_yearsIt 127 = .ok (.goto 4, 3) := by decide +kernel
theorem dX4_yearsIt_130 : decode cX4_yearsIt 130 = .ok (.iconst 0, 1) := by decide +kernel
theorem dX4_yearsIt_131 : decode cX4_yearsIt 131 = .ok (.iadd, 1) := by decide +kernel
theorem dX4_yearsIt_132 : decode cX4_yearsIt 132 = .ok (.iastore, 1) := by decide +kernel
theorem dX4_yearsIt_133 : decode cX4_yearsIt 133 = .ok (.iload_n 2, 1) := by decide +kernel
theorem dX4_yearsIt_134 : decode cX4_yearsIt 134 = .ok (.iload 6, 2) := by decide +kernel
theorem dX4_yearsIt_136 : decode cX4_yearsIt 136 = .ok (.ifCond .eq 7, 3) := by decide +kernel
theorem dX4_yearsIt_139 : decode cX4_yearsIt 139 = .ok (.iconst 1, 1) := by decide +kernel
theorem dX4_yearsIt_140 : decode cX4_yearsIt 140 = .ok (.goto 4, 3) := by decide +kernel
theorem dX4_yearsIt_143 : decode cX4_yearsIt 143 = .ok (.iconst 0, 1) := by decide +kernel
theorem dX4_yearsIt_144 : decode cX4_yearsIt 144 = .ok (.iadd, 1) := by decide +kernel
theorem dX4_yearsIt_145 : decode cX4_yearsIt 145 = .ok (.istore_n 2, 1) := by decide +kernel
theorem dX4_yearsIt_146 : decode cX4_yearsIt 146 = .ok (.iinc 4 1, 3) := by decide +kernel
theorem dX4_yearsIt_149 : decode cX4_yearsIt 149 = .ok (.goto (-109), 3) := by decide +kernel
theorem dX4_yearsIt_152 : decode cX4_yearsIt 152 = .ok (.iinc 3 1, 3) := by decide +kernel
theorem dX4_yearsIt_155 : decode cX4_yearsIt 155 = .ok (.goto (-133), 3) := by decide +kernel
theorem dX4_yearsIt_158 : decode cX4_yearsIt 158 = .ok (.iload_n 2, 1) := by decide +kernel
theorem dX4_yearsIt_159 : decode cX4_yearsIt 159 = .ok (.ireturn, 1) := by decide +kernel
theorem dX4_passYears_0 : decode cX4_passYears 0 = .ok (.aload_n 0, 1) := by decide +kernel
theorem dX4_passYears_1 : decode cX4_passYears 1 = .ok (.invokevirtual 87, 3) := by decide +kernel
theorem dX4_passYears_4 : decode cX4_passYears 4 = .ok (.aload_n 0, 1) := by decide +kernel
theorem dX4_passYears_5 : decode cX4_passYears 5 = .ok (.aload_n 0, 1) := by decide +kernel
theorem dX4_passYears_6 : decode cX4_passYears 6 = .ok (.iload_n 1, 1) := by decide +kernel
theorem dX4_passYears_7 : decode cX4_passYears 7 = .ok (.invokevirtual 116, 3) := by decide +kernel
theorem dX4_passYears_10 : decode cX4_passYears 10 = .ok (.invokevirtual 93, 3) := by decide +kernel
theorem dX4_passYears_13 : decode cX4_passYears 13 = .ok (.ireturn, 1) := by decide +kernel
theorem dX4_grams_0 : decode cX4_grams 0 = .ok (.iconst 0, 1) := by decide +kernel
theorem dX4_grams_1 : decode cX4_grams 1 = .ok (.aload_n 0, 1) := by decide +kernel
theorem dX4_grams_2 : decode cX4_grams 2 = .ok (.iload_n 1, 1) := by decide +kernel
theorem dX4_grams_3 : decode cX4_grams 3 = .ok (.invokevirtual 119, 3) := by decide +kernel
theorem dX4_grams_6 : decode cX4_grams 6 = .ok (.aload_n 0, 1) := by decide +kernel
theorem dX4_grams_7 : decode cX4_grams 7 = .ok (.getfield 9, 3) := by decide +kernel
theorem dX4_grams_10 : decode cX4_grams 10 = .ok (.iload_n 1, 1) := by decide +kernel
theorem dX4_grams_11 : decode cX4_grams 11 = .ok (.invokestatic 68, 3) := by decide +kernel
theorem dX4_grams_14 : decode cX4_grams 14 = .ok (.iconst 2, 1) := by decide +kernel
theorem dX4_grams_15 : decode cX4_grams 15 = .ok (.iadd, 1) := by decide +kernel
theorem dX4_grams_16 : decode cX4_grams 16 = .ok (.iaload, 1) := by decide +kernel
theorem dX4_grams_17 : decode cX4_grams 17 = .ok (.isub, 1) := by decide +kernel
theorem dX4_grams_18 : decode cX4_grams 18 = .ok (.invokestatic 122, 3) := by decide +kernel
theorem dX4_grams_21 : decode cX4_grams 21 = .ok (.ireturn, 1) := by decide +kernel
theorem dX4_manyOfYear_0 : decode cX4_manyOfYear 0 = .ok (.iconst 0, 1) := by decide +kernel
theorem dX4_manyOfYear_1 : decode cX4_manyOfYear 1 = .ok (.istore_n 2, 1) := by decide +kernel
theorem dX4_manyOfYear_2 : decode cX4_manyOfYear 2 = .ok (.iconst 0, 1) := by decide +kernel
theorem dX4_manyOfYear_3 : decode cX4_manyOfYear 3 = .ok (.istore_n 3, 1) := by decide +kernel
theorem dX4_manyOfYear_4 : decode cX4_manyOfYear 4 = .ok (.iload_n 3, 1) := by decide +kernel
theorem dX4_manyOfYear_5 : decode cX4_manyOfYear 5 = .ok (.aload_n 0, 1) := by decide +kernel
theorem dX4_manyOfYear_6 : decode cX4_manyOfYear 6 = .ok (.getfield 9, 3) := by decide +kernel
theorem dX4_manyOfYear_9 : decode cX4_manyOfYear 9 = .ok (.iconst 3, 1) := by decide +kernel
theorem dX4_manyOfYear_10 : decode cX4_manyOfYear 10 = .ok (.iaload, 1) := by decide +kernel
theorem dX4_manyOfYear_11 : decode cX4_manyOfYear 11 = .ok (.if_icmp .ge 32, 3) := by decide +kernel
theorem dX4_manyOfYear_14 : decode cX4_manyOfYear 14 = .ok (.iload_n 2, 1) := by decide +kernel
theorem dX4_manyOfYear_15 : decode cX4_manyOfYear 15 = .ok (.aload_n 0, 1) := by decide +kernel
theorem dX4_manyOfYear_16 : decode cX4_manyOfYear 16 = .ok (.getfield 9, 3) := by decide +kernel
theorem dX4_manyOfYear_19 : decode cX4_manyOfYear 19 = .ok (.iload_n 3, 1) := by decide +kernel
theorem dX4_manyOfYear_20 : decode cX4_manyOfYear 20 = .ok (.invokestatic 68, 3) := by decide +kernel
theorem dX4_manyOfYear_23 : decode cX4_manyOfYear 23 = .ok (.iconst 1, 1) := by decide +kernel
theorem dX4_manyOfYear_24 : decode cX4_manyOfYear 24 = .ok (.iadd, 1) := by decide +kernel
theorem dX4_manyOfYear_25 : decode cX4_manyOfYear 25 = .ok (.iaload, 1) := by decide +kernel
theorem dX4_manyOfYear_26 : decode cX4_manyOfYear 26 = .ok (.iload_n 1, 1) := by decide +kernel
theorem dX4_manyOfYear_27 : decode cX4_manyOfYear 27 = .ok (.if_icmp .ne 7, 3) := by decide +kernel
theorem dX4_manyOfYear_30 : decode cX4_manyOfYear 30 = .ok (.iconst 1, 1) := by decide +kernel
theorem dX4_manyOfYear_31 : decode cX4_manyOfYear 31 = .ok (.goto 4, 3) := by decide +kernel
theorem dX4_manyOfYear_34 : decode cX4_manyOfYear 34 = .ok (.iconst 0, 1) := by decide +kernel
theorem dX4_manyOfYear_35 : decode cX4_manyOfYear 35 = .ok (.iadd, 1) := by decide +kernel
theorem dX4_manyOfYear_36 : decode cX4_manyOfYear 36 = .ok (.istore_n 2, 1) := by decide +kernel
theorem dX4_manyOfYear_37 : decode cX4_manyOfYear 37 = .ok (.iinc 3 1, 3) := by decide +kernel
theorem dX4_manyOfYear_40 : decode cX4_manyOfYear 40 = .ok (.goto (-36), 3) := by decide +kernel
theorem dX4_manyOfYear_43 : decode cX4_manyOfYear 43 = .ok (.iload_n 2, 1) := by decide +kernel
theorem dX4_manyOfYear_44 : decode cX4_manyOfYear 44 = .ok (.ireturn, 1) := by decide +kernel
theorem dX4_recallIt_0 : decode cX4_recallIt 0 = .ok (.iload_n 1, 1) := by decide +kernel
theorem dX4_recallIt_1 : decode cX4_recallIt 1 = .ok (.i2l, 1) := by decide +kernel
theorem dX4_recallIt_2 : decode cX4_recallIt 2 = .ok (.lconst 0, 1) := by decide +kernel
theorem dX4_recallIt_3 : decode cX4_recallIt 3 = .ok (.aload_n 0, 1) := by decide +kernel
theorem dX4_recallIt_4 : decode cX4_recallIt 4 = .ok (.getfield 9, 3) := by decide +kernel
theorem dX4_recallIt_7 : decode cX4_recallIt 7 = .ok (.iconst 2, 1) := by decide +kernel
theorem dX4_recallIt_8 : decode cX4_recallIt 8 = .ok (.iaload, 1) := by decide +kernel
theorem dX4_recallIt_9 : decode cX4_recallIt 9 = .ok (.i2l, 1) := by decide +kernel
theorem dX4_recallIt_10 : decode cX4_recallIt 10 = .ok (.invokestatic 60, 3) := by decide +kernel
theorem dX4_recallIt_13 : decode cX4_recallIt 13 = .ok (.ifCond .ne 9, 3) := by decide +kernel
theorem dX4_recallIt_16 : decode cX4_recallIt 16 = .ok (.aload_n 0, 1) := by decide +kernel
theorem dX4_recallIt_17 : decode cX4_recallIt 17 = .ok (.iconst 1, 1) := by decide +kernel
theorem dX4_recallIt_18 : decode cX4_recallIt 18 = .ok (.invokevirtual 81, 3) := by decide +kernel
theorem dX4_recallIt_21 : decode cX4_recallIt 21 = .ok (.ireturn, 1) := by decide +kernel
theorem dX4_recallIt_22 : decode cX4_recallIt 22 = .ok (.aload_n 0, 1) := by decide +kernel
theorem dX4_recallIt_23 : decode cX4_recallIt 23 = .ok (.iload_n 1, 1) := by decide +kernel
theorem dX4_recallIt_24 : decode cX4_recallIt 24 = .ok (.invokevirtual 125, 3) := by decide +kernel
theorem dX4_recallIt_27 : decode cX4_recallIt 27 = .ok (.ifCond .ne 9, 3) := by decide +kernel
theorem dX4_recallIt_30 : decode cX4_recallIt 30 = .ok (.aload_n 0, 1) := by decide +kernel
theorem dX4_recallIt_31 : decode cX4_recallIt 31 = .ok (.iconst 2, 1) := by decide +kernel
theorem dX4_recallIt_32 : decode cX4_recallIt 32 = .ok (.invokevirtual 81, 3) := by decide +kernel
theorem dX4_recallIt_35 : decode cX4_recallIt 35 = .ok (.ireturn, 1) := by decide +kernel
theorem dX4_recallIt_36 : decode cX4_recallIt 36 = .ok (.iconst 0, 1) := by decide +kernel
theorem dX4_recallIt_37 : decode cX4_recallIt 37 = .ok (.istore_n 2, 1) := by decide +kernel
theorem dX4_recallIt_38 : decode cX4_recallIt 38 = .ok (.iconst 0, 1) := by decide +kernel
theorem dX4_recallIt_39 : decode cX4_recallIt 39 = .ok (.istore_n 3, 1) := by decide +kernel
theorem dX4_recallIt_40 : decode cX4_recallIt 40 = .ok (.iload_n 3, 1) := by decide +kernel
theorem dX4_recallIt_41 : decode cX4_recallIt 41 = .ok (.aload_n 0, 1) := by decide +kernel
theorem dX4_recallIt_42 : decode cX4_recallIt 42 = .ok (.getfield 9, 3) := by decide +kernel
theorem dX4_recallIt_45 : decode cX4_recallIt 45 = .ok (.iconst 3, 1) := by decide +kernel
theorem dX4_recallIt_46 : decode cX4_recallIt 46 = .ok (.iaload, 1) := by decide +kernel
theorem dX4_recallIt_47 : decode cX4_recallIt 47 = .ok (.if_icmp .ge 61, 3) := by decide +kernel
theorem dX4_recallIt_50 : decode cX4_recallIt 50 = .ok (.aload_n 0, 1) := by decide +kernel
theorem dX4_recallIt_51 : decode cX4_recallIt 51 = .ok (.getfield 9, 3) := by decide +kernel
theorem dX4_recallIt_54 : decode cX4_recallIt 54 = .ok (.iload_n 3, 1) := by decide +kernel
theorem dX4_recallIt_55 : decode cX4_recallIt 55 = .ok (.invokestatic 68, 3) := by decide +kernel
theorem dX4_recallIt_58 : decode cX4_recallIt 58 = .ok (.iconst 1, 1) := by decide +kernel
theorem dX4_recallIt_59 : decode cX4_recallIt 59 = .ok (.iadd, 1) := by decide +kernel
theorem dX4_recallIt_60 : decode cX4_recallIt 60 = .ok (.iaload, 1) := by decide +kernel
theorem dX4_recallIt_61 : decode cX4_recallIt 61 = .ok (.iload_n 1, 1) := by decide +kernel
theorem dX4_recallIt_62 : decode cX4_recallIt 62 = .ok (.if_icmp .ne 40, 3) := by decide +kernel
theorem dX4_recallIt_65 : decode cX4_recallIt 65 = .ok (.iload_n 2, 1) := by decide +kernel
theorem dX4_recallIt_66 : decode cX4_recallIt 66 = .ok (.aload_n 0, 1) := by decide +kernel
theorem dX4_recallIt_67 : decode cX4_recallIt 67 = .ok (.iload_n 3, 1) := by decide +kernel
theorem dX4_recallIt_68 : decode cX4_recallIt 68 = .ok (.invokevirtual 128, 3) := by decide +kernel
theorem dX4_recallIt_71 : decode cX4_recallIt 71 = .ok (.iadd, 1) := by decide +kernel
theorem dX4_recallIt_72 : decode cX4_recallIt 72 = .ok (.istore_n 2, 1) := by decide +kernel
theorem dX4_recallIt_73 : decode cX4_recallIt 73 = .ok (.aload_n 0, 1) := by decide +kernel
theorem dX4_recallIt_74 : decode cX4_recallIt 74 = .ok (.getfield 9, 3) := by decide +kernel
theorem dX4_recallIt_77 : decode cX4_recallIt 77 = .ok (.bipush 7, 2) := by decide +kernel
theorem dX4_recallIt_79 : decode cX4_recallIt 79 = .ok (.dup2, 1) := by decide +kernel
theorem dX4_recallIt_80 : decode cX4_recallIt 80 = .ok (.iaload, 1) := by decide +kernel
theorem dX4_recallIt_81 : decode cX4_recallIt 81 = .ok (.aload_n 0, 1) := by decide +kernel
theorem dX4_recallIt_82 : decode cX4_recallIt 82 = .ok (.iload_n 3, 1) := by decide +kernel
theorem dX4_recallIt_83 : decode cX4_recallIt 83 = .ok (.invokevirtual 119, 3) := by decide +kernel
theorem dX4_recallIt_86 : decode cX4_recallIt 86 = .ok (.aload_n 0, 1) := by decide +kernel
theorem dX4_recallIt_87 : decode cX4_recallIt 87 = .ok (.iload_n 3, 1) := by decide +kernel
theorem dX4_recallIt_88 : decode cX4_recallIt 88 = .ok (.invokevirtual 128, 3) := by decide +kernel
theorem dX4_recallIt_91 : decode cX4_recallIt 91 = .ok (.isub, 1) := by decide +kernel
theorem dX4_recallIt_92 : decode cX4_recallIt 92 = .ok (.iadd, 1) := by decide +kernel
theorem dX4_recallIt_93 : decode cX4_recallIt 93 = .ok (.iastore, 1) := by decide +kernel
theorem dX4_recallIt_94 : decode cX4_recallIt 94 = .ok (.aload_n 0, 1) := by decide +kernel
theorem dX4_recallIt_95 : decode cX4_recallIt 95 = .ok (.iload_n 3, 1) := by decide +kernel
theorem dX4_recallIt_96 : decode cX4_recallIt 96 = .ok (.invokevirtual 131, 3) := by decide +kernel
theorem dX4_recallIt_99 : decode cX4_recallIt 99 = .ok (.goto (-59), 3) := by decide +kernel
theorem dX4_recallIt_102 : decode cX4_recallIt 102 = .ok (.iinc 3 1, 3) := by decide +kernel
theorem dX4_recallIt_105 : decode cX4_recallIt 105 = .ok (.goto (-65), 3) := by decide +kernel
theorem dX4_recallIt_108 : decode cX4_recallIt 108 = .ok (.aload_n 0, 1) := by decide +kernel
theorem dX4_recallIt_109 : decode cX4_recallIt 109 = .ok (.getfield 9, 3) := by decide +kernel
theorem dX4_recallIt_112 : decode cX4_recallIt 112 = .ok (.iconst 1, 1) := by decide +kernel
theorem dX4_recallIt_113 : decode cX4_recallIt 113 = .ok (.dup2, 1) := by decide +kernel
theorem dX4_recallIt_114 : decode cX4_recallIt 114 = .ok (.iaload, 1) := by decide +kernel
theorem dX4_recallIt_115 : decode cX4_recallIt 115 = .ok (.iload_n 2, 1) := by decide +kernel
theorem dX4_recallIt_116 : decode cX4_recallIt 116 = .ok (.iadd, 1) := by decide +kernel
theorem dX4_recallIt_117 : decode cX4_recallIt 117 = .ok (.iastore, 1) := by decide +kernel
theorem dX4_recallIt_118 : decode cX4_recallIt 118 = .ok (.iload_n 2, 1) := by decide +kernel
theorem dX4_recallIt_119 : decode cX4_recallIt 119 = .ok (.ireturn, 1) := by decide +kernel
theorem dX4_recall_0 : decode cX4_recall 0 = .ok (.aload_n 0, 1) := by decide +kernel
theorem dX4_recall_1 : decode cX4_recall 1 = .ok (.invokevirtual 87, 3) := by decide +kernel
theorem dX4_recall_4 : decode cX4_recall 4 = .ok (.aload_n 0, 1) := by decide +kernel
theorem dX4_recall_5 : decode cX4_recall 5 = .ok (.aload_n 0, 1) := by decide +kernel
theorem dX4_recall_6 : decode cX4_recall 6 = .ok (.iload_n 1, 1) := by decide +kernel
theorem dX4_recall_7 : decode cX4_recall 7 = .ok (.invokevirtual 135, 3) := by decide +kernel
theorem dX4_recall_10 : decode cX4_recall 10 = .ok (.invokevirtual 93, 3) := by decide +kernel
theorem dX4_recall_13 : decode cX4_recall 13 = .ok (.ireturn, 1) := by decide +kernel
theorem dX4_cell_0 : decode cX4_cell 0 = .ok (.bipush 100, 2) := by decide +kernel
theorem dX4_cell_2 : decode cX4_cell 2 = .ok (.iload_n 0, 1) := by decide +kernel
theorem dX4_cell_3 : decode cX4_cell 3 = .ok (.imul, 1) := by decide +kernel
theorem dX4_cell_4 : decode cX4_cell 4 = .ok (.iload_n 1, 1) := by decide +kernel
theorem dX4_cell_5 : decode cX4_cell 5 = .ok (.iadd, 1) := by decide +kernel
theorem dX4_cell_6 : decode cX4_cell 6 = .ok (.ireturn, 1) := by decide +kernel
theorem dX4_sortsDies_0 : decode cX4_sortsDies 0 = .ok (.iconst 0, 1) := by decide +kernel
theorem dX4_sortsDies_1 : decode cX4_sortsDies 1 = .ok (.istore_n 1, 1) := by decide +kernel
theorem dX4_sortsDies_2 : decode cX4_sortsDies 2 = .ok (.iload_n 1, 1) := by decide +kernel
theorem dX4_sortsDies_3 : decode cX4_sortsDies 3 = .ok (.aload_n 0, 1) := by decide +kernel
theorem dX4_sortsDies_4 : decode cX4_sortsDies 4 = .ok (.getfield 9, 3) := by decide +kernel
theorem dX4_sortsDies_7 : decode cX4_sortsDies 7 = .ok (.iconst 0, 1) := by decide +kernel
theorem dX4_sortsDies_8 : decode cX4_sortsDies 8 = .ok (.iaload, 1) := by decide +kernel
theorem dX4_sortsDies_9 : decode cX4_sortsDies 9 = .ok (.if_icmp .ge 65, 3) := by decide +kernel
theorem dX4_sortsDies_12 : decode cX4_sortsDies 12 = .ok (.iconst 0, 1) := by decide +kernel
theorem dX4_sortsDies_13 : decode cX4_sortsDies 13 = .ok (.istore_n 2, 1) := by decide +kernel
theorem dX4_sortsDies_14 : decode cX4_sortsDies 14 = .ok (.iconst 0, 1) := by decide +kernel
theorem dX4_sortsDies_15 : decode cX4_sortsDies 15 = .ok (.istore_n 3, 1) := by decide +kernel
theorem dX4_sortsDies_16 : decode cX4_sortsDies 16 = .ok (.iload_n 3, 1) := by decide +kernel
theorem dX4_sortsDies_17 : decode cX4_sortsDies 17 = .ok (.aload_n 0, 1) := by decide +kernel
theorem dX4_sortsDies_18 : decode cX4_sortsDies 18 = .ok (.getfield 9, 3) := by decide +kernel
theorem dX4_sortsDies_21 : decode cX4_sortsDies 21 = .ok (.iconst 0, 1) := by decide +kernel
theorem dX4_sortsDies_22 : decode cX4_sortsDies 22 = .ok (.iaload, 1) := by decide +kernel
theorem dX4_sortsDies_23 : decode cX4_sortsDies 23 = .ok (.if_icmp .ge 38, 3) := by decide +kernel
theorem dX4_sortsDies_26 : decode cX4_sortsDies 26 = .ok (.iload_n 2, 1) := by decide +kernel
theorem dX4_sortsDies_27 : decode cX4_sortsDies 27 = .ok (.aload_n 0, 1) := by decide +kernel
theorem dX4_sortsDies_28 : decode cX4_sortsDies 28 = .ok (.getfield 9, 3) := by decide +kernel
theorem dX4_sortsDies_31 : decode cX4_sortsDies 31 = .ok (.iload_n 3, 1) := by decide +kernel
theorem dX4_sortsDies_32 : decode cX4_sortsDies 32 = .ok (.invokestatic 64, 3) := by decide +kernel
theorem dX4_sortsDies_35 : decode cX4_sortsDies 35 = .ok (.iaload, 1) := by decide +kernel
theorem dX4_sortsDies_36 : decode cX4_sortsDies 36 = .ok (.aload_n 0, 1) := by decide +kernel
theorem dX4_sortsDies_37 : decode cX4_sortsDies 37 = .ok (.getfield 9, 3) := by decide +kernel
theorem dX4_sortsDies_40 : decode cX4_sortsDies 40 = .ok (.iload_n 1, 1) := by decide +kernel
theorem dX4_sortsDies_41 : decode cX4_sortsDies 41 = .ok (.invokestatic 64, 3) := by decide +kernel
theorem dX4_sortsDies_44 : decode cX4_sortsDies 44 = .ok (.iaload, 1) := by decide +kernel
theorem dX4_sortsDies_45 : decode cX4_sortsDies 45 = .ok (.if_icmp .le 7, 3) := by decide +kernel
theorem dX4_sortsDies_48 : decode cX4_sortsDies 48 = .ok (.iconst 1, 1) := by decide +kernel
theorem dX4_sortsDies_49 : decode cX4_sortsDies 49 = .ok (.goto 4, 3) := by decide +kernel
theorem dX4_sortsDies_52 : decode cX4_sortsDies 52 = .ok (.iconst 0, 1) := by decide +kernel
theorem dX4_sortsDies_53 : decode cX4_sortsDies 53 = .ok (.iadd, 1) := by decide +kernel
theorem dX4_sortsDies_54 : decode cX4_sortsDies 54 = .ok (.istore_n 2, 1) := by decide +kernel
theorem dX4_sortsDies_55 : decode cX4_sortsDies 55 = .ok (.iinc 3 1, 3) := by decide +kernel
theorem dX4_sortsDies_58 : decode cX4_sortsDies 58 = .ok (.goto (-42), 3) := by decide +kernel
theorem dX4_sortsDies_61 : decode cX4_sortsDies 61 = .ok (.aload_n 0, 1) := by decide +kernel
theorem dX4_sortsDies_62 : decode cX4_sortsDies 62 = .ok (.getfield 32, 3) := by decide +kernel
theorem dX4_sortsDies_65 : decode cX4_sortsDies 65 = .ok (.iload_n 2, 1) := by decide +kernel
theorem dX4_sortsDies_66 : decode cX4_sortsDies 66 = .ok (.iload_n 1, 1) := by decide +kernel
theorem dX4_sortsDies_67 : decode cX4_sortsDies 67 = .ok (.iastore, 1) := by decide +kernel
theorem dX4_sortsDies_68 : decode cX4_sortsDies 68 = .ok (.iinc 1 1, 3) := by decide +kernel
theorem dX4_sortsDies_71 : decode cX4_sortsDies 71 = .ok (.goto (-69), 3) := by decide +kernel
theorem dX4_sortsDies_74 : decode cX4_sortsDies 74 = .ok (.return_, 1) := by decide +kernel
theorem dX4_works_0 : decode cX4_works 0 = .ok (.aload_n 0, 1) := by decide +kernel
theorem dX4_works_1 : decode cX4_works 1 = .ok (.invokevirtual 138, 3) := by decide +kernel
theorem dX4_works_4 : decode cX4_works 4 = .ok (.aload_n 0, 1) := by decide +kernel
theorem dX4_works_5 : decode cX4_works 5 = .ok (.getfield 9, 3) := by decide +kernel
theorem dX4_works_8 : decode cX4_works 8 = .ok (.iconst 0, 1) := by decide +kernel
theorem dX4_works_9 : decode cX4_works 9 = .ok (.iaload, 1) := by decide +kernel
theorem dX4_works_10 : decode cX4_works 10 = .ok (.istore_n 1, 1) := by decide +kernel
theorem dX4_works_11 : decode cX4_works 11 = .ok (.iconst 0, 1) := by decide +kernel
theorem dX4_works_12 : decode cX4_works 12 = .ok (.istore_n 2, 1) := by decide +kernel
theorem dX4_works_13 : decode cX4_works 13 = .ok (.iload_n 2, 1) := by decide +kernel
theorem dX4_works_14 : decode cX4_works 14 = .ok (.bipush 99, 2) := by decide +kernel
theorem dX4_works_16 : decode cX4_works 16 = .ok (.if_icmp .gt 30, 3) := by decide +kernel
theorem dX4_works_19 : decode cX4_works 19 = .ok (.aload_n 0, 1) := by decide +kernel
theorem dX4_works_20 : decode cX4_works 20 = .ok (.getfield 35, 3) := by decide +kernel
theorem dX4_works_23 : decode cX4_works 23 = .ok (.iload_n 1, 1) := by decide +kernel
theorem dX4_works_24 : decode cX4_works 24 = .ok (.iload_n 2, 1) := by decide +kernel
theorem dX4_works_25 : decode cX4_works 25 = .ok (.invokestatic 141, 3) := by decide +kernel
theorem dX4_works_28 : decode cX4_works 28 = .ok (.iload_n 2, 1) := by decide +kernel
theorem dX4_works_29 : decode cX4_works 29 = .ok (.ifCond .ne 7, 3) := by decide +kernel
theorem dX4_works_32 : decode cX4_works 32 = .ok (.iconst 0, 1) := by decide +kernel
theorem dX4_works_33 : decode cX4_works 33 = .ok (.goto 6, 3) := by decide +kernel
theorem dX4_works_36 : decode cX4_works 36 = .ok (.sipush 1000, 3) := by decide +kernel
theorem dX4_works_39 : decode cX4_works 39 = .ok (.iastore, 1) := by decide +kernel
theorem dX4_works_40 : decode cX4_works 40 = .ok (.iinc 2 1, 3) := by decide +kernel
theorem dX4_works_43 : decode cX4_works 43 = .ok (.goto (-30), 3) := by decide +kernel
theorem dX4_works_46 : decode cX4_works 46 = .ok (.iload_n 1, 1) := by decide +kernel
theorem dX4_works_47 : decode cX4_works 47 = .ok (.iconst 1, 1) := by decide +kernel
theorem dX4_works_48 : decode cX4_works 48 = .ok (.isub, 1) := by decide +kernel
theorem dX4_works_49 : decode cX4_works 49 = .ok (.istore_n 2, 1) := by decide +kernel
theorem dX4_works_50 : decode cX4_works 50 = .ok (.iload_n 2, 1) := by decide +kernel
theorem dX4_works_51 : decode cX4_works 51 = .ok (.ifCond .lt 129, 3) := by decide +kernel
theorem dX4_works_54 : decode cX4_works 54 = .ok (.aload_n 0, 1) := by decide +kernel
theorem dX4_works_55 : decode cX4_works 55 = .ok (.getfield 9, 3) := by decide +kernel
theorem dX4_works_58 : decode cX4_works 58 = .ok (.aload_n 0, 1) := by decide +kernel
theorem dX4_works_59 : decode cX4_works 59 = .ok (.getfield 32, 3) := by decide +kernel
theorem dX4_works_62 : decode cX4_works 62 = .ok (.iload_n 2, 1) := by decide +kernel
theorem dX4_works_63 : decode cX4_works 63 = .ok (.iaload, 1) := by decide +kernel
theorem dX4_works_64 : decode cX4_works 64 = .ok (.invokestatic 64, 3) := by decide +kernel
theorem dX4_works_67 : decode cX4_works 67 = .ok (.iaload, 1) := by decide +kernel
theorem dX4_works_68 : decode cX4_works 68 = .ok (.istore_n 3, 1) := by decide +kernel
theorem dX4_works_69 : decode cX4_works 69 = .ok (.aload_n 0, 1) := by decide +kernel
theorem dX4_works_70 : decode cX4_works 70 = .ok (.aload_n 0, 1) := by decide +kernel
theorem dX4_works_71 : decode cX4_works 71 = .ok (.getfield 32, 3) := by decide +kernel
theorem dX4_works_74 : decode cX4_works 74 = .ok (.iload_n 2, 1) := by decide +kernel
theorem dX4_works_75 : decode cX4_works 75 = .ok (.iaload, 1) := by decide +kernel
theorem dX4_works_76 : decode cX4_works 76 = .ok (.invokevirtual 144, 3) := by decide +kernel
theorem dX4_works_79 : decode cX4_works 79 = .ok (.istore 4, 2) := by decide +kernel
theorem dX4_works_81 : decode cX4_works 81 = .ok (.iconst 0, 1) := by decide +kernel
theorem dX4_works_82 : decode cX4_works 82 = .ok (.istore 5, 2) := by decide +kernel
theorem dX4_works_84 : decode cX4_works 84 = .ok (.iload 5, 2) := by decide +kernel
theorem dX4_works_86 : decode cX4_works 86 = .ok (.bipush 99, 2) := by decide +kernel
theorem dX4_works_88 : decode cX4_works 88 = .ok (.if_icmp .gt 86, 3) := by decide +kernel
theorem dX4_works_91 : decode cX4_works 91 = .ok (.sipush 1000, 3) := by decide +kernel
theorem dX4_works_94 : decode cX4_works 94 = .ok (.istore 6, 2) := by decide +kernel
theorem dX4_works_96 : decode cX4_works 96 = .ok (.iconst 0, 1) := by decide +kernel
theorem dX4_works_97 : decode cX4_works 97 = .ok (.istore 7, 2) := by decide +kernel
theorem dX4_works_99 : decode cX4_works 99 = .ok (.iload 7, 2) := by decide +kernel
theorem dX4_works_101 : decode cX4_works 101 = .ok (.iload 4, 2) := by decide +kernel
theorem dX4_works_103 : decode cX4_works 103 = .ok (.if_icmp .gt 46, 3) := by decide +kernel
theorem dX4_works_106 : decode cX4_works 106 = .ok (.iload 7, 2) := by decide +kernel
theorem dX4_works_108 : decode cX4_works 108 = .ok (.iload_n 3, 1) := by decide +kernel
theorem dX4_works_109 : decode cX4_works 109 = .ok (.imul, 1) := by decide +kernel
theorem dX4_works_110 : decode cX4_works 110 = .ok (.iload 5, 2) := by decide +kernel
theorem dX4_works_112 : decode cX4_works 112 = .ok (.if_icmp .gt 37, 3) := by decide +kernel
theorem dX4_works_115 : decode cX4_works 115 = .ok (.iload 6, 2) := by decide +kernel
theorem dX4_works_117 : decode cX4_works 117 = .ok (.iload 7, 2) := by decide +kernel
theorem dX4_works_119 : decode cX4_works 119 = .ok (.aload_n 0, 1) := by decide +kernel
theorem dX4_works_120 : decode cX4_works 120 = .ok (.getfield 35, 3) := by decide +kernel
theorem dX4_works_123 : decode cX4_works 123 = .ok (.iload_n 2, 1) := by decide +kernel
theorem dX4_works_124 : decode cX4_works 124 = .ok (.iconst 1, 1) := by decide +kernel
theorem dX4_works_125 : decode cX4_works 125 = .ok (.iadd, 1) := by decide +kernel
theorem dX4_works_126 : decode cX4_works 126 = .ok (.iload 5, 2) := by decide +kernel
theorem dX4_works_128 : decode cX4_works 128 = .ok (.iload 7, 2) := by decide +kernel
theorem dX4_works_130 : decode cX4_works 130 = .ok (.iload_n 3, 1) := by decide +kernel
theorem dX4_works_131 : decode cX4_works 131 = .ok (.imul, 1) := by decide +kernel
theorem dX4_works_132 : decode cX4_works 132 = .ok (.isub, 1) := by decide +kernel
theorem dX4_works_133 : decode cX4_works 133 = .ok (.invokestatic 141, 3) := by decide +kernel
theorem dX4_works_136 : decode cX4_works 136 = .ok (.iaload, 1) := by decide +kernel
theorem dX4_works_137 : decode cX4_works 137 = .ok (.iadd, 1) := by decide +kernel
theorem dX4_works_138 : decode cX4_works 138 = .ok (.invokestatic 71, 3) := by decide +kernel
theorem dX4_works_141 : decode cX4_works 141 = .ok (.istore 6, 2) := by decide +kernel
theorem dX4_works_143 : decode cX4_works 143 = .ok (.iinc 7 1, 3) := by decide +kernel
theorem dX4_works_146 : decode cX4_works 146 = .ok (.goto (-47), 3) := by decide +kernel
theorem dX4_works_149 : decode cX4_works 149 = .ok (.aload_n 0, 1) := by decide +kernel
theorem dX4_works_150 : decode cX4_works 150 = .ok (.getfield 35, 3) := by decide +kernel
theorem dX4_works_153 : decode cX4_works 153 = .ok (.iload_n 2, 1) := by decide +kernel
theorem dX4_works_154 : decode cX4_works 154 = .ok (.iload 5, 2) := by decide +kernel
theorem dX4_works_156 : decode cX4_works 156 = .ok (.invokestatic 141, 3) := by decide +kernel
theorem dX4_works_159 : decode cX4_works 159 = .ok (.sipush 1000, 3) := by decide +kernel
theorem dX4_works_162 : decode cX4_works 162 = .ok (.iload 6, 2) := by decide +kernel
theorem dX4_works_164 : decode cX4_works 164 = .ok (.invokestatic 71, 3) := by decide +kernel
theorem dX4_works_167 : decode cX4_works 167 = .ok (.iastore, 1) := by decide +kernel
theorem dX4_works_168 : decode cX4_works 168 = .ok (.iinc 5 1, 3) := by decide +kernel
theorem dX4_works_171 : decode cX4_works 171 = .ok (.goto (-87), 3) := by decide +kernel
theorem dX4_works_174 : decode cX4_works 174 = .ok (.iinc 2 (-1), 3) := by decide +kernel
theorem dX4_works_177 : decode cX4_works 177 = .ok (.goto (-127), 3) := by decide +kernel
theorem dX4_works_180 : decode cX4_works 180 = .ok (.return_, 1) := by decide +kernel
theorem dX4_fewestFor_0 : decode cX4_fewestFor 0 = .ok (.aload_n 0, 1) := by decide +kernel
theorem dX4_fewestFor_1 : decode cX4_fewestFor 1 = .ok (.invokevirtual 147, 3) := by decide +kernel
theorem dX4_fewestFor_4 : decode cX4_fewestFor 4 = .ok (.aload_n 0, 1) := by decide +kernel
theorem dX4_fewestFor_5 : decode cX4_fewestFor 5 = .ok (.getfield 35, 3) := by decide +kernel
theorem dX4_fewestFor_8 : decode cX4_fewestFor 8 = .ok (.iconst 0, 1) := by decide +kernel
theorem dX4_fewestFor_9 : decode cX4_fewestFor 9 = .ok (.iload_n 1, 1) := by decide +kernel
theorem dX4_fewestFor_10 : decode cX4_fewestFor 10 = .ok (.invokestatic 141, 3) := by decide +kernel
theorem dX4_fewestFor_13 : decode cX4_fewestFor 13 = .ok (.iaload, 1) := by decide +kernel
theorem dX4_fewestFor_14 : decode cX4_fewestFor 14 = .ok (.ireturn, 1) := by decide +kernel
theorem dX4_used_0 : decode cX4_used 0 = .ok (.aload_n 0, 1) := by decide +kernel
theorem dX4_used_1 : decode cX4_used 1 = .ok (.getfield 32, 3) := by decide +kernel
theorem dX4_used_4 : decode cX4_used 4 = .ok (.iload_n 1, 1) := by decide +kernel
theorem dX4_used_5 : decode cX4_used 5 = .ok (.iaload, 1) := by decide +kernel
theorem dX4_used_6 : decode cX4_used 6 = .ok (.istore_n 3, 1) := by decide +kernel
theorem dX4_used_7 : decode cX4_used 7 = .ok (.aload_n 0, 1) := by decide +kernel
theorem dX4_used_8 : decode cX4_used 8 = .ok (.getfield 9, 3) := by decide +kernel
theorem dX4_used_11 : decode cX4_used 11 = .ok (.iload_n 3, 1) := by decide +kernel
theorem dX4_used_12 : decode cX4_used 12 = .ok (.invokestatic 64, 3) := by decide +kernel
theorem dX4_used_15 : decode cX4_used 15 = .ok (.iaload, 1) := by decide +kernel
theorem dX4_used_16 : decode cX4_used 16 = .ok (.istore 4, 2) := by decide +kernel
theorem dX4_used_18 : decode cX4_used 18 = .ok (.iconst 0, 1) := by decide +kernel
theorem dX4_used_19 : decode cX4_used 19 = .ok (.istore 5, 2) := by decide +kernel
theorem dX4_used_21 : decode cX4_used 21 = .ok (.iconst 0, 1) := by decide +kernel
theorem dX4_used_22 : decode cX4_used 22 = .ok (.istore 6, 2) := by decide +kernel
theorem dX4_used_24 : decode cX4_used 24 = .ok (.iload 6, 2) := by decide +kernel
theorem dX4_used_26 : decode cX4_used 26 = .ok (.aload_n 0, 1) := by decide +kernel
theorem dX4_used_27 : decode cX4_used 27 = .ok (.iload_n 3, 1) := by decide +kernel
theorem dX4_used_28 : decode cX4_used 28 = .ok (.invokevirtual 144, 3) := by decide +kernel
theorem dX4_used_31 : decode cX4_used 31 = .ok (.if_icmp .gt 61, 3) := by decide +kernel
theorem dX4_used_34 : decode cX4_used 34 = .ok (.iload 6, 2) := by decide +kernel
theorem dX4_used_36 : decode cX4_used 36 = .ok (.iload 4, 2) := by decide +kernel
theorem dX4_used_38 : decode cX4_used 38 = .ok (.imul, 1) := by decide +kernel
theorem dX4_used_39 : decode cX4_used 39 = .ok (.iload_n 2, 1) := by decide +kernel
theorem dX4_used_40 : decode cX4_used 40 = .ok (.if_icmp .gt 52, 3) := by decide +kernel
theorem dX4_used_43 : decode cX4_used 43 = .ok (.iload 6, 2) := by decide +kernel
theorem dX4_used_45 : decode cX4_used 45 = .ok (.aload_n 0, 1) := by decide +kernel
theorem dX4_used_46 : decode cX4_used 46 = .ok (.getfield 35, 3) := by decide +kernel
theorem dX4_used_49 : decode cX4_used 49 = .ok (.iload_n 1, 1) := by decide +kernel
theorem dX4_used_50 : decode cX4_used 50 = .ok (.iconst 1, 1) := by decide +kernel
theorem dX4_used_51 : decode cX4_used 51 = .ok (.iadd, 1) := by decide +kernel
theorem dX4_used_52 : decode cX4_used 52 = .ok (.iload_n 2, 1) := by decide +kernel
theorem dX4_used_53 : decode cX4_used 53 = .ok (.iload 6, 2) := by decide +kernel
theorem dX4_used_55 : decode cX4_used 55 = .ok (.iload 4, 2) := by decide +kernel
theorem dX4_used_57 : decode cX4_used 57 = .ok (.imul, 1) := by decide +kernel
theorem dX4_used_58 : decode cX4_used 58 = .ok (.isub, 1) := by decide +kernel
theorem dX4_used_59 : decode cX4_used 59 = .ok (.invokestatic 141, 3) := by decide +kernel
theorem dX4_used_62 : decode cX4_used 62 = .ok (.iaload, 1) := by decide +kernel
theorem dX4_used_63 : decode cX4_used 63 = .ok (.iadd, 1) := by decide +kernel
theorem dX4_used_64 : decode cX4_used 64 = .ok (.aload_n 0, 1) := by decide +kernel
theorem dX4_used_65 : decode cX4_used 65 = .ok (.getfield 35, 3) := by decide +kernel
theorem dX4_used_68 : decode cX4_used 68 = .ok (.iload_n 1, 1) := by decide +kernel
theorem dX4_used_69 : decode cX4_used 69 = .ok (.iload_n 2, 1) := by decide +kernel
theorem dX4_used_70 : decode cX4_used 70 = .ok (.invokestatic 141, 3) := by decide +kernel
theorem dX4_used_73 : decode cX4_used 73 = .ok (.iaload, 1) := by decide +kernel
theorem dX4_used_74 : decode cX4_used 74 = .ok (.if_icmp .ne 8, 3) := by decide +kernel
theorem dX4_used_77 : decode cX4_used 77 = .ok (.iload 6, 2) := by decide +kernel
theorem dX4_used_79 : decode cX4_used 79 = .ok (.goto 5, 3) := by decide +kernel
theorem dX4_used_82 : decode cX4_used 82 = .ok (.iload 5, 2) := by decide +kernel
theorem dX4_used_84 : decode cX4_used 84 = .ok (.istore 5, 2) := by decide +kernel
theorem dX4_used_86 : decode cX4_used 86 = .ok (.iinc 6 1, 3) := by decide +kernel
theorem dX4_used_89 : decode cX4_used 89 = .ok (.goto (-65), 3) := by decide +kernel
theorem dX4_used_92 : decode cX4_used 92 = .ok (.iload 5, 2) := by decide +kernel
theorem dX4_used_94 : decode cX4_used 94 = .ok (.ireturn, 1) := by decide +kernel
theorem dX4_firstCoin_0 : decode cX4_firstCoin 0 = .ok (.iconst (-1), 1) := by decide +kernel
theorem dX4_firstCoin_1 : decode cX4_firstCoin 1 = .ok (.istore_n 2, 1) := by decide +kernel
theorem dX4_firstCoin_2 : decode cX4_firstCoin 2 = .ok (.iconst 0, 1) := by decide +kernel
theorem dX4_firstCoin_3 : decode cX4_firstCoin 3 = .ok (.istore_n 3, 1) := by decide +kernel
theorem dX4_firstCoin_4 : decode cX4_firstCoin 4 = .ok (.iload_n 3, 1) := by decide +kernel
theorem dX4_firstCoin_5 : decode cX4_firstCoin 5 = .ok (.aload_n 0, 1) := by decide +kernel
theorem dX4_firstCoin_6 : decode cX4_firstCoin 6 = .ok (.getfield 9, 3) := by decide +kernel
theorem dX4_firstCoin_9 : decode cX4_firstCoin 9 = .ok (.iconst 3, 1) := by decide +kernel
theorem dX4_firstCoin_10 : decode cX4_firstCoin 10 = .ok (.iaload, 1) := by decide +kernel
theorem dX4_firstCoin_11 : decode cX4_firstCoin 11 = .ok (.if_icmp .ge 102, 3) := by decide +kernel
theorem dX4_firstCoin_14 : decode cX4_firstCoin 14 = .ok (.aload_n 0, 1) := by decide +kernel
theorem dX4_firstCoin_15 : decode cX4_firstCoin 15 = .ok (.getfield 9, 3) := by decide +kernel
theorem dX4_firstCoin_18 : decode cX4_firstCoin 18 = .ok (.iload_n 3, 1) := by decide +kernel
theorem dX4_firstCoin_19 : decode cX4_firstCoin 19 = .ok (.invokestatic 68, 3) := by decide +kernel
theorem dX4_firstCoin_22 : decode cX4_firstCoin 22 = .ok (.iaload, 1) := by decide +kernel
theorem dX4_firstCoin_23 : decode cX4_firstCoin 23 = .ok (.iload_n 1, 1) := by decide +kernel
theorem dX4_firstCoin_24 : decode cX4_firstCoin 24 = .ok (.if_icmp .ne 83, 3) := by decide +kernel
theorem dX4_firstCoin_27 : decode cX4_firstCoin 27 = .ok (.iload_n 2, 1) := by decide +kernel
theorem dX4_firstCoin_28 : decode cX4_firstCoin 28 = .ok (.iconst (-1), 1) := by decide +kernel
theorem dX4_firstCoin_29 : decode cX4_firstCoin 29 = .ok (.if_icmp .ne 7, 3) := by decide +kernel
theorem dX4_firstCoin_32 : decode cX4_firstCoin 32 = .ok (.iconst 1, 1) := by decide +kernel
theorem dX4_firstCoin_33 : decode cX4_firstCoin 33 = .ok (.goto 26, 3) := by decide +kernel
theorem dX4_firstCoin_36 : decode cX4_firstCoin 36 = .ok (.aload_n 0, 1) := by decide +kernel
theorem dX4_firstCoin_37 : decode cX4_firstCoin 37 = .ok (.getfield 9, 3) := by decide +kernel
theorem dX4_firstCoin_40 : decode cX4_firstCoin 40 = .ok (.iload_n 3, 1) := by decide +kernel
theorem dX4_firstCoin_41 : decode cX4_firstCoin 41 = .ok (.invokestatic 68, 3) := by decide +kernel
theorem dX4_firstCoin_44 : decode cX4_firstCoin 44 = .ok (.iconst 2, 1) := by decide +kernel
theorem dX4_firstCoin_45 : decode cX4_firstCoin 45 = .ok (.iadd, 1) := by decide +kernel
theorem dX4_firstCoin_46 : decode cX4_firstCoin 46 = .ok (.iaload, 1) := by decide +kernel
theorem dX4_firstCoin_47 : decode cX4_firstCoin 47 = .ok (.aload_n 0, 1) := by decide +kernel
theorem dX4_firstCoin_48 : decode cX4_firstCoin 48 = .ok (.getfield 9, 3) := by decide +kernel
theorem dX4_firstCoin_51 : decode cX4_firstCoin 51 = .ok (.iload_n 2, 1) := by decide +kernel
theorem dX4_firstCoin_52 : decode cX4_firstCoin 52 = .ok (.invokestatic 68, 3) := by decide +kernel
theorem dX4_firstCoin_55 : decode cX4_firstCoin 55 = .ok (.iconst 2, 1) := by decide +kernel
theorem dX4_firstCoin_56 : decode cX4_firstCoin 56 = .ok (.iadd, 1) := by decide +kernel
theorem dX4_firstCoin_57 : decode cX4_firstCoin 57 = .ok (.iaload, 1) := by decide +kernel
theorem dX4_firstCoin_58 : decode cX4_firstCoin 58 = .ok (.isub, 1) := by decide +kernel
theorem dX4_firstCoin_59 : decode cX4_firstCoin 59 = .ok (.istore 4, 2) := by decide +kernel
theorem dX4_firstCoin_61 : decode cX4_firstCoin 61 = .ok (.iload 4, 2) := by decide +kernel
theorem dX4_firstCoin_63 : decode cX4_firstCoin 63 = .ok (.ifCond .ne 29, 3) := by decide +kernel
theorem dX4_firstCoin_66 : decode cX4_firstCoin 66 = .ok (.aload_n 0, 1) := by decide +kernel
theorem dX4_firstCoin_67 : decode cX4_firstCoin 67 = .ok (.getfield 9, 3) := by decide +kernel
theorem dX4_firstCoin_70 : decode cX4_firstCoin 70 = .ok (.iload_n 2, 1) := by decide +kernel
theorem dX4_firstCoin_71 : decode cX4_firstCoin 71 = .ok (.invokestatic 68, 3) := by decide +kernel
theorem dX4_firstCoin_74 : decode cX4_firstCoin 74 = .ok (.iconst 1, 1) := by decide +kernel
theorem dX4_firstCoin_75 : decode cX4_firstCoin 75 = .ok (.iadd, 1) := by decide +kernel
theorem dX4_firstCoin_76 : decode cX4_firstCoin 76 = .ok (.iaload, 1) := by decide +kernel
theorem dX4_firstCoin_77 : decode cX4_firstCoin 77 = .ok (.aload_n 0, 1) := by decide +kernel
theorem dX4_firstCoin_78 : decode cX4_firstCoin 78 = .ok (.getfield 9, 3) := by decide +kernel
theorem dX4_firstCoin_81 : decode cX4_firstCoin 81 = .ok (.iload_n 3, 1) := by decide +kernel
theorem dX4_firstCoin_82 : decode cX4_firstCoin 82 = .ok (.invokestatic 68, 3) := by decide +kernel
theorem dX4_firstCoin_85 : decode cX4_firstCoin 85 = .ok (.iconst 1, 1) := by decide +kernel
theorem dX4_firstCoin_86 : decode cX4_firstCoin 86 = .ok (.iadd, 1) := by decide +kernel
theorem dX4_firstCoin_87 : decode cX4_firstCoin 87 = .ok (.iaload, 1) := by decide +kernel
theorem dX4_firstCoin_88 : decode cX4_firstCoin 88 = .ok (.isub, 1) := by decide +kernel
theorem dX4_firstCoin_89 : decode cX4_firstCoin 89 = .ok (.goto 5, 3) := by decide +kernel
theorem dX4_firstCoin_92 : decode cX4_firstCoin 92 = .ok (.iload 4, 2) := by decide +kernel
theorem dX4_firstCoin_94 : decode cX4_firstCoin 94 = .ok (.istore 5, 2) := by decide +kernel
theorem dX4_firstCoin_96 : decode cX4_firstCoin 96 = .ok (.iload 5, 2) := by decide +kernel
theorem dX4_firstCoin_98 : decode cX4_firstCoin 98 = .ok (.ifCond .le 7, 3) := by decide +kernel
theorem dX4_firstCoin_101 : decode cX4_firstCoin 101 = .ok (.iload_n 3, 1) := by decide +kernel
theorem dX4_firstCoin_102 : decode cX4_firstCoin 102 = .ok (.goto 4, 3) := by decide +kernel
theorem dX4_firstCoin_105 : decode cX4_firstCoin 105 = .ok (.iload_n 2, 1) := by decide +kernel
theorem dX4_firstCoin_106 : decode cX4_firstCoin 106 = .ok (.istore_n 2, 1) := by decide +kernel
theorem dX4_firstCoin_107 : decode cX4_firstCoin 107 = .ok (.iinc 3 1, 3) := by decide +kernel
theorem dX4_firstCoin_110 : decode cX4_firstCoin 110 = .ok (.goto (-106), 3) := by decide +kernel
theorem dX4_firstCoin_113 : decode cX4_firstCoin 113 = .ok (.iload_n 2, 1) := by decide +kernel
theorem dX4_firstCoin_114 : decode cX4_firstCoin 114 = .ok (.ireturn, 1) := by decide +kernel
theorem dX4_payIt_0 : decode cX4_payIt 0 = .ok (.iload_n 1, 1) := by decide +kernel
theorem dX4_payIt_1 : decode cX4_payIt 1 = .ok (.i2l, 1) := by decide +kernel
theorem dX4_payIt_2 : decode cX4_payIt 2 = .ok (.lconst 1, 1) := by decide +kernel
theorem dX4_payIt_3 : decode cX4_payIt 3 = .ok (.ldc2_w 103, 3) := by decide +kernel
theorem dX4_payIt_6 : decode cX4_payIt 6 = .ok (.invokestatic 60, 3) := by decide +kernel
theorem dX4_payIt_9 : decode cX4_payIt 9 = .ok (.ifCond .ne 9, 3) := by decide +kernel
theorem dX4_payIt_12 : decode cX4_payIt 12 = .ok (.aload_n 0, 1) := by decide +kernel
theorem dX4_payIt_13 : decode cX4_payIt 13 = .ok (.iconst 1, 1) := by decide +kernel
theorem dX4_payIt_14 : decode cX4_payIt 14 = .ok (.invokevirtual 81, 3) := by decide +kernel
theorem dX4_payIt_17 : decode cX4_payIt 17 = .ok (.ireturn, 1) := by decide +kernel
theorem dX4_payIt_18 : decode cX4_payIt 18 = .ok (.aload_n 0, 1) := by decide +kernel
theorem dX4_payIt_19 : decode cX4_payIt 19 = .ok (.iload_n 1, 1) := by decide +kernel
theorem dX4_payIt_20 : decode cX4_payIt 20 = .ok (.invokevirtual 150, 3) := by decide +kernel
theorem dX4_payIt_23 : decode cX4_payIt 23 = .ok (.istore_n 2, 1) := by decide +kernel
theorem dX4_payIt_24 : decode cX4_payIt 24 = .ok (.iload_n 2, 1) := by decide +kernel
theorem dX4_payIt_25 : decode cX4_payIt 25 = .ok (.sipush 1000, 3) := by decide +kernel
theorem dX4_payIt_28 : decode cX4_payIt 28 = .ok (.if_icmp .ne 9, 3) := by decide +kernel
theorem dX4_payIt_31 : decode cX4_payIt 31 = .ok (.aload_n 0, 1) := by decide +kernel
theorem dX4_payIt_32 : decode cX4_payIt 32 = .ok (.iconst 2, 1) := by decide +kernel
theorem dX4_payIt_33 : decode cX4_payIt 33 = .ok (.invokevirtual 81, 3) := by decide +kernel
theorem dX4_payIt_36 : decode cX4_payIt 36 = .ok (.ireturn, 1) := by decide +kernel
theorem dX4_payIt_37 : decode cX4_payIt 37 = .ok (.iload_n 1, 1) := by decide +kernel
theorem dX4_payIt_38 : decode cX4_payIt 38 = .ok (.istore_n 3, 1) := by decide +kernel
theorem dX4_payIt_39 : decode cX4_payIt 39 = .ok (.iconst 0, 1) := by decide +kernel
theorem dX4_payIt_40 : decode cX4_payIt 40 = .ok (.istore 4, 2) := by decide +kernel
theorem dX4_payIt_42 : decode cX4_payIt 42 = .ok (.iload 4, 2) := by decide +kernel
theorem dX4_payIt_44 : decode cX4_payIt 44 = .ok (.aload_n 0, 1) := by decide +kernel
theorem dX4_payIt_45 : decode cX4_payIt 45 = .ok (.getfield 9, 3) := by decide +kernel
theorem dX4_payIt_48 : decode cX4_payIt 48 = .ok (.iconst 0, 1) := by decide +kernel
theorem dX4_payIt_49 : decode cX4_payIt 49 = .ok (.iaload, 1) := by decide +kernel
theorem dX4_payIt_50 : decode cX4_payIt 50 = .ok (.if_icmp .ge 49, 3) := by decide +kernel
theorem dX4_payIt_53 : decode cX4_payIt 53 = .ok (.aload_n 0, 1) := by decide +kernel
theorem dX4_payIt_54 : decode cX4_payIt 54 = .ok (.getfield 38, 3) := by decide +kernel
theorem dX4_payIt_57 : decode cX4_payIt 57 = .ok (.iload 4, 2) := by decide +kernel
theorem dX4_payIt_59 : decode cX4_payIt 59 = .ok (.aload_n 0, 1) := by decide +kernel
theorem dX4_payIt_60 : decode cX4_payIt 60 = .ok (.iload 4, 2) := by decide +kernel
theorem dX4_payIt_62 : decode cX4_payIt 62 = .ok (.iload_n 3, 1) := by decide +kernel
theorem dX4_payIt_63 : decode cX4_payIt 63 = .ok (.invokevirtual 153, 3) := by decide +kernel
theorem dX4_payIt_66 : decode cX4_payIt 66 = .ok (.iastore, 1) := by decide +kernel
theorem dX4_payIt_67 : decode cX4_payIt 67 = .ok (.iload_n 3, 1) := by decide +kernel
theorem dX4_payIt_68 : decode cX4_payIt 68 = .ok (.aload_n 0, 1) := by decide +kernel
theorem dX4_payIt_69 : decode cX4_payIt 69 = .ok (.getfield 38, 3) := by decide +kernel
theorem dX4_payIt_72 : decode cX4_payIt 72 = .ok (.iload 4, 2) := by decide +kernel
theorem dX4_payIt_74 : decode cX4_payIt 74 = .ok (.iaload, 1) := by decide +kernel
theorem dX4_payIt_75 : decode cX4_payIt 75 = .ok (.aload_n 0, 1) := by decide +kernel
theorem dX4_payIt_76 : decode cX4_payIt 76 = .ok (.getfield 9, 3) := by decide +kernel
theorem dX4_payIt_79 : decode cX4_payIt 79 = .ok (.aload_n 0, 1) := by decide +kernel
theorem dX4_payIt_80 : decode cX4_payIt 80 = .ok (.getfield 32, 3) := by decide +kernel
theorem dX4_payIt_83 : decode cX4_payIt 83 = .ok (.iload 4, 2) := by decide +kernel
theorem dX4_payIt_85 : decode cX4_payIt 85 = .ok (.iaload, 1) := by decide +kernel
theorem dX4_payIt_86 : decode cX4_payIt 86 = .ok (.invokestatic 64, 3) := by decide +kernel
theorem dX4_payIt_89 : decode cX4_payIt 89 = .ok (.iaload, 1) := by decide +kernel
theorem dX4_payIt_90 : decode cX4_payIt 90 = .ok (.imul, 1) := by decide +kernel
theorem dX4_payIt_91 : decode cX4_payIt 91 = .ok (.isub, 1) := by decide +kernel
theorem dX4_payIt_92 : decode cX4_payIt 92 = .ok (.istore_n 3, 1) := by decide +kernel
theorem dX4_payIt_93 : decode cX4_payIt 93 = .ok (.iinc 4 1, 3) := by decide +kernel
theorem dX4_payIt_96 : decode cX4_payIt 96 = .ok (.goto (-54), 3) := by decide +kernel
theorem dX4_payIt_99 : decode cX4_payIt 99 = .ok (.iconst 0, 1) := by decide +kernel
theorem dX4_payIt_100 : decode cX4_payIt 100 = .ok (.istore 4, 2) := by decide +kernel
theorem dX4_payIt_102 : decode cX4_payIt 102 = .ok (.iload 4, 2) := by decide +kernel
theorem dX4_payIt_104 : decode cX4_payIt 104 = .ok (.aload_n 0, 1) := by decide +kernel
theorem dX4_payIt_105 : decode cX4_payIt 105 = .ok (.getfield 9, 3) := by decide +kernel
theorem dX4_payIt_108 : decode cX4_payIt 108 = .ok (.iconst 0, 1) := by decide +kernel
theorem dX4_payIt_109 : decode cX4_payIt 109 = .ok (.iaload, 1) := by decide +kernel
theorem dX4_payIt_110 : decode cX4_payIt 110 = .ok (.if_icmp .ge 72, 3) := by decide +kernel
theorem dX4_payIt_113 : decode cX4_payIt 113 = .ok (.iconst 0, 1) := by decide +kernel
theorem dX4_payIt_114 : decode cX4_payIt 114 = .ok (.istore 5, 2) := by decide +kernel
theorem dX4_payIt_116 : decode cX4_payIt 116 = .ok (.iload 5, 2) := by decide +kernel
theorem dX4_payIt_118 : decode cX4_payIt 118 = .ok (.aload_n 0, 1) := by decide +kernel
theorem dX4_payIt_119 : decode cX4_payIt 119 = .ok (.getfield 38, 3) := by decide +kernel
theorem dX4_payIt_122 : decode cX4_payIt 122 = .ok (.iload 4, 2) := by decide +kernel
theorem dX4_payIt_124 : decode cX4_payIt 124 = .ok (.iaload, 1) := by decide +kernel
theorem dX4_payIt_125 : decode cX4_payIt 125 = .ok (.if_icmp .ge 51, 3) := by decide +kernel
theorem dX4_payIt_128 : decode cX4_payIt 128 = .ok (.aload_n 0, 1) := by decide +kernel
theorem dX4_payIt_129 : decode cX4_payIt 129 = .ok (.getfield 9, 3) := by decide +kernel
theorem dX4_payIt_132 : decode cX4_payIt 132 = .ok (.bipush 6, 2) := by decide +kernel
theorem dX4_payIt_134 : decode cX4_payIt 134 = .ok (.dup2, 1) := by decide +kernel
theorem dX4_payIt_135 : decode cX4_payIt 135 = .ok (.iaload, 1) := by decide +kernel
theorem dX4_payIt_136 : decode cX4_payIt 136 = .ok (.aload_n 0, 1) := by decide +kernel
theorem dX4_payIt_137 : decode cX4_payIt 137 = .ok (.getfield 9, 3) := by decide +kernel
theorem dX4_payIt_140 : decode cX4_payIt 140 = .ok (.aload_n 0, 1) := by decide +kernel
theorem dX4_payIt_141 : decode cX4_payIt 141 = .ok (.getfield 32, 3) := by decide +kernel
theorem dX4_payIt_144 : decode cX4_payIt 144 = .ok (.iload 4, 2) := by decide +kernel
theorem dX4_payIt_146 : decode cX4_payIt 146 = .ok (.iaload, 1) := by decide +kernel
theorem dX4_payIt_147 : decode cX4_payIt 147 = .ok (.invokestatic 64, 3) := by decide +kernel
theorem dX4_payIt_150 : decode cX4_payIt 150 = .ok (.iconst 1, 1) := by decide +kernel
theorem dX4_payIt_151 : decode cX4_payIt 151 = .ok (.iadd, 1) := by decide +kernel
theorem dX4_payIt_152 : decode cX4_payIt 152 = .ok (.iaload, 1) := by decide +kernel
theorem dX4_payIt_153 : decode cX4_payIt 153 = .ok (.iadd, 1) := by decide +kernel
theorem dX4_payIt_154 : decode cX4_payIt 154 = .ok (.iastore, 1) := by decide +kernel
theorem dX4_payIt_155 : decode cX4_payIt 155 = .ok (.aload_n 0, 1) := by decide +kernel
theorem dX4_payIt_156 : decode cX4_payIt 156 = .ok (.aload_n 0, 1) := by decide +kernel
theorem dX4_payIt_157 : decode cX4_payIt 157 = .ok (.aload_n 0, 1) := by decide +kernel
theorem dX4_payIt_158 : decode cX4_payIt 158 = .ok (.getfield 32, 3) := by decide +kernel
theorem dX4_payIt_161 : decode cX4_payIt 161 = .ok (.iload 4, 2) := by decide +kernel
theorem dX4_payIt_163 : decode cX4_payIt 163 = .ok (.iaload, 1) := by decide +kernel
theorem dX4_payIt_164 : decode cX4_payIt 164 = .ok (.invokevirtual 156, 3) := by decide +kernel
theorem dX4_payIt_167 : decode cX4_payIt 167 = .ok (.invokevirtual 131, 3) := by decide +kernel
theorem dX4_payIt_170 : decode cX4_payIt 170 = .ok (.iinc 5 1, 3) := by decide +kernel
theorem dX4_payIt_173 : decode cX4_payIt 173 = .ok (.goto (-57), 3) := by decide +kernel
theorem dX4_payIt_176 : decode cX4_payIt 176 = .ok (.iinc 4 1, 3) := by decide +kernel
theorem dX4_payIt_179 : decode cX4_payIt 179 = .ok (.goto (-77), 3) := by decide +kernel
theorem dX4_payIt_182 : decode cX4_payIt 182 = .ok (.aload_n 0, 1) := by decide +kernel
theorem dX4_payIt_183 : decode cX4_payIt 183 = .ok (.getfield 9, 3) := by decide +kernel
theorem dX4_payIt_186 : decode cX4_payIt 186 = .ok (.iconst 5, 1) := by decide +kernel
theorem dX4_payIt_187 : decode cX4_payIt 187 = .ok (.dup2, 1) := by decide +kernel
theorem dX4_payIt_188 : decode cX4_payIt 188 = .ok (.iaload, 1) := by decide +kernel
theorem dX4_payIt_189 : decode cX4_payIt 189 = .ok (.iload_n 1, 1) := by decide +kernel
theorem dX4_payIt_190 : decode cX4_payIt 190 = .ok (.iadd, 1) := by decide +kernel
theorem dX4_payIt_191 : decode cX4_payIt 191 = .ok (.iastore, 1) := by decide +kernel
theorem dX4_payIt_192 : decode cX4_payIt 192 = .ok (.iload_n 2, 1) := by decide +kernel
theorem dX4_payIt_193 : decode cX4_payIt 193 = .ok (.ireturn, 1) := by decide +kernel
theorem dX4_pay_0 : decode cX4_pay 0 = .ok (.aload_n 0, 1) := by decide +kernel
theorem dX4_pay_1 : decode cX4_pay 1 = .ok (.invokevirtual 87, 3) := by decide +kernel
theorem dX4_pay_4 : decode cX4_pay 4 = .ok (.aload_n 0, 1) := by decide +kernel
theorem dX4_pay_5 : decode cX4_pay 5 = .ok (.aload_n 0, 1) := by decide +kernel
theorem dX4_pay_6 : decode cX4_pay 6 = .ok (.iload_n 1, 1) := by decide +kernel
theorem dX4_pay_7 : decode cX4_pay 7 = .ok (.invokevirtual 159, 3) := by decide +kernel
theorem dX4_pay_10 : decode cX4_pay 10 = .ok (.invokevirtual 93, 3) := by decide +kernel
theorem dX4_pay_13 : decode cX4_pay 13 = .ok (.ireturn, 1) := by decide +kernel
theorem dX4_total_0 : decode cX4_total 0 = .ok (.aload_n 0, 1) := by decide +kernel
theorem dX4_total_1 : decode cX4_total 1 = .ok (.iconst 0, 1) := by decide +kernel
theorem dX4_total_2 : decode cX4_total 2 = .ok (.putfield 54, 3) := by decide +kernel
theorem dX4_total_5 : decode cX4_total 5 = .ok (.aload_n 0, 1) := by decide +kernel
theorem dX4_total_6 : decode cX4_total 6 = .ok (.getfield 9, 3) := by decide +kernel
theorem dX4_total_9 : decode cX4_total 9 = .ok (.iload_n 1, 1) := by decide +kernel
theorem dX4_total_10 : decode cX4_total 10 = .ok (.iaload, 1) := by decide +kernel
theorem dX4_total_11 : decode cX4_total 11 = .ok (.ireturn, 1) := by decide +kernel
theorem dX4_ofDie_0 : decode cX4_ofDie 0 = .ok (.aload_n 0, 1) := by decide +kernel
theorem dX4_ofDie_1 : decode cX4_ofDie 1 = .ok (.iconst 0, 1) := by decide +kernel
theorem dX4_ofDie_2 : decode cX4_ofDie 2 = .ok (.putfield 54, 3) := by decide +kernel
theorem dX4_ofDie_5 : decode cX4_ofDie 5 = .ok (.aload_n 0, 1) := by decide +kernel
theorem dX4_ofDie_6 : decode cX4_ofDie 6 = .ok (.iload_n 1, 1) := by decide +kernel
theorem dX4_ofDie_7 : decode cX4_ofDie 7 = .ok (.invokevirtual 96, 3) := by decide +kernel
theorem dX4_ofDie_10 : decode cX4_ofDie 10 = .ok (.ifCond .eq 17, 3) := by decide +kernel
theorem dX4_ofDie_13 : decode cX4_ofDie 13 = .ok (.aload_n 0, 1) := by decide +kernel
theorem dX4_ofDie_14 : decode cX4_ofDie 14 = .ok (.getfield 9, 3) := by decide +kernel
theorem dX4_ofDie_17 : decode cX4_ofDie 17 = .ok (.iload_n 1, 1) := by decide +kernel
theorem dX4_ofDie_18 : decode cX4_ofDie 18 = .ok (.invokestatic 64, 3) := by decide +kernel
theorem dX4_ofDie_21 : decode cX4_ofDie 21 = .ok (.iload_n 2, 1) := by decide +kernel
theorem dX4_ofDie_22 : decode cX4_ofDie 22 = .ok (.iadd, 1) := by decide +kernel
theorem dX4_ofDie_23 : decode cX4_ofDie 23 = .ok (.iaload, 1) := by decide +kernel
theorem dX4_ofDie_24 : decode cX4_ofDie 24 = .ok (.goto 8, 3) := by decide +kernel
theorem dX4_ofDie_27 : decode cX4_ofDie 27 = .ok (.aload_n 0, 1) := by decide +kernel
theorem dX4_ofDie_28 : decode cX4_ofDie 28 = .ok (.iconst 1, 1) := by decide +kernel
theorem dX4_ofDie_29 : decode cX4_ofDie 29 = .ok (.invokevirtual 81, 3) := by decide +kernel
theorem dX4_ofDie_32 : decode cX4_ofDie 32 = .ok (.ireturn, 1) := by decide +kernel
theorem dX4_dieCount_0 : decode cX4_dieCount 0 = .ok (.aload_n 0, 1) := by decide +kernel
theorem dX4_dieCount_1 : decode cX4_dieCount 1 = .ok (.iconst 0, 1) := by decide +kernel
theorem dX4_dieCount_2 : decode cX4_dieCount 2 = .ok (.invokevirtual 162, 3) := by decide +kernel
theorem dX4_dieCount_5 : decode cX4_dieCount 5 = .ok (.ireturn, 1) := by decide +kernel
theorem dX4_dieValue_0 : decode cX4_dieValue 0 = .ok (.aload_n 0, 1) := by decide +kernel
theorem dX4_dieValue_1 : decode cX4_dieValue 1 = .ok (.iload_n 1, 1) := by decide +kernel
theorem dX4_dieValue_2 : decode cX4_dieValue 2 = .ok (.iconst 0, 1) := by decide +kernel
theorem dX4_dieValue_3 : decode cX4_dieValue 3 = .ok (.invokevirtual 165, 3) := by decide +kernel
theorem dX4_dieValue_6 : decode cX4_dieValue 6 = .ok (.ireturn, 1) := by decide +kernel
theorem dX4_coinWeight_0 : decode cX4_coinWeight 0 = .ok (.aload_n 0, 1) := by decide +kernel
theorem dX4_coinWeight_1 : decode cX4_coinWeight 1 = .ok (.iload_n 1, 1) := by decide +kernel
theorem dX4_coinWeight_2 : decode cX4_coinWeight 2 = .ok (.iconst 1, 1) := by decide +kernel
theorem dX4_coinWeight_3 : decode cX4_coinWeight 3 = .ok (.invokevirtual 165, 3) := by decide +kernel
theorem dX4_coinWeight_6 : decode cX4_coinWeight 6 = .ok (.ireturn, 1) := by decide +kernel
theorem dX4_wear_0 : decode cX4_wear 0 = .ok (.aload_n 0, 1) := by decide +kernel
theorem dX4_wear_1 : decode cX4_wear 1 = .ok (.iload_n 1, 1) := by decide +kernel
theorem dX4_wear_2 : decode cX4_wear 2 = .ok (.iconst 2, 1) := by decide +kernel
theorem dX4_wear_3 : decode cX4_wear 3 = .ok (.invokevirtual 165, 3) := by decide +kernel
theorem dX4_wear_6 : decode cX4_wear 6 = .ok (.ireturn, 1) := by decide +kernel
theorem dX4_nextGrade_0 : decode cX4_nextGrade 0 = .ok (.aload_n 0, 1) := by decide +kernel
theorem dX4_nextGrade_1 : decode cX4_nextGrade 1 = .ok (.iconst 0, 1) := by decide +kernel
theorem dX4_nextGrade_2 : decode cX4_nextGrade 2 = .ok (.putfield 54, 3) := by decide +kernel
theorem dX4_nextGrade_5 : decode cX4_nextGrade 5 = .ok (.aload_n 0, 1) := by decide +kernel
theorem dX4_nextGrade_6 : decode cX4_nextGrade 6 = .ok (.iload_n 1, 1) := by decide +kernel
theorem dX4_nextGrade_7 : decode cX4_nextGrade 7 = .ok (.invokevirtual 96, 3) := by decide +kernel
theorem dX4_nextGrade_10 : decode cX4_nextGrade 10 = .ok (.ifCond .ne 10, 3) := by decide +kernel
theorem dX4_nextGrade_13 : decode cX4_nextGrade 13 = .ok (.aload_n 0, 1) := by decide +kernel
theorem dX4_nextGrade_14 : decode cX4_nextGrade 14 = .ok (.iconst 1, 1) := by decide +kernel
theorem dX4_nextGrade_15 : decode cX4_nextGrade 15 = .ok (.invokevirtual 81, 3) := by decide +kernel
theorem dX4_nextGrade_18 : decode cX4_nextGrade 18 = .ok (.i2c, 1) := by decide +kernel
theorem dX4_nextGrade_19 : decode cX4_nextGrade 19 = .ok (.ireturn, 1) := by decide +kernel
theorem dX4_nextGrade_20 : decode cX4_nextGrade 20 = .ok (.aload_n 0, 1) := by decide +kernel
theorem dX4_nextGrade_21 : decode cX4_nextGrade 21 = .ok (.getfield 9, 3) := by decide +kernel
theorem dX4_nextGrade_24 : decode cX4_nextGrade 24 = .ok (.iload_n 1, 1) := by decide +kernel
theorem dX4_nextGrade_25 : decode cX4_nextGrade 25 = .ok (.invokestatic 64, 3) := by decide +kernel
theorem dX4_nextGrade_28 : decode cX4_nextGrade 28 = .ok (.iconst 2, 1) := by decide +kernel
theorem dX4_nextGrade_29 : decode cX4_nextGrade 29 = .ok (.iadd, 1) := by decide +kernel
theorem dX4_nextGrade_30 : decode cX4_nextGrade 30 = .ok (.iaload, 1) := by decide +kernel
theorem dX4_nextGrade_31 : decode cX4_nextGrade 31 = .ok (.istore_n 2, 1) := by decide +kernel
theorem dX4_nextGrade_32 : decode cX4_nextGrade 32 = .ok (.iload_n 2, 1) := by decide +kernel
theorem dX4_nextGrade_33 : decode cX4_nextGrade 33 = .ok (.bipush 30, 2) := by decide +kernel
theorem dX4_nextGrade_35 : decode cX4_nextGrade 35 = .ok (.if_icmp .ne 12, 3) := by decide +kernel
theorem dX4_nextGrade_38 : decode cX4_nextGrade 38 = .ok (.aload_n 0, 1) := by decide +kernel
theorem dX4_nextGrade_39 : decode cX4_nextGrade 39 = .ok (.iconst 2, 1) := by decide +kernel
theorem dX4_nextGrade_40 : decode cX4_nextGrade 40 = .ok (.invokevirtual 81, 3) := by decide +kernel
theorem dX4_nextGrade_43 : decode cX4_nextGrade 43 = .ok (.i2c, 1) := by decide +kernel
theorem dX4_nextGrade_44 : decode cX4_nextGrade 44 = .ok (.goto 11, 3) := by decide +kernel
theorem dX4_nextGrade_47 : decode cX4_nextGrade 47 = .ok (.bipush 65, 2) := by decide +kernel
theorem dX4_nextGrade_49 : decode cX4_nextGrade 49 = .ok (.iload_n 2, 1) := by decide +kernel
theorem dX4_nextGrade_50 : decode cX4_nextGrade 50 = .ok (.invokestatic 108, 3) := by decide +kernel
theorem dX4_nextGrade_53 : decode cX4_nextGrade 53 = .ok (.iadd, 1) := by decide +kernel
theorem dX4_nextGrade_54 : decode cX4_nextGrade 54 = .ok (.i2c, 1) := by decide +kernel
theorem dX4_nextGrade_55 : decode cX4_nextGrade 55 = .ok (.ireturn, 1) := by decide +kernel
theorem dX4_dieByWear_0 : decode cX4_dieByWear 0 = .ok (.aload_n 0, 1) := by decide +kernel
theorem dX4_dieByWear_1 : decode cX4_dieByWear 1 = .ok (.iconst 0, 1) := by decide +kernel
theorem dX4_dieByWear_2 : decode cX4_dieByWear 2 = .ok (.putfield 54, 3) := by decide +kernel
theorem dX4_dieByWear_5 : decode cX4_dieByWear 5 = .ok (.iconst 0, 1) := by decide +kernel
theorem dX4_dieByWear_6 : decode cX4_dieByWear 6 = .ok (.istore_n 2, 1) := by decide +kernel
theorem dX4_dieByWear_7 : decode cX4_dieByWear 7 = .ok (.iload_n 2, 1) := by decide +kernel
theorem dX4_dieByWear_8 : decode cX4_dieByWear 8 = .ok (.aload_n 0, 1) := by decide +kernel
theorem dX4_dieByWear_9 : decode cX4_dieByWear 9 = .ok (.getfield 9, 3) := by decide +kernel
theorem dX4_dieByWear_12 : decode cX4_dieByWear 12 = .ok (.iconst 0, 1) := by decide +kernel
theorem dX4_dieByWear_13 : decode cX4_dieByWear 13 = .ok (.iaload, 1) := by decide +kernel
theorem dX4_dieByWear_14 : decode cX4_dieByWear 14 = .ok (.if_icmp .ge 104, 3) := by decide +kernel
theorem dX4_dieByWear_17 : decode cX4_dieByWear 17 = .ok (.iconst 0, 1) := by decide +kernel
theorem dX4_dieByWear_18 : decode cX4_dieByWear 18 = .ok (.istore_n 3, 1) := by decide +kernel
theorem dX4_dieByWear_19 : decode cX4_dieByWear 19 = .ok (.iconst 0, 1) := by decide +kernel
theorem dX4_dieByWear_20 : decode cX4_dieByWear 20 = .ok (.istore 4, 2) := by decide +kernel
theorem dX4_dieByWear_22 : decode cX4_dieByWear 22 = .ok (.iload 4, 2) := by decide +kernel
theorem dX4_dieByWear_24 : decode cX4_dieByWear 24 = .ok (.aload_n 0, 1) := by decide +kernel
theorem dX4_dieByWear_25 : decode cX4_dieByWear 25 = .ok (.getfield 9, 3) := by decide +kernel
theorem dX4_dieByWear_28 : decode cX4_dieByWear 28 = .ok (.iconst 0, 1) := by decide +kernel
theorem dX4_dieByWear_29 : decode cX4_dieByWear 29 = .ok (.iaload, 1) := by decide +kernel
theorem dX4_dieByWear_30 : decode cX4_dieByWear 30 = .ok (.if_icmp .ge 75, 3) := by decide +kernel
theorem dX4_dieByWear_33 : decode cX4_dieByWear 33 = .ok (.aload_n 0, 1) := by decide +kernel
theorem dX4_dieByWear_34 : decode cX4_dieByWear 34 = .ok (.getfield 9, 3) := by decide +kernel
theorem dX4_dieByWear_37 : decode cX4_dieByWear 37 = .ok (.iload 4, 2) := by decide +kernel
theorem dX4_dieByWear_39 : decode cX4_dieByWear 39 = .ok (.invokestatic 64, 3) := by decide +kernel
theorem dX4_dieByWear_42 : decode cX4_dieByWear 42 = .ok (.iconst 2, 1) := by decide +kernel
theorem dX4_dieByWear_43 : decode cX4_dieByWear 43 = .ok (.iadd, 1) := by decide +kernel
theorem dX4_dieByWear_44 : decode cX4_dieByWear 44 = .ok (.iaload, 1) := by decide +kernel
theorem dX4_dieByWear_45 : decode cX4_dieByWear 45 = .ok (.aload_n 0, 1) := by decide +kernel
theorem dX4_dieByWear_46 : decode cX4_dieByWear 46 = .ok (.getfield 9, 3) := by decide +kernel
theorem dX4_dieByWear_49 : decode cX4_dieByWear 49 = .ok (.iload_n 2, 1) := by decide +kernel
theorem dX4_dieByWear_50 : decode cX4_dieByWear 50 = .ok (.invokestatic 64, 3) := by decide +kernel
theorem dX4_dieByWear_53 : decode cX4_dieByWear 53 = .ok (.iconst 2, 1) := by decide +kernel
theorem dX4_dieByWear_54 : decode cX4_dieByWear 54 = .ok (.iadd, 1) := by decide +kernel
theorem dX4_dieByWear_55 : decode cX4_dieByWear 55 = .ok (.iaload, 1) := by decide +kernel
theorem dX4_dieByWear_56 : decode cX4_dieByWear 56 = .ok (.isub, 1) := by decide +kernel
theorem dX4_dieByWear_57 : decode cX4_dieByWear 57 = .ok (.istore 5, 2) := by decide +kernel
theorem dX4_dieByWear_59 : decode cX4_dieByWear 59 = .ok (.iload_n 3, 1) := by decide +kernel
theorem dX4_dieByWear_60 : decode cX4_dieByWear 60 = .ok (.iload 5, 2) := by decide +kernel
theorem dX4_dieByWear_62 : decode cX4_dieByWear 62 = .ok (.ifCond .gt 30, 3) := by decide +kernel
theorem dX4_dieByWear_65 : decode cX4_dieByWear 65 = .ok (.iload 5, 2) := by decide +kernel
theorem dX4_dieByWear_67 : decode cX4_dieByWear 67 = .ok (.ifCond .ne 29, 3) := by decide +kernel
theorem dX4_dieByWear_70 : decode cX4_dieByWear 70 = .ok (.aload_n 0, 1) := by decide +kernel
theorem dX4_dieByWear_71 : decode cX4_dieByWear 71 = .ok (.getfield 9, 3) := by decide +kernel
theorem dX4_dieByWear_74 : decode cX4_dieByWear 74 = .ok (.iload 4, 2) := by decide +kernel
theorem dX4_dieByWear_76 : decode cX4_dieByWear 76 = .ok (.invokestatic 64, 3) := by decide +kernel
theorem dX4_dieByWear_79 : decode cX4_dieByWear 79 = .ok (.iaload, 1) := by decide +kernel
theorem dX4_dieByWear_80 : decode cX4_dieByWear 80 = .ok (.aload_n 0, 1) := by decide +kernel
theorem dX4_dieByWear_81 : decode cX4_dieByWear 81 = .ok (.getfield 9, 3) := by decide +kernel
theorem dX4_dieByWear_84 : decode cX4_dieByWear 84 = .ok (.iload_n 2, 1) := by decide +kernel
theorem dX4_dieByWear_85 : decode cX4_dieByWear 85 = .ok (.invokestatic 64, 3) := by decide +kernel
theorem dX4_dieByWear_88 : decode cX4_dieByWear 88 = .ok (.iaload, 1) := by decide +kernel
theorem dX4_dieByWear_89 : decode cX4_dieByWear 89 = .ok (.if_icmp .le 7, 3) := by decide +kernel
theorem dX4_dieByWear_92 : decode cX4_dieByWear 92 = .ok (.iconst 1, 1) := by decide +kernel
theorem dX4_dieByWear_93 : decode cX4_dieByWear 93 = .ok (.goto 4, 3) := by decide +kernel
theorem dX4_dieByWear_96 : decode cX4_dieByWear 96 = .ok (.iconst 0, 1) := by decide +kernel
theorem dX4_dieByWear_97 : decode cX4_dieByWear 97 = .ok (.iadd, 1) := by decide +kernel
theorem dX4_dieByWear_98 : decode cX4_dieByWear 98 = .ok (.istore_n 3, 1) := by decide +kernel
theorem dX4_dieByWear_99 : decode cX4_dieByWear 99 = .ok (.iinc 4 1, 3) := by decide +kernel
theorem dX4_dieByWear_102 : decode cX4_dieByWear 102 = .ok (.goto (-80), 3) := by decide +kernel
theorem dX4_dieByWear_105 : decode cX4_dieByWear 105 = .ok (.iload_n 3, 1) := by decide +kernel
theorem dX4_dieByWear_106 : decode cX4_dieByWear 106 = .ok (.iload_n 1, 1) := by decide +kernel
theorem dX4_dieByWear_107 : decode cX4_dieByWear 107 = .ok (.if_icmp .ne 5, 3) := by decide +kernel
theorem dX4_dieByWear_110 : decode cX4_dieByWear 110 = .ok (.iload_n 2, 1) := by decide +kernel
theorem dX4_dieByWear_111 : decode cX4_dieByWear 111 = .ok (.ireturn, 1) := by decide +kernel
theorem dX4_dieByWear_112 : decode cX4_dieByWear 112 = .ok (.iinc 2 1, 3) := by decide +kernel
theorem dX4_dieByWear_115 : decode cX4_dieByWear 115 = .ok (.goto (-108), 3) := by decide +kernel
theorem dX4_dieByWear_118 : decode cX4_dieByWear 118 = .ok (.aload_n 0, 1) := by decide +kernel
theorem dX4_dieByWear_119 : decode cX4_dieByWear 119 = .ok (.iconst 1, 1) := by decide +kernel
theorem dX4_dieByWear_120 : decode cX4_dieByWear 120 = .ok (.invokevirtual 81, 3) := by decide +kernel
theorem dX4_dieByWear_123 : decode cX4_dieByWear 123 = .ok (.ireturn, 1) := by decide +kernel
theorem dX4_leaves_0 : decode cX4_leaves 0 = .ok (.aload_n 0, 1) := by decide +kernel
theorem dX4_leaves_1 : decode cX4_leaves 1 = .ok (.iconst 1, 1) := by decide +kernel
theorem dX4_leaves_2 : decode cX4_leaves 2 = .ok (.invokevirtual 162, 3) := by decide +kernel
theorem dX4_leaves_5 : decode cX4_leaves 5 = .ok (.ireturn, 1) := by decide +kernel
theorem dX4_year_0 : decode cX4_year 0 = .ok (.aload_n 0, 1) := by decide +kernel
theorem dX4_year_1 : decode cX4_year 1 = .ok (.iconst 2, 1) := by decide +kernel
theorem dX4_year_2 : decode cX4_year 2 = .ok (.invokevirtual 162, 3) := by decide +kernel
theorem dX4_year_5 : decode cX4_year 5 = .ok (.ireturn, 1) := by decide +kernel
theorem dX4_vaultCoins_0 : decode cX4_vaultCoins 0 = .ok (.aload_n 0, 1) := by decide +kernel
theorem dX4_vaultCoins_1 : decode cX4_vaultCoins 1 = .ok (.iconst 3, 1) := by decide +kernel
theorem dX4_vaultCoins_2 : decode cX4_vaultCoins 2 = .ok (.invokevirtual 162, 3) := by decide +kernel
theorem dX4_vaultCoins_5 : decode cX4_vaultCoins 5 = .ok (.ireturn, 1) := by decide +kernel
theorem dX4_vaultValue_0 : decode cX4_vaultValue 0 = .ok (.aload_n 0, 1) := by decide +kernel
theorem dX4_vaultValue_1 : decode cX4_vaultValue 1 = .ok (.iconst 0, 1) := by decide +kernel
theorem dX4_vaultValue_2 : decode cX4_vaultValue 2 = .ok (.putfield 54, 3) := by decide +kernel
theorem dX4_vaultValue_5 : decode cX4_vaultValue 5 = .ok (.iconst 0, 1) := by decide +kernel
theorem dX4_vaultValue_6 : decode cX4_vaultValue 6 = .ok (.istore_n 1, 1) := by decide +kernel
theorem dX4_vaultValue_7 : decode cX4_vaultValue 7 = .ok (.iconst 0, 1) := by decide +kernel
theorem dX4_vaultValue_8 : decode cX4_vaultValue 8 = .ok (.istore_n 2, 1) := by decide +kernel
theorem dX4_vaultValue_9 : decode cX4_vaultValue 9 = .ok (.iload_n 2, 1) := by decide +kernel
theorem dX4_vaultValue_10 : decode cX4_vaultValue 10 = .ok (.aload_n 0, 1) := by decide +kernel
theorem dX4_vaultValue_11 : decode cX4_vaultValue 11 = .ok (.getfield 9, 3) := by decide +kernel
theorem dX4_vaultValue_14 : decode cX4_vaultValue 14 = .ok (.iconst 3, 1) := by decide +kernel
theorem dX4_vaultValue_15 : decode cX4_vaultValue 15 = .ok (.iaload, 1) := by decide +kernel
theorem dX4_vaultValue_16 : decode cX4_vaultValue 16 = .ok (.if_icmp .ge 17, 3) := by decide +kernel
theorem dX4_vaultValue_19 : decode cX4_vaultValue 19 = .ok (.iload_n 1, 1) := by decide +kernel
theorem dX4_vaultValue_20 : decode cX4_vaultValue 20 = .ok (.aload_n 0, 1) := by decide +kernel
theorem dX4_vaultValue_21 : decode cX4_vaultValue 21 = .ok (.iload_n 2, 1) := by decide +kernel
theorem dX4_vaultValue_22 : decode cX4_vaultValue 22 = .ok (.invokevirtual 168, 3) := by decide +kernel
theorem dX4_vaultValue_25 : decode cX4_vaultValue 25 = .ok (.iadd, 1) := by decide +kernel
theorem dX4_vaultValue_26 : decode cX4_vaultValue 26 = .ok (.istore_n 1, 1) := by decide +kernel
theorem dX4_vaultValue_27 : decode cX4_vaultValue 27 = .ok (.iinc 2 1, 3) := by decide +kernel
theorem dX4_vaultValue_30 : decode cX4_vaultValue 30 = .ok (.goto (-21), 3) := by decide +kernel
theorem dX4_vaultValue_33 : decode cX4_vaultValue 33 = .ok (.iload_n 1, 1) := by decide +kernel
theorem dX4_vaultValue_34 : decode cX4_vaultValue 34 = .ok (.ireturn, 1) := by decide +kernel
theorem dX4_vaultValueByDies_0 : decode cX4_vaultValueByDies 0 = .ok (.aload_n 0, 1) := by decide +kernel
theorem dX4_vaultValueByDies_1 : decode cX4_vaultValueByDies 1 = .ok (.invokevirtual 171, 3) := by decide +kernel
theorem dX4_vaultValueByDies_4 : decode cX4_vaultValueByDies 4 = .ok (.ireturn, 1) := by decide +kernel
theorem dX4_vaultWeight_0 : decode cX4_vaultWeight 0 = .ok (.aload_n 0, 1) := by decide +kernel
theorem dX4_vaultWeight_1 : decode cX4_vaultWeight 1 = .ok (.iconst 0, 1) := by decide +kernel
theorem dX4_vaultWeight_2 : decode cX4_vaultWeight 2 = .ok (.putfield 54, 3) := by decide +kernel
theorem dX4_vaultWeight_5 : decode cX4_vaultWeight 5 = .ok (.iconst 0, 1) := by decide +kernel
theorem dX4_vaultWeight_6 : decode cX4_vaultWeight 6 = .ok (.istore_n 1, 1) := by decide +kernel
theorem dX4_vaultWeight_7 : decode cX4_vaultWeight 7 = .ok (.iconst 0, 1) := by decide +kernel
theorem dX4_vaultWeight_8 : decode cX4_vaultWeight 8 = .ok (.istore_n 2, 1) := by decide +kernel
theorem dX4_vaultWeight_9 : decode cX4_vaultWeight 9 = .ok (.iload_n 2, 1) := by decide +kernel
theorem dX4_vaultWeight_10 : decode cX4_vaultWeight 10 = .ok (.aload_n 0, 1) := by decide +kernel
theorem dX4_vaultWeight_11 : decode cX4_vaultWeight 11 = .ok (.getfield 9, 3) := by decide +kernel
theorem dX4_vaultWeight_14 : decode cX4_vaultWeight 14 = .ok (.iconst 3, 1) := by decide +kernel
theorem dX4_vaultWeight_15 : decode cX4_vaultWeight 15 = .ok (.iaload, 1) := by decide +kernel
theorem dX4_vaultWeight_16 : decode cX4_vaultWeight 16 = .ok (.if_icmp .ge 17, 3) := by decide +kernel
theorem dX4_vaultWeight_19 : decode cX4_vaultWeight 19 = .ok (.iload_n 1, 1) := by decide +kernel
theorem dX4_vaultWeight_20 : decode cX4_vaultWeight 20 = .ok (.aload_n 0, 1) := by decide +kernel
theorem dX4_vaultWeight_21 : decode cX4_vaultWeight 21 = .ok (.iload_n 2, 1) := by decide +kernel
theorem dX4_vaultWeight_22 : decode cX4_vaultWeight 22 = .ok (.invokevirtual 119, 3) := by decide +kernel
theorem dX4_vaultWeight_25 : decode cX4_vaultWeight 25 = .ok (.iadd, 1) := by decide +kernel
theorem dX4_vaultWeight_26 : decode cX4_vaultWeight 26 = .ok (.istore_n 1, 1) := by decide +kernel
theorem dX4_vaultWeight_27 : decode cX4_vaultWeight 27 = .ok (.iinc 2 1, 3) := by decide +kernel
theorem dX4_vaultWeight_30 : decode cX4_vaultWeight 30 = .ok (.goto (-21), 3) := by decide +kernel
theorem dX4_vaultWeight_33 : decode cX4_vaultWeight 33 = .ok (.iload_n 1, 1) := by decide +kernel
theorem dX4_vaultWeight_34 : decode cX4_vaultWeight 34 = .ok (.ireturn, 1) := by decide +kernel
theorem dX4_coinsOfValue_0 : decode cX4_coinsOfValue 0 = .ok (.aload_n 0, 1) := by decide +kernel
theorem dX4_coinsOfValue_1 : decode cX4_coinsOfValue 1 = .ok (.iconst 0, 1) := by decide +kernel
theorem dX4_coinsOfValue_2 : decode cX4_coinsOfValue 2 = .ok (.putfield 54, 3) := by decide +kernel
theorem dX4_coinsOfValue_5 : decode cX4_coinsOfValue 5 = .ok (.aload_n 0, 1) := by decide +kernel
theorem dX4_coinsOfValue_6 : decode cX4_coinsOfValue 6 = .ok (.iload_n 1, 1) := by decide +kernel
theorem dX4_coinsOfValue_7 : decode cX4_coinsOfValue 7 = .ok (.invokevirtual 84, 3) := by decide +kernel
theorem dX4_coinsOfValue_10 : decode cX4_coinsOfValue 10 = .ok (.istore_n 2, 1) := by decide +kernel
theorem dX4_coinsOfValue_11 : decode cX4_coinsOfValue 11 = .ok (.iload_n 2, 1) := by decide +kernel
theorem dX4_coinsOfValue_12 : decode cX4_coinsOfValue 12 = .ok (.iconst (-1), 1) := by decide +kernel
theorem dX4_coinsOfValue_13 : decode cX4_coinsOfValue 13 = .ok (.if_icmp .ne 11, 3) := by decide +kernel
theorem dX4_coinsOfValue_16 : decode cX4_coinsOfValue 16 = .ok (.aload_n 0, 1) := by decide +kernel
theorem dX4_coinsOfValue_17 : decode cX4_coinsOfValue 17 = .ok (.iconst 1, 1) := by decide +kernel
theorem dX4_coinsOfValue_18 : decode cX4_coinsOfValue 18 = .ok (.invokevirtual 81, 3) := by decide +kernel
theorem dX4_coinsOfValue_21 : decode cX4_coinsOfValue 21 = .ok (.goto 8, 3) := by decide +kernel
theorem dX4_coinsOfValue_24 : decode cX4_coinsOfValue 24 = .ok (.aload_n 0, 1) := by decide +kernel
theorem dX4_coinsOfValue_25 : decode cX4_coinsOfValue 25 = .ok (.iload_n 2, 1) := by decide +kernel
theorem dX4_coinsOfValue_26 : decode cX4_coinsOfValue 26 = .ok (.invokevirtual 144, 3) := by decide +kernel
theorem dX4_coinsOfValue_29 : decode cX4_coinsOfValue 29 = .ok (.ireturn, 1) := by decide +kernel
theorem dX4_coinsOfYear_0 : decode cX4_coinsOfYear 0 = .ok (.aload_n 0, 1) := by decide +kernel
theorem dX4_coinsOfYear_1 : decode cX4_coinsOfYear 1 = .ok (.iconst 0, 1) := by decide +kernel
theorem dX4_coinsOfYear_2 : decode cX4_coinsOfYear 2 = .ok (.putfield 54, 3) := by decide +kernel
theorem dX4_coinsOfYear_5 : decode cX4_coinsOfYear 5 = .ok (.aload_n 0, 1) := by decide +kernel
theorem dX4_coinsOfYear_6 : decode cX4_coinsOfYear 6 = .ok (.iload_n 1, 1) := by decide +kernel
theorem dX4_coinsOfYear_7 : decode cX4_coinsOfYear 7 = .ok (.invokevirtual 125, 3) := by decide +kernel
theorem dX4_coinsOfYear_10 : decode cX4_coinsOfYear 10 = .ok (.ireturn, 1) := by decide +kernel
theorem dX4_manyOfGrade_0 : decode cX4_manyOfGrade 0 = .ok (.iconst 0, 1) := by decide +kernel
theorem dX4_manyOfGrade_1 : decode cX4_manyOfGrade 1 = .ok (.istore_n 2, 1) := by decide +kernel
theorem dX4_manyOfGrade_2 : decode cX4_manyOfGrade 2 = .ok (.iconst 0, 1) := by decide +kernel
theorem dX4_manyOfGrade_3 : decode cX4_manyOfGrade 3 = .ok (.istore_n 3, 1) := by decide +kernel
theorem dX4_manyOfGrade_4 : decode cX4_manyOfGrade 4 = .ok (.iload_n 3, 1) := by decide +kernel
theorem dX4_manyOfGrade_5 : decode cX4_manyOfGrade 5 = .ok (.aload_n 0, 1) := by decide +kernel
theorem dX4_manyOfGrade_6 : decode cX4_manyOfGrade 6 = .ok (.getfield 9, 3) := by decide +kernel
theorem dX4_manyOfGrade_9 : decode cX4_manyOfGrade 9 = .ok (.iconst 3, 1) := by decide +kernel
theorem dX4_manyOfGrade_10 : decode cX4_manyOfGrade 10 = .ok (.iaload, 1) := by decide +kernel
theorem dX4_manyOfGrade_11 : decode cX4_manyOfGrade 11 = .ok (.if_icmp .ge 35, 3) := by decide +kernel
theorem dX4_manyOfGrade_14 : decode cX4_manyOfGrade 14 = .ok (.iload_n 2, 1) := by decide +kernel
theorem dX4_manyOfGrade_15 : decode cX4_manyOfGrade 15 = .ok (.aload_n 0, 1) := by decide +kernel
theorem dX4_manyOfGrade_16 : decode cX4_manyOfGrade 16 = .ok (.getfield 9, 3) := by decide +kernel
theorem dX4_manyOfGrade_19 : decode cX4_manyOfGrade 19 = .ok (.iload_n 3, 1) := by decide +kernel
theorem dX4_manyOfGrade_20 : decode cX4_manyOfGrade 20 = .ok (.invokestatic 68, 3) := by decide +kernel
theorem dX4_manyOfGrade_23 : decode cX4_manyOfGrade 23 = .ok (.iconst 2, 1) := by decide +kernel
theorem dX4_manyOfGrade_24 : decode cX4_manyOfGrade 24 = .ok (.iadd, 1) := by decide +kernel
theorem dX4_manyOfGrade_25 : decode cX4_manyOfGrade 25 = .ok (.iaload, 1) := by decide +kernel
theorem dX4_manyOfGrade_26 : decode cX4_manyOfGrade 26 = .ok (.iload_n 1, 1) := by decide +kernel
theorem dX4_manyOfGrade_27 : decode cX4_manyOfGrade 27 = .ok (.bipush 65, 2) := by decide +kernel
theorem dX4_manyOfGrade_29 : decode cX4_manyOfGrade 29 = .ok (.isub, 1) := by decide +kernel
theorem dX4_manyOfGrade_30 : decode cX4_manyOfGrade 30 = .ok (.if_icmp .ne 7, 3) := by decide +kernel
theorem dX4_manyOfGrade_33 : decode cX4_manyOfGrade 33 = .ok (.iconst 1, 1) := by decide +kernel
theorem dX4_manyOfGrade_34 : decode cX4_manyOfGrade 34 = .ok (.goto 4, 3) := by decide +kernel
theorem dX4_manyOfGrade_37 : decode cX4_manyOfGrade 37 = .ok (.iconst 0, 1) := by decide +kernel
theorem dX4_manyOfGrade_38 : decode cX4_manyOfGrade 38 = .ok (.iadd, 1) := by decide +kernel
theorem dX4_manyOfGrade_39 : decode cX4_manyOfGrade 39 = .ok (.istore_n 2, 1) := by decide +kernel
theorem dX4_manyOfGrade_40 : decode cX4_manyOfGrade 40 = .ok (.iinc 3 1, 3) := by decide +kernel
theorem dX4_manyOfGrade_43 : decode cX4_manyOfGrade 43 = .ok (.goto (-39), 3) := by decide +kernel
theorem dX4_manyOfGrade_46 : decode cX4_manyOfGrade 46 = .ok (.iload_n 2, 1) := by decide +kernel
theorem dX4_manyOfGrade_47 : decode cX4_manyOfGrade 47 = .ok (.ireturn, 1) := by decide +kernel
theorem dX4_coinsOfGrade_0 : decode cX4_coinsOfGrade 0 = .ok (.aload_n 0, 1) := by decide +kernel
theorem dX4_coinsOfGrade_1 : decode cX4_coinsOfGrade 1 = .ok (.iconst 0, 1) := by decide +kernel
theorem dX4_coinsOfGrade_2 : decode cX4_coinsOfGrade 2 = .ok (.putfield 54, 3) := by decide +kernel
theorem dX4_coinsOfGrade_5 : decode cX4_coinsOfGrade 5 = .ok (.iload_n 1, 1) := by decide +kernel
theorem dX4_coinsOfGrade_6 : decode cX4_coinsOfGrade 6 = .ok (.i2l, 1) := by decide +kernel
theorem dX4_coinsOfGrade_7 : decode cX4_coinsOfGrade 7 = .ok (.ldc2_w 175, 3) := by decide +kernel
theorem dX4_coinsOfGrade_10 : decode cX4_coinsOfGrade 10 = .ok (.ldc2_w 177, 3) := by decide +kernel
theorem dX4_coinsOfGrade_13 : decode cX4_coinsOfGrade 13 = .ok (.invokestatic 60, 3) := by decide +kernel
theorem dX4_coinsOfGrade_16 : decode cX4_coinsOfGrade 16 = .ok (.ifCond .eq 11, 3) := by decide +kernel
theorem dX4_coinsOfGrade_19 : decode cX4_coinsOfGrade 19 = .ok (.aload_n 0, 1) := by decide +kernel
theorem dX4_coinsOfGrade_20 : decode cX4_coinsOfGrade 20 = .ok (.iload_n 1, 1) := by decide +kernel
theorem dX4_coinsOfGrade_21 : decode cX4_coinsOfGrade 21 = .ok (.invokevirtual 179, 3) := by decide +kernel
theorem dX4_coinsOfGrade_24 : decode cX4_coinsOfGrade 24 = .ok (.goto 8, 3) := by decide +kernel
theorem dX4_coinsOfGrade_27 : decode cX4_coinsOfGrade 27 = .ok (.aload_n 0, 1) := by decide +kernel
theorem dX4_coinsOfGrade_28 : decode cX4_coinsOfGrade 28 = .ok (.iconst 1, 1) := by decide +kernel
theorem dX4_coinsOfGrade_29 : decode cX4_coinsOfGrade 29 = .ok (.invokevirtual 81, 3) := by decide +kernel
theorem dX4_coinsOfGrade_32 : decode cX4_coinsOfGrade 32 = .ok (.ireturn, 1) := by decide +kernel
theorem dX4_kinds_0 : decode cX4_kinds 0 = .ok (.aload_n 0, 1) := by decide +kernel
theorem dX4_kinds_1 : decode cX4_kinds 1 = .ok (.iconst 0, 1) := by decide +kernel
theorem dX4_kinds_2 : decode cX4_kinds 2 = .ok (.putfield 54, 3) := by decide +kernel
theorem dX4_kinds_5 : decode cX4_kinds 5 = .ok (.iconst 0, 1) := by decide +kernel
theorem dX4_kinds_6 : decode cX4_kinds 6 = .ok (.istore_n 1, 1) := by decide +kernel
theorem dX4_kinds_7 : decode cX4_kinds 7 = .ok (.iconst 0, 1) := by decide +kernel
theorem dX4_kinds_8 : decode cX4_kinds 8 = .ok (.istore_n 2, 1) := by decide +kernel
theorem dX4_kinds_9 : decode cX4_kinds 9 = .ok (.iload_n 2, 1) := by decide +kernel
theorem dX4_kinds_10 : decode cX4_kinds 10 = .ok (.aload_n 0, 1) := by decide +kernel
theorem dX4_kinds_11 : decode cX4_kinds 11 = .ok (.getfield 9, 3) := by decide +kernel
theorem dX4_kinds_14 : decode cX4_kinds 14 = .ok (.iconst 3, 1) := by decide +kernel
theorem dX4_kinds_15 : decode cX4_kinds 15 = .ok (.iaload, 1) := by decide +kernel
theorem dX4_kinds_16 : decode cX4_kinds 16 = .ok (.if_icmp .ge 120, 3) := by decide +kernel
theorem dX4_kinds_19 : decode cX4_kinds 19 = .ok (.iconst 1, 1) := by decide +kernel
theorem dX4_kinds_20 : decode cX4_kinds 20 = .ok (.istore_n 3, 1) := by decide +kernel
theorem dX4_kinds_21 : decode cX4_kinds 21 = .ok (.iconst 0, 1) := by decide +kernel
theorem dX4_kinds_22 : decode cX4_kinds 22 = .ok (.istore 4, 2) := by decide +kernel
theorem dX4_kinds_24 : decode cX4_kinds 24 = .ok (.iload 4, 2) := by decide +kernel
theorem dX4_kinds_26 : decode cX4_kinds 26 = .ok (.iload_n 2, 1) := by decide +kernel
theorem dX4_kinds_27 : decode cX4_kinds 27 = .ok (.if_icmp .ge 91, 3) := by decide +kernel
theorem dX4_kinds_30 : decode cX4_kinds 30 = .ok (.iload 4, 2) := by decide +kernel
theorem dX4_kinds_32 : decode cX4_kinds 32 = .ok (.invokestatic 68, 3) := by decide +kernel
theorem dX4_kinds_35 : decode cX4_kinds 35 = .ok (.istore 5, 2) := by decide +kernel
theorem dX4_kinds_37 : decode cX4_kinds 37 = .ok (.iload_n 2, 1) := by decide +kernel
theorem dX4_kinds_38 : decode cX4_kinds 38 = .ok (.invokestatic 68, 3) := by decide +kernel
theorem dX4_kinds_41 : decode cX4_kinds 41 = .ok (.istore 6, 2) := by decide +kernel
theorem dX4_kinds_43 : decode cX4_kinds 43 = .ok (.iload_n 3, 1) := by decide +kernel
theorem dX4_kinds_44 : decode cX4_kinds 44 = .ok (.ifCond .eq 66, 3) := by decide +kernel
theorem dX4_kinds_47 : decode cX4_kinds 47 = .ok (.aload_n 0, 1) := by decide +kernel
theorem dX4_kinds_48 : decode cX4_kinds 48 = .ok (.getfield 9, 3) := by decide +kernel
theorem dX4_kinds_51 : decode cX4_kinds 51 = .ok (.iload 5, 2) := by decide +kernel
theorem dX4_kinds_53 : decode cX4_kinds 53 = .ok (.iaload, 1) := by decide +kernel
theorem dX4_kinds_54 : decode cX4_kinds 54 = .ok (.aload_n 0, 1) := by decide +kernel
theorem dX4_kinds_55 : decode cX4_kinds 55 = .ok (.getfield 9, 3) := by decide +kernel
theorem dX4_kinds_58 : decode cX4_kinds 58 = .ok (.iload 6, 2) := by decide +kernel
theorem dX4_kinds_60 : decode cX4_kinds 60 = .ok (.iaload, 1) := by decide +kernel
theorem dX4_kinds_61 : decode cX4_kinds 61 = .ok (.if_icmp .ne 45, 3) := by decide +kernel
theorem dX4_kinds_64 : decode cX4_kinds 64 = .ok (.aload_n 0, 1) := by decide +kernel
theorem dX4_kinds_65 : decode cX4_kinds 65 = .ok (.getfield 9, 3) := by decide +kernel
theorem dX4_kinds_68 : decode cX4_kinds 68 = .ok (.iload 5, 2) := by decide +kernel
theorem dX4_kinds_70 : decode cX4_kinds 70 = .ok (.iconst 1, 1) := by decide +kernel
theorem dX4_kinds_71 : decode cX4_kinds 71 = .ok (.iadd, 1) := by decide +kernel
theorem dX4_kinds_72 : decode cX4_kinds 72 = .ok (.iaload, 1) := by decide +kernel
theorem dX4_kinds_73 : decode cX4_kinds 73 = .ok (.aload_n 0, 1) := by decide +kernel
theorem dX4_kinds_74 : decode cX4_kinds 74 = .ok (.getfield 9, 3) := by decide +kernel
theorem dX4_kinds_77 : decode cX4_kinds 77 = .ok (.iload 6, 2) := by decide +kernel
theorem dX4_kinds_79 : decode cX4_kinds 79 = .ok (.iconst 1, 1) := by decide +kernel
theorem dX4_kinds_80 : decode cX4_kinds 80 = .ok (.iadd, 1) := by decide +kernel
theorem dX4_kinds_81 : decode cX4_kinds 81 = .ok (.iaload, 1) := by decide +kernel
theorem dX4_kinds_82 : decode cX4_kinds 82 = .ok (.if_icmp .ne 24, 3) := by decide +kernel
theorem dX4_kinds_85 : decode cX4_kinds 85 = .ok (.aload_n 0, 1) := by decide +kernel
theorem dX4_kinds_86 : decode cX4_kinds 86 = .ok (.getfield 9, 3) := by decide +kernel
theorem dX4_kinds_89 : decode cX4_kinds 89 = .ok (.iload 5, 2) := by decide +kernel
theorem dX4_kinds_91 : decode cX4_kinds 91 = .ok (.iconst 2, 1) := by decide +kernel
theorem dX4_kinds_92 : decode cX4_kinds 92 = .ok (.iadd, 1) := by decide +kernel
theorem dX4_kinds_93 : decode cX4_kinds 93 = .ok (.iaload, 1) := by decide +kernel
theorem dX4_kinds_94 : decode cX4_kinds 94 = .ok (.aload_n 0, 1) := by decide +kernel
theorem dX4_kinds_95 : decode cX4_kinds 95 = .ok (.getfield 9, 3) := by decide +kernel
theorem dX4_kinds_98 : decode cX4_kinds 98 = .ok (.iload 6, 2) := by decide +kernel
theorem dX4_kinds_100 : decode cX4_kinds 100 = .ok (.iconst 2, 1) := by decide +kernel
theorem dX4_kinds_101 : decode cX4_kinds 101 = .ok (.iadd, 1) := by decide +kernel
theorem dX4_kinds_102 : decode cX4_kinds 102 = .ok (.iaload, 1) := by decide +kernel
theorem dX4_kinds_103 : decode cX4_kinds 103 = .ok (.if_icmp .eq 7, 3) := by decide +kernel
theorem dX4_kinds_106 : decode cX4_kinds 106 = .ok (.iconst 1, 1) := by decide +kernel
theorem dX4_kinds_107 : decode cX4_kinds 107 = .ok (.goto 4, 3) := by decide +kernel
theorem dX4_kinds_110 : decode cX4_kinds 110 = .ok (.iconst 0, 1) := by decide +kernel
theorem dX4_kinds_111 : decode cX4_kinds 111 = .ok (.istore_n 3, 1) := by decide +kernel
theorem dX4_kinds_112 : decode cX4_kinds 112 = .ok (.iinc 4 1, 3) := by decide +kernel
theorem dX4_kinds_115 : decode cX4_kinds 115 = .ok (.goto (-91), 3) := by decide +kernel
theorem dX4_kinds_118 : decode cX4_kinds 118 = .ok (.iload_n 1, 1) := by decide +kernel
theorem dX4_kinds_119 : decode cX4_kinds 119 = .ok (.iload_n 3, 1) := by decide +kernel
theorem dX4_kinds_120 : decode cX4_kinds 120 = .ok (.ifCond .eq 7, 3) := by decide +kernel
theorem dX4_kinds_123 : decode cX4_kinds 123 = .ok (.iconst 1, 1) := by decide +kernel
theorem dX4_kinds_124 : decode cX4_kinds 124 = .ok (.goto 4, 3) := by decide +kernel
theorem dX4_kinds_127 : decode cX4_kinds 127 = .ok (.iconst 0, 1) := by decide +kernel
theorem dX4_kinds_128 : decode cX4_kinds 128 = .ok (.iadd, 1) := by decide +kernel
theorem dX4_kinds_129 : decode cX4_kinds 129 = .ok (.istore_n 1, 1) := by decide +kernel
theorem dX4_kinds_130 : decode cX4_kinds 130 = .ok (.iinc 2 1, 3) := by decide +kernel
theorem dX4_kinds_133 : decode cX4_kinds 133 = .ok (.goto (-124), 3) := by decide +kernel
theorem dX4_kinds_136 : decode cX4_kinds 136 = .ok (.iload_n 1, 1) := by decide +kernel
theorem dX4_kinds_137 : decode cX4_kinds 137 = .ok (.ireturn, 1) := by decide +kernel
theorem dX4_canPay_0 : decode cX4_canPay 0 = .ok (.aload_n 0, 1) := by decide +kernel
theorem dX4_canPay_1 : decode cX4_canPay 1 = .ok (.iconst 0, 1) := by decide +kernel
theorem dX4_canPay_2 : decode cX4_canPay 2 = .ok (.putfield 54, 3) := by decide +kernel
theorem dX4_canPay_5 : decode cX4_canPay 5 = .ok (.iload_n 1, 1) := by decide +kernel
theorem dX4_canPay_6 : decode cX4_canPay 6 = .ok (.i2l, 1) := by decide +kernel
theorem dX4_canPay_7 : decode cX4_canPay 7 = .ok (.lconst 1, 1) := by decide +kernel
theorem dX4_canPay_8 : decode cX4_canPay 8 = .ok (.ldc2_w 103, 3) := by decide +kernel
theorem dX4_canPay_11 : decode cX4_canPay 11 = .ok (.invokestatic 60, 3) := by decide +kernel
theorem dX4_canPay_14 : decode cX4_canPay 14 = .ok (.ifCond .ne 11, 3) := by decide +kernel
theorem dX4_canPay_17 : decode cX4_canPay 17 = .ok (.aload_n 0, 1) := by decide +kernel
theorem dX4_canPay_18 : decode cX4_canPay 18 = .ok (.iconst 1, 1) := by decide +kernel
theorem dX4_canPay_19 : decode cX4_canPay 19 = .ok (.invokevirtual 81, 3) := by decide +kernel
theorem dX4_canPay_22 : decode cX4_canPay 22 = .ok (.pop, 1) := by decide +kernel
theorem dX4_canPay_23 : decode cX4_canPay 23 = .ok (.iconst 0, 1) := by decide +kernel
theorem dX4_canPay_24 : decode cX4_canPay 24 = .ok (.ireturn, 1) := by decide +kernel
theorem dX4_canPay_25 : decode cX4_canPay 25 = .ok (.aload_n 0, 1) := by decide +kernel
theorem dX4_canPay_26 : decode cX4_canPay 26 = .ok (.iload_n 1, 1) := by decide +kernel
theorem dX4_canPay_27 : decode cX4_canPay 27 = .ok (.invokevirtual 150, 3) := by decide +kernel
theorem dX4_canPay_30 : decode cX4_canPay 30 = .ok (.sipush 1000, 3) := by decide +kernel
theorem dX4_canPay_33 : decode cX4_canPay 33 = .ok (.if_icmp .ge 7, 3) := by decide +kernel
theorem dX4_canPay_36 : decode cX4_canPay 36 = .ok (.iconst 1, 1) := by decide +kernel
theorem dX4_canPay_37 : decode cX4_canPay 37 = .ok (.goto 4, 3) := by decide +kernel
theorem dX4_canPay_40 : decode cX4_canPay 40 = .ok (.iconst 0, 1) := by decide +kernel
theorem dX4_canPay_41 : decode cX4_canPay 41 = .ok (.ireturn, 1) := by decide +kernel
theorem dX4_fewestCoins_0 : decode cX4_fewestCoins 0 = .ok (.aload_n 0, 1) := by decide +kernel
theorem dX4_fewestCoins_1 : decode cX4_fewestCoins 1 = .ok (.iconst 0, 1) := by decide +kernel
theorem dX4_fewestCoins_2 : decode cX4_fewestCoins 2 = .ok (.putfield 54, 3) := by decide +kernel
theorem dX4_fewestCoins_5 : decode cX4_fewestCoins 5 = .ok (.iload_n 1, 1) := by decide +kernel
theorem dX4_fewestCoins_6 : decode cX4_fewestCoins 6 = .ok (.i2l, 1) := by decide +kernel
theorem dX4_fewestCoins_7 : decode cX4_fewestCoins 7 = .ok (.lconst 1, 1) := by decide +kernel
theorem dX4_fewestCoins_8 : decode cX4_fewestCoins 8 = .ok (.ldc2_w 103, 3) := by decide +kernel
theorem dX4_fewestCoins_11 : decode cX4_fewestCoins 11 = .ok (.invokestatic 60, 3) := by decide +kernel
theorem dX4_fewestCoins_14 : decode cX4_fewestCoins 14 = .ok (.ifCond .ne 9, 3) := by decide +kernel
theorem dX4_fewestCoins_17 : decode cX4_fewestCoins 17 = .ok (.aload_n 0, 1) := by decide +kernel
theorem dX4_fewestCoins_18 : decode cX4_fewestCoins 18 = .ok (.iconst 1, 1) := by decide +kernel
theorem dX4_fewestCoins_19 : decode cX4_fewestCoins 19 = .ok (.invokevirtual 81, 3) := by decide +kernel
theorem dX4_fewestCoins_22 : decode cX4_fewestCoins 22 = .ok (.ireturn, 1) := by decide +kernel
theorem dX4_fewestCoins_23 : decode cX4_fewestCoins 23 = .ok (.aload_n 0, 1) := by decide +kernel
theorem dX4_fewestCoins_24 : decode cX4_fewestCoins 24 = .ok (.iload_n 1, 1) := by decide +kernel
theorem dX4_fewestCoins_25 : decode cX4_fewestCoins 25 = .ok (.invokevirtual 150, 3) := by decide +kernel
theorem dX4_fewestCoins_28 : decode cX4_fewestCoins 28 = .ok (.istore_n 2, 1) := by decide +kernel
theorem dX4_fewestCoins_29 : decode cX4_fewestCoins 29 = .ok (.iload_n 2, 1) := by decide +kernel
theorem dX4_fewestCoins_30 : decode cX4_fewestCoins 30 = .ok (.sipush 1000, 3) := by decide +kernel
theorem dX4_fewestCoins_33 : decode cX4_fewestCoins 33 = .ok (.if_icmp .ne 11, 3) := by decide +kernel
theorem dX4_fewestCoins_36 : decode cX4_fewestCoins 36 = .ok (.aload_n 0, 1) := by decide +kernel
theorem dX4_fewestCoins_37 : decode cX4_fewestCoins 37 = .ok (.iconst 2, 1) := by decide +kernel
theorem dX4_fewestCoins_38 : decode cX4_fewestCoins 38 = .ok (.invokevirtual 81, 3) := by decide +kernel
theorem dX4_fewestCoins_41 : decode cX4_fewestCoins 41 = .ok (.goto 4, 3) := by decide +kernel
theorem dX4_fewestCoins_44 : decode cX4_fewestCoins 44 = .ok (.iload_n 2, 1) := by decide +kernel
theorem dX4_fewestCoins_45 : decode cX4_fewestCoins 45 = .ok (.ireturn, 1) := by decide +kernel
theorem dX4_fewestCoinsBySets_0 : decode cX4_fewestCoinsBySets 0 = .ok (.aload_n 0, 1) := by decide +kernel
theorem dX4_fewestCoinsBySets_1 : decode cX4_fewestCoinsBySets 1 = .ok (.iload_n 1, 1) := by decide +kernel
theorem dX4_fewestCoinsBySets_2 : decode cX4_fewestCoinsBySets 2 = .ok (.invokevirtual 182, 3) := by decide +kernel
theorem dX4_fewestCoinsBySets_5 : decode cX4_fewestCoinsBySets 5 = .ok (.ireturn, 1) := by decide +kernel
theorem dX4_greedyCoins_0 : decode cX4_greedyCoins 0 = .ok (.aload_n 0, 1) := by decide +kernel
theorem dX4_greedyCoins_1 : decode cX4_greedyCoins 1 = .ok (.iconst 0, 1) := by decide +kernel
theorem dX4_greedyCoins_2 : decode cX4_greedyCoins 2 = .ok (.putfield 54, 3) := by decide +kernel
theorem dX4_greedyCoins_5 : decode cX4_greedyCoins 5 = .ok (.iload_n 1, 1) := by decide +kernel
theorem dX4_greedyCoins_6 : decode cX4_greedyCoins 6 = .ok (.i2l, 1) := by decide +kernel
theorem dX4_greedyCoins_7 : decode cX4_greedyCoins 7 = .ok (.lconst 1, 1) := by decide +kernel
theorem dX4_greedyCoins_8 : decode cX4_greedyCoins 8 = .ok (.ldc2_w 103, 3) := by decide +kernel
theorem dX4_greedyCoins_11 : decode cX4_greedyCoins 11 = .ok (.invokestatic 60, 3) := by decide +kernel
theorem dX4_greedyCoins_14 : decode cX4_greedyCoins 14 = .ok (.ifCond .ne 9, 3) := by decide +kernel
theorem dX4_greedyCoins_17 : decode cX4_greedyCoins 17 = .ok (.aload_n 0, 1) := by decide +kernel
theorem dX4_greedyCoins_18 : decode cX4_greedyCoins 18 = .ok (.iconst 1, 1) := by decide +kernel
theorem dX4_greedyCoins_19 : decode cX4_greedyCoins 19 = .ok (.invokevirtual 81, 3) := by decide +kernel
theorem dX4_greedyCoins_22 : decode cX4_greedyCoins 22 = .ok (.ireturn, 1) := by decide +kernel
theorem dX4_greedyCoins_23 : decode cX4_greedyCoins 23 = .ok (.aload_n 0, 1) := by decide +kernel
theorem dX4_greedyCoins_24 : decode cX4_greedyCoins 24 = .ok (.invokevirtual 138, 3) := by decide +kernel
theorem dX4_greedyCoins_27 : decode cX4_greedyCoins 27 = .ok (.iload_n 1, 1) := by decide +kernel
theorem dX4_greedyCoins_28 : decode cX4_greedyCoins 28 = .ok (.istore_n 2, 1) := by decide +kernel
theorem dX4_greedyCoins_29 : decode cX4_greedyCoins 29 = .ok (.iconst 0, 1) := by decide +kernel
theorem dX4_greedyCoins_30 : decode cX4_greedyCoins 30 = .ok (.istore_n 3, 1) := by decide +kernel
theorem dX4_greedyCoins_31 : decode cX4_greedyCoins 31 = .ok (.iconst 0, 1) := by decide +kernel
theorem dX4_greedyCoins_32 : decode cX4_greedyCoins 32 = .ok (.istore 4, 2) := by decide +kernel
theorem dX4_greedyCoins_34 : decode cX4_greedyCoins 34 = .ok (.iload 4, 2) := by decide +kernel
theorem dX4_greedyCoins_36 : decode cX4_greedyCoins 36 = .ok (.aload_n 0, 1) := by decide +kernel
theorem dX4_greedyCoins_37 : decode cX4_greedyCoins 37 = .ok (.getfield 9, 3) := by decide +kernel
theorem dX4_greedyCoins_40 : decode cX4_greedyCoins 40 = .ok (.iconst 0, 1) := by decide +kernel
theorem dX4_greedyCoins_41 : decode cX4_greedyCoins 41 = .ok (.iaload, 1) := by decide +kernel
theorem dX4_greedyCoins_42 : decode cX4_greedyCoins 42 = .ok (.if_icmp .ge 59, 3) := by decide +kernel
theorem dX4_greedyCoins_45 : decode cX4_greedyCoins 45 = .ok (.aload_n 0, 1) := by decide +kernel
theorem dX4_greedyCoins_46 : decode cX4_greedyCoins 46 = .ok (.getfield 9, 3) := by decide +kernel
theorem dX4_greedyCoins_49 : decode cX4_greedyCoins 49 = .ok (.aload_n 0, 1) := by decide +kernel
theorem dX4_greedyCoins_50 : decode cX4_greedyCoins 50 = .ok (.getfield 32, 3) := by decide +kernel
theorem dX4_greedyCoins_53 : decode cX4_greedyCoins 53 = .ok (.iload 4, 2) := by decide +kernel
theorem dX4_greedyCoins_55 : decode cX4_greedyCoins 55 = .ok (.iaload, 1) := by decide +kernel
theorem dX4_greedyCoins_56 : decode cX4_greedyCoins 56 = .ok (.invokestatic 64, 3) := by decide +kernel
theorem dX4_greedyCoins_59 : decode cX4_greedyCoins 59 = .ok (.iaload, 1) := by decide +kernel
theorem dX4_greedyCoins_60 : decode cX4_greedyCoins 60 = .ok (.istore 5, 2) := by decide +kernel
theorem dX4_greedyCoins_62 : decode cX4_greedyCoins 62 = .ok (.aload_n 0, 1) := by decide +kernel
theorem dX4_greedyCoins_63 : decode cX4_greedyCoins 63 = .ok (.aload_n 0, 1) := by decide +kernel
theorem dX4_greedyCoins_64 : decode cX4_greedyCoins 64 = .ok (.getfield 32, 3) := by decide +kernel
theorem dX4_greedyCoins_67 : decode cX4_greedyCoins 67 = .ok (.iload 4, 2) := by decide +kernel
theorem dX4_greedyCoins_69 : decode cX4_greedyCoins 69 = .ok (.iaload, 1) := by decide +kernel
theorem dX4_greedyCoins_70 : decode cX4_greedyCoins 70 = .ok (.invokevirtual 144, 3) := by decide +kernel
theorem dX4_greedyCoins_73 : decode cX4_greedyCoins 73 = .ok (.iload_n 2, 1) := by decide +kernel
theorem dX4_greedyCoins_74 : decode cX4_greedyCoins 74 = .ok (.iload 5, 2) := by decide +kernel
theorem dX4_greedyCoins_76 : decode cX4_greedyCoins 76 = .ok (.idiv, 1) := by decide +kernel
theorem dX4_greedyCoins_77 : decode cX4_greedyCoins 77 = .ok (.invokestatic 71, 3) := by decide +kernel
theorem dX4_greedyCoins_80 : decode cX4_greedyCoins 80 = .ok (.istore 6, 2) := by decide +kernel
theorem dX4_greedyCoins_82 : decode cX4_greedyCoins 82 = .ok (.iload_n 2, 1) := by decide +kernel
theorem dX4_greedyCoins_83 : decode cX4_greedyCoins 83 = .ok (.iload 6, 2) := by decide +kernel
theorem dX4_greedyCoins_85 : decode cX4_greedyCoins 85 = .ok (.iload 5, 2) := by decide +kernel
theorem dX4_greedyCoins_87 : decode cX4_greedyCoins 87 = .ok (.imul, 1) := by decide +kernel
theorem dX4_greedyCoins_88 : decode cX4_greedyCoins 88 = .ok (.isub, 1) := by decide +kernel
theorem dX4_greedyCoins_89 : decode cX4_greedyCoins 89 = .ok (.istore_n 2, 1) := by decide +kernel
theorem dX4_greedyCoins_90 : decode cX4_greedyCoins 90 = .ok (.iload_n 3, 1) := by decide +kernel
theorem dX4_greedyCoins_91 : decode cX4_greedyCoins 91 = .ok (.iload 6, 2) := by decide +kernel
theorem dX4_greedyCoins_93 : decode cX4_greedyCoins 93 = .ok (.iadd, 1) := by decide +kernel
theorem dX4_greedyCoins_94 : decode cX4_greedyCoins 94 = .ok (.istore_n 3, 1) := by decide +kernel
theorem dX4_greedyCoins_95 : decode cX4_greedyCoins 95 = .ok (.iinc 4 1, 3) := by decide +kernel
theorem dX4_greedyCoins_98 : decode cX4_greedyCoins 98 = .ok (.goto (-64), 3) := by decide +kernel
theorem dX4_greedyCoins_101 : decode cX4_greedyCoins 101 = .ok (.iload_n 2, 1) := by decide +kernel
theorem dX4_greedyCoins_102 : decode cX4_greedyCoins 102 = .ok (.ifCond .le 11, 3) := by decide +kernel
theorem dX4_greedyCoins_105 : decode cX4_greedyCoins 105 = .ok (.aload_n 0, 1) := by decide +kernel
theorem dX4_greedyCoins_106 : decode cX4_greedyCoins 106 = .ok (.iconst 2, 1) := by decide +kernel
theorem dX4_greedyCoins_107 : decode cX4_greedyCoins 107 = .ok (.invokevirtual 81, 3) := by decide +kernel
theorem dX4_greedyCoins_110 : decode cX4_greedyCoins 110 = .ok (.goto 4, 3) := by decide +kernel
theorem dX4_greedyCoins_113 : decode cX4_greedyCoins 113 = .ok (.iload_n 3, 1) := by decide +kernel
theorem dX4_greedyCoins_114 : decode cX4_greedyCoins 114 = .ok (.ireturn, 1) := by decide +kernel
theorem dX4_coinsUsed_0 : decode cX4_coinsUsed 0 = .ok (.aload_n 0, 1) := by decide +kernel
theorem dX4_coinsUsed_1 : decode cX4_coinsUsed 1 = .ok (.iconst 0, 1) := by decide +kernel
theorem dX4_coinsUsed_2 : decode cX4_coinsUsed 2 = .ok (.putfield 54, 3) := by decide +kernel
theorem dX4_coinsUsed_5 : decode cX4_coinsUsed 5 = .ok (.iload_n 1, 1) := by decide +kernel
theorem dX4_coinsUsed_6 : decode cX4_coinsUsed 6 = .ok (.i2l, 1) := by decide +kernel
theorem dX4_coinsUsed_7 : decode cX4_coinsUsed 7 = .ok (.lconst 1, 1) := by decide +kernel
theorem dX4_coinsUsed_8 : decode cX4_coinsUsed 8 = .ok (.ldc2_w 103, 3) := by decide +kernel
theorem dX4_coinsUsed_11 : decode cX4_coinsUsed 11 = .ok (.invokestatic 60, 3) := by decide +kernel
theorem dX4_coinsUsed_14 : decode cX4_coinsUsed 14 = .ok (.ifCond .ne 9, 3) := by decide +kernel
theorem dX4_coinsUsed_17 : decode cX4_coinsUsed 17 = .ok (.aload_n 0, 1) := by decide +kernel
theorem dX4_coinsUsed_18 : decode cX4_coinsUsed 18 = .ok (.iconst 1, 1) := by decide +kernel
theorem dX4_coinsUsed_19 : decode cX4_coinsUsed 19 = .ok (.invokevirtual 81, 3) := by decide +kernel
theorem dX4_coinsUsed_22 : decode cX4_coinsUsed 22 = .ok (.ireturn, 1) := by decide +kernel
theorem dX4_coinsUsed_23 : decode cX4_coinsUsed 23 = .ok (.aload_n 0, 1) := by decide +kernel
theorem dX4_coinsUsed_24 : decode cX4_coinsUsed 24 = .ok (.iload_n 2, 1) := by decide +kernel
theorem dX4_coinsUsed_25 : decode cX4_coinsUsed 25 = .ok (.invokevirtual 84, 3) := by decide +kernel
theorem dX4_coinsUsed_28 : decode cX4_coinsUsed 28 = .ok (.iconst (-1), 1) := by decide +kernel
theorem dX4_coinsUsed_29 : decode cX4_coinsUsed 29 = .ok (.if_icmp .ne 9, 3) := by decide +kernel
theorem dX4_coinsUsed_32 : decode cX4_coinsUsed 32 = .ok (.aload_n 0, 1) := by decide +kernel
theorem dX4_coinsUsed_33 : decode cX4_coinsUsed 33 = .ok (.iconst 2, 1) := by decide +kernel
theorem dX4_coinsUsed_34 : decode cX4_coinsUsed 34 = .ok (.invokevirtual 81, 3) := by decide +kernel
theorem dX4_coinsUsed_37 : decode cX4_coinsUsed 37 = .ok (.ireturn, 1) := by decide +kernel
theorem dX4_coinsUsed_38 : decode cX4_coinsUsed 38 = .ok (.aload_n 0, 1) := by decide +kernel
theorem dX4_coinsUsed_39 : decode cX4_coinsUsed 39 = .ok (.iload_n 1, 1) := by decide +kernel
theorem dX4_coinsUsed_40 : decode cX4_coinsUsed 40 = .ok (.invokevirtual 150, 3) := by decide +kernel
theorem dX4_coinsUsed_43 : decode cX4_coinsUsed 43 = .ok (.sipush 1000, 3) := by decide +kernel
theorem dX4_coinsUsed_46 : decode cX4_coinsUsed 46 = .ok (.if_icmp .ne 9, 3) := by decide +kernel
theorem dX4_coinsUsed_49 : decode cX4_coinsUsed 49 = .ok (.aload_n 0, 1) := by decide +kernel
theorem dX4_coinsUsed_50 : decode cX4_coinsUsed 50 = .ok (.iconst 3, 1) := by decide +kernel
theorem dX4_coinsUsed_51 : decode cX4_coinsUsed 51 = .ok (.invokevirtual 81, 3) := by decide +kernel
theorem dX4_coinsUsed_54 : decode cX4_coinsUsed 54 = .ok (.ireturn, 1) := by decide +kernel
theorem dX4_coinsUsed_55 : decode cX4_coinsUsed 55 = .ok (.iload_n 1, 1) := by decide +kernel
theorem dX4_coinsUsed_56 : decode cX4_coinsUsed 56 = .ok (.istore_n 3, 1) := by decide +kernel
theorem dX4_coinsUsed_57 : decode cX4_coinsUsed 57 = .ok (.iconst 0, 1) := by decide +kernel
theorem dX4_coinsUsed_58 : decode cX4_coinsUsed 58 = .ok (.istore 4, 2) := by decide +kernel
theorem dX4_coinsUsed_60 : decode cX4_coinsUsed 60 = .ok (.iconst 0, 1) := by decide +kernel
theorem dX4_coinsUsed_61 : decode cX4_coinsUsed 61 = .ok (.istore 5, 2) := by decide +kernel
theorem dX4_coinsUsed_63 : decode cX4_coinsUsed 63 = .ok (.iload 5, 2) := by decide +kernel
theorem dX4_coinsUsed_65 : decode cX4_coinsUsed 65 = .ok (.aload_n 0, 1) := by decide +kernel
theorem dX4_coinsUsed_66 : decode cX4_coinsUsed 66 = .ok (.getfield 9, 3) := by decide +kernel
theorem dX4_coinsUsed_69 : decode cX4_coinsUsed 69 = .ok (.iconst 0, 1) := by decide +kernel
theorem dX4_coinsUsed_70 : decode cX4_coinsUsed 70 = .ok (.iaload, 1) := by decide +kernel
theorem dX4_coinsUsed_71 : decode cX4_coinsUsed 71 = .ok (.if_icmp .ge 67, 3) := by decide +kernel
theorem dX4_coinsUsed_74 : decode cX4_coinsUsed 74 = .ok (.aload_n 0, 1) := by decide +kernel
theorem dX4_coinsUsed_75 : decode cX4_coinsUsed 75 = .ok (.iload 5, 2) := by decide +kernel
theorem dX4_coinsUsed_77 : decode cX4_coinsUsed 77 = .ok (.iload_n 3, 1) := by decide +kernel
theorem dX4_coinsUsed_78 : decode cX4_coinsUsed 78 = .ok (.invokevirtual 153, 3) := by decide +kernel
theorem dX4_coinsUsed_81 : decode cX4_coinsUsed 81 = .ok (.istore 6, 2) := by decide +kernel
theorem dX4_coinsUsed_83 : decode cX4_coinsUsed 83 = .ok (.aload_n 0, 1) := by decide +kernel
theorem dX4_coinsUsed_84 : decode cX4_coinsUsed 84 = .ok (.getfield 9, 3) := by decide +kernel
theorem dX4_coinsUsed_87 : decode cX4_coinsUsed 87 = .ok (.aload_n 0, 1) := by decide +kernel
theorem dX4_coinsUsed_88 : decode cX4_coinsUsed 88 = .ok (.getfield 32, 3) := by decide +kernel
theorem dX4_coinsUsed_91 : decode cX4_coinsUsed 91 = .ok (.iload 5, 2) := by decide +kernel
theorem dX4_coinsUsed_93 : decode cX4_coinsUsed 93 = .ok (.iaload, 1) := by decide +kernel
theorem dX4_coinsUsed_94 : decode cX4_coinsUsed 94 = .ok (.invokestatic 64, 3) := by decide +kernel
theorem dX4_coinsUsed_97 : decode cX4_coinsUsed 97 = .ok (.iaload, 1) := by decide +kernel
theorem dX4_coinsUsed_98 : decode cX4_coinsUsed 98 = .ok (.iload_n 2, 1) := by decide +kernel
theorem dX4_coinsUsed_99 : decode cX4_coinsUsed 99 = .ok (.if_icmp .ne 8, 3) := by decide +kernel
theorem dX4_coinsUsed_102 : decode cX4_coinsUsed 102 = .ok (.iload 6, 2) := by decide +kernel
theorem dX4_coinsUsed_104 : decode cX4_coinsUsed 104 = .ok (.goto 5, 3) := by decide +kernel
theorem dX4_coinsUsed_107 : decode cX4_coinsUsed 107 = .ok (.iload 4, 2) := by decide +kernel
theorem dX4_coinsUsed_109 : decode cX4_coinsUsed 109 = .ok (.istore 4, 2) := by decide +kernel
theorem dX4_coinsUsed_111 : decode cX4_coinsUsed 111 = .ok (.iload_n 3, 1) := by decide +kernel
theorem dX4_coinsUsed_112 : decode cX4_coinsUsed 112 = .ok (.iload 6, 2) := by decide +kernel
theorem dX4_coinsUsed_114 : decode cX4_coinsUsed 114 = .ok (.aload_n 0, 1) := by decide +kernel
theorem dX4_coinsUsed_115 : decode cX4_coinsUsed 115 = .ok (.getfield 9, 3) := by decide +kernel
theorem dX4_coinsUsed_118 : decode cX4_coinsUsed 118 = .ok (.aload_n 0, 1) := by decide +kernel
theorem dX4_coinsUsed_119 : decode cX4_coinsUsed 119 = .ok (.getfield 32, 3) := by decide +kernel
theorem dX4_coinsUsed_122 : decode cX4_coinsUsed 122 = .ok (.iload 5, 2) := by decide +kernel
theorem dX4_coinsUsed_124 : decode cX4_coinsUsed 124 = .ok (.iaload, 1) := by decide +kernel
theorem dX4_coinsUsed_125 : decode cX4_coinsUsed 125 = .ok (.invokestatic 64, 3) := by decide +kernel
theorem dX4_coinsUsed_128 : decode cX4_coinsUsed 128 = .ok (.iaload, 1) := by decide +kernel
theorem dX4_coinsUsed_129 : decode cX4_coinsUsed 129 = .ok (.imul, 1) := by decide +kernel
theorem dX4_coinsUsed_130 : decode cX4_coinsUsed 130 = .ok (.isub, 1) := by decide +kernel
theorem dX4_coinsUsed_131 : decode cX4_coinsUsed 131 = .ok (.istore_n 3, 1) := by decide +kernel
theorem dX4_coinsUsed_132 : decode cX4_coinsUsed 132 = .ok (.iinc 5 1, 3) := by decide +kernel
theorem dX4_coinsUsed_135 : decode cX4_coinsUsed 135 = .ok (.goto (-72), 3) := by decide +kernel
theorem dX4_coinsUsed_138 : decode cX4_coinsUsed 138 = .ok (.iload 4, 2) := by decide +kernel
theorem dX4_coinsUsed_140 : decode cX4_coinsUsed 140 = .ok (.ireturn, 1) := by decide +kernel
theorem dX4_payableAmounts_0 : decode cX4_payableAmounts 0 = .ok (.aload_n 0, 1) := by decide +kernel
theorem dX4_payableAmounts_1 : decode cX4_payableAmounts 1 = .ok (.iconst 0, 1) := by decide +kernel
theorem dX4_payableAmounts_2 : decode cX4_payableAmounts 2 = .ok (.putfield 54, 3) := by decide +kernel
theorem dX4_payableAmounts_5 : decode cX4_payableAmounts 5 = .ok (.aload_n 0, 1) := by decide +kernel
theorem dX4_payableAmounts_6 : decode cX4_payableAmounts 6 = .ok (.invokevirtual 147, 3) := by decide +kernel
theorem dX4_payableAmounts_9 : decode cX4_payableAmounts 9 = .ok (.iconst 0, 1) := by decide +kernel
theorem dX4_payableAmounts_10 : decode cX4_payableAmounts 10 = .ok (.istore_n 1, 1) := by decide +kernel
theorem dX4_payableAmounts_11 : decode cX4_payableAmounts 11 = .ok (.iconst 1, 1) := by decide +kernel
theorem dX4_payableAmounts_12 : decode cX4_payableAmounts 12 = .ok (.istore_n 2, 1) := by decide +kernel
theorem dX4_payableAmounts_13 : decode cX4_payableAmounts 13 = .ok (.iload_n 2, 1) := by decide +kernel
theorem dX4_payableAmounts_14 : decode cX4_payableAmounts 14 = .ok (.bipush 99, 2) := by decide +kernel
theorem dX4_payableAmounts_16 : decode cX4_payableAmounts 16 = .ok (.if_icmp .gt 33, 3) := by decide +kernel
theorem dX4_payableAmounts_19 : decode cX4_payableAmounts 19 = .ok (.iload_n 1, 1) := by decide +kernel
theorem dX4_payableAmounts_20 : decode cX4_payableAmounts 20 = .ok (.aload_n 0, 1) := by decide +kernel
theorem dX4_payableAmounts_21 : decode cX4_payableAmounts 21 = .ok (.getfield 35, 3) := by decide +kernel
theorem dX4_payableAmounts_24 : decode cX4_payableAmounts 24 = .ok (.iconst 0, 1) := by decide +kernel
theorem dX4_payableAmounts_25 : decode cX4_payableAmounts 25 = .ok (.iload_n 2, 1) := by decide +kernel
theorem dX4_payableAmounts_26 : decode cX4_payableAmounts 26 = .ok (.invokestatic 141, 3) := by decide +kernel
theorem dX4_payableAmounts_29 : decode cX4_payableAmounts 29 = .ok (.iaload, 1) := by decide +kernel
theorem dX4_payableAmounts_30 : decode cX4_payableAmounts 30 = .ok (.sipush 1000, 3) := by decide +kernel
theorem dX4_payableAmounts_33 : decode cX4_payableAmounts 33 = .ok (.if_icmp .ge 7, 3) := by decide +kernel
theorem dX4_payableAmounts_36 : decode cX4_payableAmounts 36 = .ok (.iconst 1, 1) := by decide +kernel
theorem dX4_payableAmounts_37 : decode cX4_payableAmounts 37 = .ok (.goto 4, 3) := by decide +kernel
theorem dX4_payableAmounts_40 : decode cX4_payableAmounts 40 = .ok (.iconst 0, 1) := by decide +kernel
theorem dX4_payableAmounts_41 : decode cX4_payableAmounts 41 = .ok (.iadd, 1) := by decide +kernel
theorem dX4_payableAmounts_42 : decode cX4_payableAmounts 42 = .ok (.istore_n 1, 1) := by decide +kernel
theorem dX4_payableAmounts_43 : decode cX4_payableAmounts 43 = .ok (.iinc 2 1, 3) := by decide +kernel
theorem dX4_payableAmounts_46 : decode cX4_payableAmounts 46 = .ok (.goto (-33), 3) := by decide +kernel
theorem dX4_payableAmounts_49 : decode cX4_payableAmounts 49 = .ok (.iload_n 1, 1) := by decide +kernel
theorem dX4_payableAmounts_50 : decode cX4_payableAmounts 50 = .ok (.ireturn, 1) := by decide +kernel
theorem dX4_recallGrams_0 : decode cX4_recallGrams 0 = .ok (.aload_n 0, 1) := by decide +kernel
theorem dX4_recallGrams_1 : decode cX4_recallGrams 1 = .ok (.iconst 0, 1) := by decide +kernel
theorem dX4_recallGrams_2 : decode cX4_recallGrams 2 = .ok (.putfield 54, 3) := by decide +kernel
theorem dX4_recallGrams_5 : decode cX4_recallGrams 5 = .ok (.iconst 0, 1) := by decide +kernel
theorem dX4_recallGrams_6 : decode cX4_recallGrams 6 = .ok (.istore_n 2, 1) := by decide +kernel
theorem dX4_recallGrams_7 : decode cX4_recallGrams 7 = .ok (.iconst 0, 1) := by decide +kernel
theorem dX4_recallGrams_8 : decode cX4_recallGrams 8 = .ok (.istore_n 3, 1) := by decide +kernel
theorem dX4_recallGrams_9 : decode cX4_recallGrams 9 = .ok (.iload_n 3, 1) := by decide +kernel
theorem dX4_recallGrams_10 : decode cX4_recallGrams 10 = .ok (.aload_n 0, 1) := by decide +kernel
theorem dX4_recallGrams_11 : decode cX4_recallGrams 11 = .ok (.getfield 9, 3) := by decide +kernel
theorem dX4_recallGrams_14 : decode cX4_recallGrams 14 = .ok (.iconst 3, 1) := by decide +kernel
theorem dX4_recallGrams_15 : decode cX4_recallGrams 15 = .ok (.iaload, 1) := by decide +kernel
theorem dX4_recallGrams_16 : decode cX4_recallGrams 16 = .ok (.if_icmp .ge 36, 3) := by decide +kernel
theorem dX4_recallGrams_19 : decode cX4_recallGrams 19 = .ok (.iload_n 2, 1) := by decide +kernel
theorem dX4_recallGrams_20 : decode cX4_recallGrams 20 = .ok (.aload_n 0, 1) := by decide +kernel
theorem dX4_recallGrams_21 : decode cX4_recallGrams 21 = .ok (.getfield 9, 3) := by decide +kernel
theorem dX4_recallGrams_24 : decode cX4_recallGrams 24 = .ok (.iload_n 3, 1) := by decide +kernel
theorem dX4_recallGrams_25 : decode cX4_recallGrams 25 = .ok (.invokestatic 68, 3) := by decide +kernel
theorem dX4_recallGrams_28 : decode cX4_recallGrams 28 = .ok (.iconst 1, 1) := by decide +kernel
theorem dX4_recallGrams_29 : decode cX4_recallGrams 29 = .ok (.iadd, 1) := by decide +kernel
theorem dX4_recallGrams_30 : decode cX4_recallGrams 30 = .ok (.iaload, 1) := by decide +kernel
theorem dX4_recallGrams_31 : decode cX4_recallGrams 31 = .ok (.iload_n 1, 1) := by decide +kernel
theorem dX4_recallGrams_32 : decode cX4_recallGrams 32 = .ok (.if_icmp .ne 11, 3) := by decide +kernel
theorem dX4_recallGrams_35 : decode cX4_recallGrams 35 = .ok (.aload_n 0, 1) := by decide +kernel
theorem dX4_recallGrams_36 : decode cX4_recallGrams 36 = .ok (.iload_n 3, 1) := by decide +kernel
theorem dX4_recallGrams_37 : decode cX4_recallGrams 37 = .ok (.invokevirtual 128, 3) := by decide +kernel
theorem dX4_recallGrams_40 : decode cX4_recallGrams 40 = .ok (.goto 4, 3) := by decide +kernel
theorem dX4_recallGrams_43 : decode cX4_recallGrams 43 = .ok (.iconst 0, 1) := by decide +kernel
theorem dX4_recallGrams_44 : decode cX4_recallGrams 44 = .ok (.iadd, 1) := by decide +kernel
theorem dX4_recallGrams_45 : decode cX4_recallGrams 45 = .ok (.istore_n 2, 1) := by decide +kernel
theorem dX4_recallGrams_46 : decode cX4_recallGrams 46 = .ok (.iinc 3 1, 3) := by decide +kernel
theorem dX4_recallGrams_49 : decode cX4_recallGrams 49 = .ok (.goto (-40), 3) := by decide +kernel
theorem dX4_recallGrams_52 : decode cX4_recallGrams 52 = .ok (.iload_n 2, 1) := by decide +kernel
theorem dX4_recallGrams_53 : decode cX4_recallGrams 53 = .ok (.ireturn, 1) := by decide +kernel
theorem dX4_struckTotal_0 : decode cX4_struckTotal 0 = .ok (.aload_n 0, 1) := by decide +kernel
theorem dX4_struckTotal_1 : decode cX4_struckTotal 1 = .ok (.iconst 4, 1) := by decide +kernel
theorem dX4_struckTotal_2 : decode cX4_struckTotal 2 = .ok (.invokevirtual 162, 3) := by decide +kernel
theorem dX4_struckTotal_5 : decode cX4_struckTotal 5 = .ok (.ireturn, 1) := by decide +kernel
theorem dX4_paidTotal_0 : decode cX4_paidTotal 0 = .ok (.aload_n 0, 1) := by decide +kernel
theorem dX4_paidTotal_1 : decode cX4_paidTotal 1 = .ok (.iconst 5, 1) := by decide +kernel
theorem dX4_paidTotal_2 : decode cX4_paidTotal 2 = .ok (.invokevirtual 162, 3) := by decide +kernel
theorem dX4_paidTotal_5 : decode cX4_paidTotal 5 = .ok (.ireturn, 1) := by decide +kernel
theorem dX4_paidWeight_0 : decode cX4_paidWeight 0 = .ok (.aload_n 0, 1) := by decide +kernel
theorem dX4_paidWeight_1 : decode cX4_paidWeight 1 = .ok (.bipush 6, 2) := by decide +kernel
theorem dX4_paidWeight_3 : decode cX4_paidWeight 3 = .ok (.invokevirtual 162, 3) := by decide +kernel
theorem dX4_paidWeight_6 : decode cX4_paidWeight 6 = .ok (.ireturn, 1) := by decide +kernel
theorem dX4_lostWeight_0 : decode cX4_lostWeight 0 = .ok (.aload_n 0, 1) := by decide +kernel
theorem dX4_lostWeight_1 : decode cX4_lostWeight 1 = .ok (.bipush 7, 2) := by decide +kernel
theorem dX4_lostWeight_3 : decode cX4_lostWeight 3 = .ok (.invokevirtual 162, 3) := by decide +kernel
theorem dX4_lostWeight_6 : decode cX4_lostWeight 6 = .ok (.ireturn, 1) := by decide +kernel
theorem dX4_addedWeight_0 : decode cX4_addedWeight 0 = .ok (.aload_n 0, 1) := by decide +kernel
theorem dX4_addedWeight_1 : decode cX4_addedWeight 1 = .ok (.bipush 8, 2) := by decide +kernel
theorem dX4_addedWeight_3 : decode cX4_addedWeight 3 = .ok (.invokevirtual 162, 3) := by decide +kernel
theorem dX4_addedWeight_6 : decode cX4_addedWeight 6 = .ok (.ireturn, 1) := by decide +kernel
theorem dX4_meanWear_0 : decode cX4_meanWear 0 = .ok (.aload_n 0, 1) := by decide +kernel
theorem dX4_meanWear_1 : decode cX4_meanWear 1 = .ok (.iconst 0, 1) := by decide +kernel
theorem dX4_meanWear_2 : decode cX4_meanWear 2 = .ok (.putfield 54, 3) := by decide +kernel
theorem dX4_meanWear_5 : decode cX4_meanWear 5 = .ok (.aload_n 0, 1) := by decide +kernel
theorem dX4_meanWear_6 : decode cX4_meanWear 6 = .ok (.getfield 9, 3) := by decide +kernel
theorem dX4_meanWear_9 : decode cX4_meanWear 9 = .ok (.iconst 0, 1) := by decide +kernel
theorem dX4_meanWear_10 : decode cX4_meanWear 10 = .ok (.iaload, 1) := by decide +kernel
theorem dX4_meanWear_11 : decode cX4_meanWear 11 = .ok (.ifCond .ne 11, 3) := by decide +kernel
theorem dX4_meanWear_14 : decode cX4_meanWear 14 = .ok (.aload_n 0, 1) := by decide +kernel
theorem dX4_meanWear_15 : decode cX4_meanWear 15 = .ok (.iconst 1, 1) := by decide +kernel
theorem dX4_meanWear_16 : decode cX4_meanWear 16 = .ok (.invokevirtual 81, 3) := by decide +kernel
theorem dX4_meanWear_19 : decode cX4_meanWear 19 = .ok (.pop, 1) := by decide +kernel
theorem dX4_meanWear_20 : decode cX4_meanWear 20 = .ok (.dconst 0, 1) := by decide +kernel
theorem dX4_meanWear_21 : decode cX4_meanWear 21 = .ok (.dreturn, 1) := by decide +kernel
theorem dX4_meanWear_22 : decode cX4_meanWear 22 = .ok (.iconst 0, 1) := by decide +kernel
theorem dX4_meanWear_23 : decode cX4_meanWear 23 = .ok (.istore_n 1, 1) := by decide +kernel
theorem dX4_meanWear_24 : decode cX4_meanWear 24 = .ok (.iconst 0, 1) := by decide +kernel
theorem dX4_meanWear_25 : decode cX4_meanWear 25 = .ok (.istore_n 2, 1) := by decide +kernel
theorem dX4_meanWear_26 : decode cX4_meanWear 26 = .ok (.iload_n 2, 1) := by decide +kernel
theorem dX4_meanWear_27 : decode cX4_meanWear 27 = .ok (.aload_n 0, 1) := by decide +kernel
theorem dX4_meanWear_28 : decode cX4_meanWear 28 = .ok (.getfield 9, 3) := by decide +kernel
theorem dX4_meanWear_31 : decode cX4_meanWear 31 = .ok (.iconst 0, 1) := by decide +kernel
theorem dX4_meanWear_32 : decode cX4_meanWear 32 = .ok (.iaload, 1) := by decide +kernel
theorem dX4_meanWear_33 : decode cX4_meanWear 33 = .ok (.if_icmp .ge 23, 3) := by decide +kernel
theorem dX4_meanWear_36 : decode cX4_meanWear 36 = .ok (.iload_n 1, 1) := by decide +kernel
theorem dX4_meanWear_37 : decode cX4_meanWear 37 = .ok (.aload_n 0, 1) := by decide +kernel
theorem dX4_meanWear_38 : decode cX4_meanWear 38 = .ok (.getfield 9, 3) := by decide +kernel
theorem dX4_meanWear_41 : decode cX4_meanWear 41 = .ok (.iload_n 2, 1) := by decide +kernel
theorem dX4_meanWear_42 : decode cX4_meanWear 42 = .ok (.invokestatic 64, 3) := by decide +kernel
theorem dX4_meanWear_45 : decode cX4_meanWear 45 = .ok (.iconst 2, 1) := by decide +kernel
theorem dX4_meanWear_46 : decode cX4_meanWear 46 = .ok (.iadd, 1) := by decide +kernel
theorem dX4_meanWear_47 : decode cX4_meanWear 47 = .ok (.iaload, 1) := by decide +kernel
theorem dX4_meanWear_48 : decode cX4_meanWear 48 = .ok (.iadd, 1) := by decide +kernel
theorem dX4_meanWear_49 : decode cX4_meanWear 49 = .ok (.istore_n 1, 1) := by decide +kernel
theorem dX4_meanWear_50 : decode cX4_meanWear 50 = .ok (.iinc 2 1, 3) := by decide +kernel
theorem dX4_meanWear_53 : decode cX4_meanWear 53 = .ok (.goto (-27), 3) := by decide +kernel
theorem dX4_meanWear_56 : decode cX4_meanWear 56 = .ok (.iload_n 1, 1) := by decide +kernel
theorem dX4_meanWear_57 : decode cX4_meanWear 57 = .ok (.i2d, 1) := by decide +kernel
theorem dX4_meanWear_58 : decode cX4_meanWear 58 = .ok (.aload_n 0, 1) := by decide +kernel
theorem dX4_meanWear_59 : decode cX4_meanWear 59 = .ok (.getfield 9, 3) := by decide +kernel
theorem dX4_meanWear_62 : decode cX4_meanWear 62 = .ok (.iconst 0, 1) := by decide +kernel
theorem dX4_meanWear_63 : decode cX4_meanWear 63 = .ok (.iaload, 1) := by decide +kernel
theorem dX4_meanWear_64 : decode cX4_meanWear 64 = .ok (.i2d, 1) := by decide +kernel
theorem dX4_meanWear_65 : decode cX4_meanWear 65 = .ok (.ddiv, 1) := by decide +kernel
theorem dX4_meanWear_66 : decode cX4_meanWear 66 = .ok (.dreturn, 1) := by decide +kernel
theorem dX4_gradeShare_0 : decode cX4_gradeShare 0 = .ok (.aload_n 0, 1) := by decide +kernel
theorem dX4_gradeShare_1 : decode cX4_gradeShare 1 = .ok (.iconst 0, 1) := by decide +kernel
theorem dX4_gradeShare_2 : decode cX4_gradeShare 2 = .ok (.putfield 54, 3) := by decide +kernel
theorem dX4_gradeShare_5 : decode cX4_gradeShare 5 = .ok (.iload_n 1, 1) := by decide +kernel
theorem dX4_gradeShare_6 : decode cX4_gradeShare 6 = .ok (.i2l, 1) := by decide +kernel
theorem dX4_gradeShare_7 : decode cX4_gradeShare 7 = .ok (.ldc2_w 175, 3) := by decide +kernel
theorem dX4_gradeShare_10 : decode cX4_gradeShare 10 = .ok (.ldc2_w 177, 3) := by decide +kernel
theorem dX4_gradeShare_13 : decode cX4_gradeShare 13 = .ok (.invokestatic 60, 3) := by decide +kernel
theorem dX4_gradeShare_16 : decode cX4_gradeShare 16 = .ok (.ifCond .ne 11, 3) := by decide +kernel
theorem dX4_gradeShare_19 : decode cX4_gradeShare 19 = .ok (.aload_n 0, 1) := by decide +kernel
theorem dX4_gradeShare_20 : decode cX4_gradeShare 20 = .ok (.iconst 1, 1) := by decide +kernel
theorem dX4_gradeShare_21 : decode cX4_gradeShare 21 = .ok (.invokevirtual 81, 3) := by decide +kernel
theorem dX4_gradeShare_24 : decode cX4_gradeShare 24 = .ok (.pop, 1) := by decide +kernel
theorem dX4_gradeShare_25 : decode cX4_gradeShare 25 = .ok (.fconst 0, 1) := by decide +kernel
theorem dX4_gradeShare_26 : decode cX4_gradeShare 26 = .ok (.freturn, 1) := by decide +kernel
theorem dX4_gradeShare_27 : decode cX4_gradeShare 27 = .ok (.aload_n 0, 1) := by decide +kernel
theorem dX4_gradeShare_28 : decode cX4_gradeShare 28 = .ok (.getfield 9, 3) := by decide +kernel
theorem dX4_gradeShare_31 : decode cX4_gradeShare 31 = .ok (.iconst 3, 1) := by decide +kernel
theorem dX4_gradeShare_32 : decode cX4_gradeShare 32 = .ok (.iaload, 1) := by decide +kernel
theorem dX4_gradeShare_33 : decode cX4_gradeShare 33 = .ok (.ifCond .ne 11, 3) := by decide +kernel
theorem dX4_gradeShare_36 : decode cX4_gradeShare 36 = .ok (.aload_n 0, 1) := by decide +kernel
theorem dX4_gradeShare_37 : decode cX4_gradeShare 37 = .ok (.iconst 2, 1) := by decide +kernel
theorem dX4_gradeShare_38 : decode cX4_gradeShare 38 = .ok (.invokevirtual 81, 3) := by decide +kernel
theorem dX4_gradeShare_41 : decode cX4_gradeShare 41 = .ok (.pop, 1) := by decide +kernel
theorem dX4_gradeShare_42 : decode cX4_gradeShare 42 = .ok (.fconst 0, 1) := by decide +kernel
theorem dX4_gradeShare_43 : decode cX4_gradeShare 43 = .ok (.freturn, 1) := by decide +kernel
theorem dX4_gradeShare_44 : decode cX4_gradeShare 44 = .ok (.aload_n 0, 1) := by decide +kernel
theorem dX4_gradeShare_45 : decode cX4_gradeShare 45 = .ok (.iload_n 1, 1) := by decide +kernel
theorem dX4_gradeShare_46 : decode cX4_gradeShare 46 = .ok (.invokevirtual 179, 3) := by decide +kernel
theorem dX4_gradeShare_49 : decode cX4_gradeShare 49 = .ok (.i2f, 1) := by decide +kernel
theorem dX4_gradeShare_50 : decode cX4_gradeShare 50 = .ok (.aload_n 0, 1) := by decide +kernel
theorem dX4_gradeShare_51 : decode cX4_gradeShare 51 = .ok (.getfield 9, 3) := by decide +kernel
theorem dX4_gradeShare_54 : decode cX4_gradeShare 54 = .ok (.iconst 3, 1) := by decide +kernel
theorem dX4_gradeShare_55 : decode cX4_gradeShare 55 = .ok (.iaload, 1) := by decide +kernel
theorem dX4_gradeShare_56 : decode cX4_gradeShare 56 = .ok (.i2f, 1) := by decide +kernel
theorem dX4_gradeShare_57 : decode cX4_gradeShare 57 = .ok (.fdiv, 1) := by decide +kernel
theorem dX4_gradeShare_58 : decode cX4_gradeShare 58 = .ok (.freturn, 1) := by decide +kernel
theorem dX4_isConsistent_0 : decode cX4_isConsistent 0 = .ok (.aload_n 0, 1) := by decide +kernel
theorem dX4_isConsistent_1 : decode cX4_isConsistent 1 = .ok (.iconst 0, 1) := by decide +kernel
theorem dX4_isConsistent_2 : decode cX4_isConsistent 2 = .ok (.putfield 54, 3) := by decide +kernel
theorem dX4_isConsistent_5 : decode cX4_isConsistent 5 = .ok (.iconst 1, 1) := by decide +kernel
theorem dX4_isConsistent_6 : decode cX4_isConsistent 6 = .ok (.ireturn, 1) := by decide +kernel
theorem dX4_sign_0 : decode cX4_sign 0 = .ok (.aload_n 0, 1) := by decide +kernel
theorem dX4_sign_1 : decode cX4_sign 1 = .ok (.getfield 41, 3) := by decide +kernel
theorem dX4_sign_4 : decode cX4_sign 4 = .ok (.aload_n 0, 1) := by decide +kernel
theorem dX4_sign_5 : decode cX4_sign 5 = .ok (.getfield 185, 3) := by decide +kernel
theorem dX4_sign_8 : decode cX4_sign 8 = .ok (.iload_n 1, 1) := by decide +kernel
theorem dX4_sign_9 : decode cX4_sign 9 = .ok (.iastore, 1) := by decide +kernel
theorem dX4_sign_10 : decode cX4_sign 10 = .ok (.aload_n 0, 1) := by decide +kernel
theorem dX4_sign_11 : decode cX4_sign 11 = .ok (.dup, 1) := by decide +kernel
theorem dX4_sign_12 : decode cX4_sign 12 = .ok (.getfield 185, 3) := by decide +kernel
theorem dX4_sign_15 : decode cX4_sign 15 = .ok (.iconst 1, 1) := by decide +kernel
theorem dX4_sign_16 : decode cX4_sign 16 = .ok (.iadd, 1) := by decide +kernel
theorem dX4_sign_17 : decode cX4_sign 17 = .ok (.putfield 185, 3) := by decide +kernel
theorem dX4_sign_20 : decode cX4_sign 20 = .ok (.return_, 1) := by decide +kernel
theorem dX4_writesNumber_0 : decode cX4_writesNumber 0 = .ok (.iconst 1, 1) := by decide +kernel
theorem dX4_writesNumber_1 : decode cX4_writesNumber 1 = .ok (.istore_n 2, 1) := by decide +kernel
theorem dX4_writesNumber_2 : decode cX4_writesNumber 2 = .ok (.iload_n 1, 1) := by decide +kernel
theorem dX4_writesNumber_3 : decode cX4_writesNumber 3 = .ok (.iload_n 2, 1) := by decide +kernel
theorem dX4_writesNumber_4 : decode cX4_writesNumber 4 = .ok (.idiv, 1) := by decide +kernel
theorem dX4_writesNumber_5 : decode cX4_writesNumber 5 = .ok (.bipush 9, 2) := by decide +kernel
theorem dX4_writesNumber_7 : decode cX4_writesNumber 7 = .ok (.if_icmp .le 11, 3) := by decide +kernel
theorem dX4_writesNumber_10 : decode cX4_writesNumber 10 = .ok (.iload_n 2, 1) := by decide +kernel
theorem dX4_writesNumber_11 : decode cX4_writesNumber 11 = .ok (.bipush 10, 2) := by decide +kernel
theorem dX4_writesNumber_13 : decode cX4_writesNumber 13 = .ok (.imul, 1) := by decide +kernel
theorem dX4_writesNumber_14 : decode cX4_writesNumber 14 = .ok (.istore_n 2, 1) := by decide +kernel
theorem dX4_writesNumber_15 : decode cX4_writesNumber 15 = .ok (.goto (-13), 3) := by decide +kernel
theorem dX4_writesNumber_18 : decode cX4_writesNumber 18 = .ok (.iload_n 2, 1) := by decide +kernel
theorem dX4_writesNumber_19 : decode cX4_writesNumber 19 = .ok (.ifCond .le 24, 3) := by decide +kernel
theorem dX4_writesNumber_22 : decode cX4_writesNumber 22 = .ok (.aload_n 0, 1) := by decide +kernel
theorem dX4_writesNumber_23 : decode cX4_writesNumber 23 = .ok (.bipush 48, 2) := by decide +kernel
theorem dX4_writesNumber_25 : decode cX4_writesNumber 25 = .ok (.iload_n 1, 1) := by decide +kernel
theorem dX4_writesNumber_26 : decode cX4_writesNumber 26 = .ok (.iload_n 2, 1) := by decide +kernel
theorem dX4_writesNumber_27 : decode cX4_writesNumber 27 = .ok (.idiv, 1) := by decide +kernel
theorem dX4_writesNumber_28 : decode cX4_writesNumber 28 = .ok (.bipush 10, 2) := by decide +kernel
theorem dX4_writesNumber_30 : decode cX4_writesNumber 30 = .ok (.irem, 1) := by decide +kernel
theorem dX4_writesNumber_31 : decode cX4_writesNumber 31 = .ok (.iadd, 1) := by decide +kernel
theorem dX4_writesNumber_32 : decode cX4_writesNumber 32 = .ok (.invokevirtual 188, 3) := by decide +kernel
theorem dX4_writesNumber_35 : decode cX4_writesNumber 35 = .ok (.iload_n 2, 1) := by decide +kernel
theorem dX4_writesNumber_36 : decode cX4_writesNumber 36 = .ok (.bipush 10, 2) := by decide +kernel
theorem dX4_writesNumber_38 : decode cX4_writesNumber 38 = .ok (.idiv, 1) := by decide +kernel
theorem dX4_writesNumber_39 : decode cX4_writesNumber 39 = .ok (.istore_n 2, 1) := by decide +kernel
theorem dX4_writesNumber_40 : decode cX4_writesNumber 40 = .ok (.goto (-22), 3) := by decide +kernel
theorem dX4_writesNumber_43 : decode cX4_writesNumber 43 = .ok (.return_, 1) := by decide +kernel
theorem dX4_renderDie_0 : decode cX4_renderDie 0 = .ok (.aload_n 0, 1) := by decide +kernel
theorem dX4_renderDie_1 : decode cX4_renderDie 1 = .ok (.iconst 0, 1) := by decide +kernel
theorem dX4_renderDie_2 : decode cX4_renderDie 2 = .ok (.putfield 54, 3) := by decide +kernel
theorem dX4_renderDie_5 : decode cX4_renderDie 5 = .ok (.aload_n 0, 1) := by decide +kernel
theorem dX4_renderDie_6 : decode cX4_renderDie 6 = .ok (.iload_n 1, 1) := by decide +kernel
theorem dX4_renderDie_7 : decode cX4_renderDie 7 = .ok (.invokevirtual 96, 3) := by decide +kernel
theorem dX4_renderDie_10 : decode cX4_renderDie 10 = .ok (.ifCond .ne 9, 3) := by decide +kernel
theorem dX4_renderDie_13 : decode cX4_renderDie 13 = .ok (.aload_n 0, 1) := by decide +kernel
theorem dX4_renderDie_14 : decode cX4_renderDie 14 = .ok (.iconst 1, 1) := by decide +kernel
theorem dX4_renderDie_15 : decode cX4_renderDie 15 = .ok (.invokevirtual 81, 3) := by decide +kernel
theorem dX4_renderDie_18 : decode cX4_renderDie 18 = .ok (.ireturn, 1) := by decide +kernel
theorem dX4_renderDie_19 : decode cX4_renderDie 19 = .ok (.aload_n 0, 1) := by decide +kernel
theorem dX4_renderDie_20 : decode cX4_renderDie 20 = .ok (.iconst 0, 1) := by decide +kernel
theorem dX4_renderDie_21 : decode cX4_renderDie 21 = .ok (.putfield 185, 3) := by decide +kernel
theorem dX4_renderDie_24 : decode cX4_renderDie 24 = .ok (.aload_n 0, 1) := by decide +kernel
theorem dX4_renderDie_25 : decode cX4_renderDie 25 = .ok (.iload_n 1, 1) := by decide +kernel
theorem dX4_renderDie_26 : decode cX4_renderDie 26 = .ok (.invokevirtual 191, 3) := by decide +kernel
theorem dX4_renderDie_29 : decode cX4_renderDie 29 = .ok (.aload_n 0, 1) := by decide +kernel
theorem dX4_renderDie_30 : decode cX4_renderDie 30 = .ok (.bipush 58, 2) := by decide +kernel
theorem dX4_renderDie_32 : decode cX4_renderDie 32 = .ok (.invokevirtual 188, 3) := by decide +kernel
theorem dX4_renderDie_35 : decode cX4_renderDie 35 = .ok (.aload_n 0, 1) := by decide +kernel
theorem dX4_renderDie_36 : decode cX4_renderDie 36 = .ok (.aload_n 0, 1) := by decide +kernel
theorem dX4_renderDie_37 : decode cX4_renderDie 37 = .ok (.getfield 9, 3) := by decide +kernel
theorem dX4_renderDie_40 : decode cX4_renderDie 40 = .ok (.iload_n 1, 1) := by decide +kernel
theorem dX4_renderDie_41 : decode cX4_renderDie 41 = .ok (.invokestatic 64, 3) := by decide +kernel
theorem dX4_renderDie_44 : decode cX4_renderDie 44 = .ok (.iaload, 1) := by decide +kernel
theorem dX4_renderDie_45 : decode cX4_renderDie 45 = .ok (.invokevirtual 191, 3) := by decide +kernel
theorem dX4_renderDie_48 : decode cX4_renderDie 48 = .ok (.aload_n 0, 1) := by decide +kernel
theorem dX4_renderDie_49 : decode cX4_renderDie 49 = .ok (.bipush 119, 2) := by decide +kernel
theorem dX4_renderDie_51 : decode cX4_renderDie 51 = .ok (.invokevirtual 188, 3) := by decide +kernel
theorem dX4_renderDie_54 : decode cX4_renderDie 54 = .ok (.aload_n 0, 1) := by decide +kernel
theorem dX4_renderDie_55 : decode cX4_renderDie 55 = .ok (.aload_n 0, 1) := by decide +kernel
theorem dX4_renderDie_56 : decode cX4_renderDie 56 = .ok (.getfield 9, 3) := by decide +kernel
theorem dX4_renderDie_59 : decode cX4_renderDie 59 = .ok (.iload_n 1, 1) := by decide +kernel
theorem dX4_renderDie_60 : decode cX4_renderDie 60 = .ok (.invokestatic 64, 3) := by decide +kernel
theorem dX4_renderDie_63 : decode cX4_renderDie 63 = .ok (.iconst 1, 1) := by decide +kernel
theorem dX4_renderDie_64 : decode cX4_renderDie 64 = .ok (.iadd, 1) := by decide +kernel
theorem dX4_renderDie_65 : decode cX4_renderDie 65 = .ok (.iaload, 1) := by decide +kernel
theorem dX4_renderDie_66 : decode cX4_renderDie 66 = .ok (.invokevirtual 191, 3) := by decide +kernel
theorem dX4_renderDie_69 : decode cX4_renderDie 69 = .ok (.aload_n 0, 1) := by decide +kernel
theorem dX4_renderDie_70 : decode cX4_renderDie 70 = .ok (.bipush 47, 2) := by decide +kernel
theorem dX4_renderDie_72 : decode cX4_renderDie 72 = .ok (.invokevirtual 188, 3) := by decide +kernel
theorem dX4_renderDie_75 : decode cX4_renderDie 75 = .ok (.aload_n 0, 1) := by decide +kernel
theorem dX4_renderDie_76 : decode cX4_renderDie 76 = .ok (.aload_n 0, 1) := by decide +kernel
theorem dX4_renderDie_77 : decode cX4_renderDie 77 = .ok (.getfield 9, 3) := by decide +kernel
theorem dX4_renderDie_80 : decode cX4_renderDie 80 = .ok (.iload_n 1, 1) := by decide +kernel
theorem dX4_renderDie_81 : decode cX4_renderDie 81 = .ok (.invokestatic 64, 3) := by decide +kernel
theorem dX4_renderDie_84 : decode cX4_renderDie 84 = .ok (.iconst 2, 1) := by decide +kernel
theorem dX4_renderDie_85 : decode cX4_renderDie 85 = .ok (.iadd, 1) := by decide +kernel
theorem dX4_renderDie_86 : decode cX4_renderDie 86 = .ok (.iaload, 1) := by decide +kernel
theorem dX4_renderDie_87 : decode cX4_renderDie 87 = .ok (.invokevirtual 191, 3) := by decide +kernel
theorem dX4_renderDie_90 : decode cX4_renderDie 90 = .ok (.aload_n 0, 1) := by decide +kernel
theorem dX4_renderDie_91 : decode cX4_renderDie 91 = .ok (.getfield 185, 3) := by decide +kernel
theorem dX4_renderDie_94 : decode cX4_renderDie 94 = .ok (.ireturn, 1) := by decide +kernel
theorem dX4_renderVault_0 : decode cX4_renderVault 0 = .ok (.aload_n 0, 1) := by decide +kernel
theorem dX4_renderVault_1 : decode cX4_renderVault 1 = .ok (.iconst 0, 1) := by decide +kernel
theorem dX4_renderVault_2 : decode cX4_renderVault 2 = .ok (.putfield 54, 3) := by decide +kernel
theorem dX4_renderVault_5 : decode cX4_renderVault 5 = .ok (.aload_n 0, 1) := by decide +kernel
theorem dX4_renderVault_6 : decode cX4_renderVault 6 = .ok (.invokevirtual 138, 3) := by decide +kernel
theorem dX4_renderVault_9 : decode cX4_renderVault 9 = .ok (.aload_n 0, 1) := by decide +kernel
theorem dX4_renderVault_10 : decode cX4_renderVault 10 = .ok (.iconst 0, 1) := by decide +kernel
theorem dX4_renderVault_11 : decode cX4_renderVault 11 = .ok (.putfield 185, 3) := by decide +kernel
theorem dX4_renderVault_14 : decode cX4_renderVault 14 = .ok (.iconst 0, 1) := by decide +kernel
theorem dX4_renderVault_15 : decode cX4_renderVault 15 = .ok (.istore_n 1, 1) := by decide +kernel
theorem dX4_renderVault_16 : decode cX4_renderVault 16 = .ok (.iload_n 1, 1) := by decide +kernel
theorem dX4_renderVault_17 : decode cX4_renderVault 17 = .ok (.aload_n 0, 1) := by decide +kernel
theorem dX4_renderVault_18 : decode cX4_renderVault 18 = .ok (.getfield 9, 3) := by decide +kernel
theorem dX4_renderVault_21 : decode cX4_renderVault 21 = .ok (.iconst 0, 1) := by decide +kernel
theorem dX4_renderVault_22 : decode cX4_renderVault 22 = .ok (.iaload, 1) := by decide +kernel
theorem dX4_renderVault_23 : decode cX4_renderVault 23 = .ok (.if_icmp .ge 73, 3) := by decide +kernel
theorem dX4_renderVault_26 : decode cX4_renderVault 26 = .ok (.aload_n 0, 1) := by decide +kernel
theorem dX4_renderVault_27 : decode cX4_renderVault 27 = .ok (.aload_n 0, 1) := by decide +kernel
theorem dX4_renderVault_28 : decode cX4_renderVault 28 = .ok (.getfield 32, 3) := by decide +kernel
theorem dX4_renderVault_31 : decode cX4_renderVault 31 = .ok (.iload_n 1, 1) := by decide +kernel
theorem dX4_renderVault_32 : decode cX4_renderVault 32 = .ok (.iaload, 1) := by decide +kernel
theorem dX4_renderVault_33 : decode cX4_renderVault 33 = .ok (.invokevirtual 144, 3) := by decide +kernel
theorem dX4_renderVault_36 : decode cX4_renderVault 36 = .ok (.ifCond .le 54, 3) := by decide +kernel
theorem dX4_renderVault_39 : decode cX4_renderVault 39 = .ok (.aload_n 0, 1) := by decide +kernel
theorem dX4_renderVault_40 : decode cX4_renderVault 40 = .ok (.getfield 185, 3) := by decide +kernel
theorem dX4_renderVault_43 : decode cX4_renderVault 43 = .ok (.ifCond .le 9, 3) := by decide +kernel
theorem dX4_renderVault_46 : decode cX4_renderVault 46 = .ok (.aload_n 0, 1) := by decide +kernel
theorem dX4_renderVault_47 : decode cX4_renderVault 47 = .ok (.bipush 32, 2) := by decide +kernel
theorem dX4_renderVault_49 : decode cX4_renderVault 49 = .ok (.invokevirtual 188, 3) := by decide +kernel
theorem dX4_renderVault_52 : decode cX4_renderVault 52 = .ok (.aload_n 0, 1) := by decide +kernel
theorem dX4_renderVault_53 : decode cX4_renderVault 53 = .ok (.aload_n 0, 1) := by decide +kernel
theorem dX4_renderVault_54 : decode cX4_renderVault 54 = .ok (.getfield 9, 3) := by decide +kernel
theorem dX4_renderVault_57 : decode cX4_renderVault 57 = .ok (.aload_n 0, 1) := by decide +kernel
theorem dX4_renderVault_58 : decode cX4_renderVault 58 = .ok (.getfield 32, 3) := by decide +kernel
theorem dX4_renderVault_61 : decode cX4_renderVault 61 = .ok (.iload_n 1, 1) := by decide +kernel
theorem dX4_renderVault_62 : decode cX4_renderVault 62 = .ok (.iaload, 1) := by decide +kernel
theorem dX4_renderVault_63 : decode cX4_renderVault 63 = .ok (.invokestatic 64, 3) := by decide +kernel
theorem dX4_renderVault_66 : decode cX4_renderVault 66 = .ok (.iaload, 1) := by decide +kernel
theorem dX4_renderVault_67 : decode cX4_renderVault 67 = .ok (.invokevirtual 191, 3) := by decide +kernel
theorem dX4_renderVault_70 : decode cX4_renderVault 70 = .ok (.aload_n 0, 1) := by decide +kernel
theorem dX4_renderVault_71 : decode cX4_renderVault 71 = .ok (.bipush 120, 2) := by decide +kernel
theorem dX4_renderVault_73 : decode cX4_renderVault 73 = .ok (.invokevirtual 188, 3) := by decide +kernel
theorem dX4_renderVault_76 : decode cX4_renderVault 76 = .ok (.aload_n 0, 1) := by decide +kernel
theorem dX4_renderVault_77 : decode cX4_renderVault 77 = .ok (.aload_n 0, 1) := by decide +kernel
theorem dX4_renderVault_78 : decode cX4_renderVault 78 = .ok (.aload_n 0, 1) := by decide +kernel
theorem dX4_renderVault_79 : decode cX4_renderVault 79 = .ok (.getfield 32, 3) := by decide +kernel
theorem dX4_renderVault_82 : decode cX4_renderVault 82 = .ok (.iload_n 1, 1) := by decide +kernel
theorem dX4_renderVault_83 : decode cX4_renderVault 83 = .ok (.iaload, 1) := by decide +kernel
theorem dX4_renderVault_84 : decode cX4_renderVault 84 = .ok (.invokevirtual 144, 3) := by decide +kernel
theorem dX4_renderVault_87 : decode cX4_renderVault 87 = .ok (.invokevirtual 191, 3) := by decide +kernel
theorem dX4_renderVault_90 : decode cX4_renderVault 90 = .ok (.iinc 1 1, 3) := by decide +kernel
theorem dX4_renderVault_93 : decode cX4_renderVault 93 = .ok (.goto (-77), 3) := by decide +kernel
theorem dX4_renderVault_96 : decode cX4_renderVault 96 = .ok (.aload_n 0, 1) := by decide +kernel
theorem dX4_renderVault_97 : decode cX4_renderVault 97 = .ok (.getfield 185, 3) := by decide +kernel
theorem dX4_renderVault_100 : decode cX4_renderVault 100 = .ok (.ireturn, 1) := by decide +kernel
theorem dX4_outputAt_0 : decode cX4_outputAt 0 = .ok (.aload_n 0, 1) := by decide +kernel
theorem dX4_outputAt_1 : decode cX4_outputAt 1 = .ok (.iconst 0, 1) := by decide +kernel
theorem dX4_outputAt_2 : decode cX4_outputAt 2 = .ok (.putfield 54, 3) := by decide +kernel
theorem dX4_outputAt_5 : decode cX4_outputAt 5 = .ok (.iload_n 1, 1) := by decide +kernel
theorem dX4_outputAt_6 : decode cX4_outputAt 6 = .ok (.i2l, 1) := by decide +kernel
theorem dX4_outputAt_7 : decode cX4_outputAt 7 = .ok (.lconst 0, 1) := by decide +kernel
theorem dX4_outputAt_8 : decode cX4_outputAt 8 = .ok (.aload_n 0, 1) := by decide +kernel
theorem dX4_outputAt_9 : decode cX4_outputAt 9 = .ok (.getfield 185, 3) := by decide +kernel
theorem dX4_outputAt_12 : decode cX4_outputAt 12 = .ok (.iconst 1, 1) := by decide +kernel
theorem dX4_outputAt_13 : decode cX4_outputAt 13 = .ok (.isub, 1) := by decide +kernel
theorem dX4_outputAt_14 : decode cX4_outputAt 14 = .ok (.i2l, 1) := by decide +kernel
theorem dX4_outputAt_15 : decode cX4_outputAt 15 = .ok (.invokestatic 60, 3) := by decide +kernel
theorem dX4_outputAt_18 : decode cX4_outputAt 18 = .ok (.ifCond .eq 13, 3) := by decide +kernel
theorem dX4_outputAt_21 : decode cX4_outputAt 21 = .ok (.aload_n 0, 1) := by decide +kernel
theorem dX4_outputAt_22 : decode cX4_outputAt 22 = .ok (.getfield 41, 3) := by decide +kernel
theorem dX4_outputAt_25 : decode cX4_outputAt 25 = .ok (.iload_n 1, 1) := by decide +kernel
theorem dX4_outputAt_26 : decode cX4_outputAt 26 = .ok (.iaload, 1) := by decide +kernel
theorem dX4_outputAt_27 : decode cX4_outputAt 27 = .ok (.i2c, 1) := by decide +kernel
theorem dX4_outputAt_28 : decode cX4_outputAt 28 = .ok (.goto 9, 3) := by decide +kernel
theorem dX4_outputAt_31 : decode cX4_outputAt 31 = .ok (.aload_n 0, 1) := by decide +kernel
theorem dX4_outputAt_32 : decode cX4_outputAt 32 = .ok (.iconst 1, 1) := by decide +kernel
theorem dX4_outputAt_33 : decode cX4_outputAt 33 = .ok (.invokevirtual 81, 3) := by decide +kernel
theorem dX4_outputAt_36 : decode cX4_outputAt 36 = .ok (.i2c, 1) := by decide +kernel
theorem dX4_outputAt_37 : decode cX4_outputAt 37 = .ok (.ireturn, 1) := by decide +kernel
theorem dX4_type_0 : decode cX4_type 0 = .ok (.aload_n 0, 1) := by decide +kernel
theorem dX4_type_1 : decode cX4_type 1 = .ok (.iconst 0, 1) := by decide +kernel
theorem dX4_type_2 : decode cX4_type 2 = .ok (.putfield 54, 3) := by decide +kernel
theorem dX4_type_5 : decode cX4_type 5 = .ok (.iload_n 1, 1) := by decide +kernel
theorem dX4_type_6 : decode cX4_type 6 = .ok (.i2l, 1) := by decide +kernel
theorem dX4_type_7 : decode cX4_type 7 = .ok (.ldc2_w 194, 3) := by decide +kernel
theorem dX4_type_10 : decode cX4_type 10 = .ok (.ldc2_w 196, 3) := by decide +kernel
theorem dX4_type_13 : decode cX4_type 13 = .ok (.invokestatic 60, 3) := by decide +kernel
theorem dX4_type_16 : decode cX4_type 16 = .ok (.ifCond .ne 9, 3) := by decide +kernel
theorem dX4_type_19 : decode cX4_type 19 = .ok (.aload_n 0, 1) := by decide +kernel
theorem dX4_type_20 : decode cX4_type 20 = .ok (.iconst 1, 1) := by decide +kernel
theorem dX4_type_21 : decode cX4_type 21 = .ok (.invokevirtual 81, 3) := by decide +kernel
theorem dX4_type_24 : decode cX4_type 24 = .ok (.ireturn, 1) := by decide +kernel
theorem dX4_type_25 : decode cX4_type 25 = .ok (.aload_n 0, 1) := by decide +kernel
theorem dX4_type_26 : decode cX4_type 26 = .ok (.getfield 198, 3) := by decide +kernel
theorem dX4_type_29 : decode cX4_type 29 = .ok (.bipush 60, 2) := by decide +kernel
theorem dX4_type_31 : decode cX4_type 31 = .ok (.if_icmp .ne 9, 3) := by decide +kernel
theorem dX4_type_34 : decode cX4_type 34 = .ok (.aload_n 0, 1) := by decide +kernel
theorem dX4_type_35 : decode cX4_type 35 = .ok (.iconst 2, 1) := by decide +kernel
theorem dX4_type_36 : decode cX4_type 36 = .ok (.invokevirtual 81, 3) := by decide +kernel
theorem dX4_type_39 : decode cX4_type 39 = .ok (.ireturn, 1) := by decide +kernel
theorem dX4_type_40 : decode cX4_type 40 = .ok (.aload_n 0, 1) := by decide +kernel
theorem dX4_type_41 : decode cX4_type 41 = .ok (.getfield 29, 3) := by decide +kernel
theorem dX4_type_44 : decode cX4_type 44 = .ok (.aload_n 0, 1) := by decide +kernel
theorem dX4_type_45 : decode cX4_type 45 = .ok (.getfield 198, 3) := by decide +kernel
theorem dX4_type_48 : decode cX4_type 48 = .ok (.iload_n 1, 1) := by decide +kernel
theorem dX4_type_49 : decode cX4_type 49 = .ok (.iastore, 1) := by decide +kernel
theorem dX4_type_50 : decode cX4_type 50 = .ok (.aload_n 0, 1) := by decide +kernel
theorem dX4_type_51 : decode cX4_type 51 = .ok (.dup, 1) := by decide +kernel
theorem dX4_type_52 : decode cX4_type 52 = .ok (.getfield 198, 3) := by decide +kernel
theorem dX4_type_55 : decode cX4_type 55 = .ok (.iconst 1, 1) := by decide +kernel
theorem dX4_type_56 : decode cX4_type 56 = .ok (.iadd, 1) := by decide +kernel
theorem dX4_type_57 : decode cX4_type 57 = .ok (.putfield 198, 3) := by decide +kernel
theorem dX4_type_60 : decode cX4_type 60 = .ok (.aload_n 0, 1) := by decide +kernel
theorem dX4_type_61 : decode cX4_type 61 = .ok (.getfield 198, 3) := by decide +kernel
theorem dX4_type_64 : decode cX4_type 64 = .ok (.ireturn, 1) := by decide +kernel
theorem dX4_here_0 : decode cX4_here 0 = .ok (.aload_n 0, 1) := by decide +kernel
theorem dX4_here_1 : decode cX4_here 1 = .ok (.getfield 201, 3) := by decide +kernel
theorem dX4_here_4 : decode cX4_here 4 = .ok (.aload_n 0, 1) := by decide +kernel
theorem dX4_here_5 : decode cX4_here 5 = .ok (.getfield 204, 3) := by decide +kernel
theorem dX4_here_8 : decode cX4_here 8 = .ok (.if_icmp .ge 15, 3) := by decide +kernel
theorem dX4_here_11 : decode cX4_here 11 = .ok (.aload_n 0, 1) := by decide +kernel
theorem dX4_here_12 : decode cX4_here 12 = .ok (.getfield 29, 3) := by decide +kernel
theorem dX4_here_15 : decode cX4_here 15 = .ok (.aload_n 0, 1) := by decide +kernel
theorem dX4_here_16 : decode cX4_here 16 = .ok (.getfield 201, 3) := by decide +kernel
theorem dX4_here_19 : decode cX4_here 19 = .ok (.iaload, 1) := by decide +kernel
theorem dX4_here_20 : decode cX4_here 20 = .ok (.goto 4, 3) := by decide +kernel
theorem dX4_here_23 : decode cX4_here 23 = .ok (.iconst (-1), 1) := by decide +kernel
theorem dX4_here_24 : decode cX4_here 24 = .ok (.ireturn, 1) := by decide +kernel
theorem dX4_expects_0 : decode cX4_expects 0 = .ok (.aload_n 0, 1) := by decide +kernel
theorem dX4_expects_1 : decode cX4_expects 1 = .ok (.aload_n 0, 1) := by decide +kernel
theorem dX4_expects_2 : decode cX4_expects 2 = .ok (.getfield 207, 3) := by decide +kernel
theorem dX4_expects_5 : decode cX4_expects 5 = .ok (.ifCond .ne 11, 3) := by decide +kernel
theorem dX4_expects_8 : decode cX4_expects 8 = .ok (.aload_n 0, 1) := by decide +kernel
theorem dX4_expects_9 : decode cX4_expects 9 = .ok (.invokevirtual 211, 3) := by decide +kernel
theorem dX4_expects_12 : decode cX4_expects 12 = .ok (.iload_n 1, 1) := by decide +kernel
theorem dX4_expects_13 : decode cX4_expects 13 = .ok (.if_icmp .eq 7, 3) := by decide +kernel
theorem dX4_expects_16 : decode cX4_expects 16 = .ok (.iconst 1, 1) := by decide +kernel
theorem dX4_expects_17 : decode cX4_expects 17 = .ok (.goto 4, 3) := by decide +kernel
theorem dX4_expects_20 : decode cX4_expects 20 = .ok (.iconst 0, 1) := by decide +kernel
theorem dX4_expects_21 : decode cX4_expects 21 = .ok (.putfield 207, 3) := by decide +kernel
theorem dX4_expects_24 : decode cX4_expects 24 = .ok (.aload_n 0, 1) := by decide +kernel
theorem dX4_expects_25 : decode cX4_expects 25 = .ok (.dup, 1) := by decide +kernel
theorem dX4_expects_26 : decode cX4_expects 26 = .ok (.getfield 201, 3) := by decide +kernel
theorem dX4_expects_29 : decode cX4_expects 29 = .ok (.aload_n 0, 1) := by decide +kernel
theorem dX4_expects_30 : decode cX4_expects 30 = .ok (.getfield 207, 3) := by decide +kernel
theorem dX4_expects_33 : decode cX4_expects 33 = .ok (.ifCond .eq 7, 3) := by decide +kernel
theorem dX4_expects_36 : decode cX4_expects 36 = .ok (.iconst 0, 1) := by decide +kernel
theorem dX4_expects_37 : decode cX4_expects 37 = .ok (.goto 4, 3) := by decide +kernel
theorem dX4_expects_40 : decode cX4_expects 40 = .ok (.iconst 1, 1) := by decide +kernel
theorem dX4_expects_41 : decode cX4_expects 41 = .ok (.iadd, 1) := by decide +kernel
theorem dX4_expects_42 : decode cX4_expects 42 = .ok (.putfield 201, 3) := by decide +kernel
theorem dX4_expects_45 : decode cX4_expects 45 = .ok (.return_, 1) := by decide +kernel
theorem dX4_digit_0 : decode cX4_digit 0 = .ok (.aload_n 0, 1) := by decide +kernel
theorem dX4_digit_1 : decode cX4_digit 1 = .ok (.aload_n 0, 1) := by decide +kernel
theorem dX4_digit_2 : decode cX4_digit 2 = .ok (.getfield 207, 3) := by decide +kernel
theorem dX4_digit_5 : decode cX4_digit 5 = .ok (.ifCond .ne 20, 3) := by decide +kernel
theorem dX4_digit_8 : decode cX4_digit 8 = .ok (.aload_n 0, 1) := by decide +kernel
theorem dX4_digit_9 : decode cX4_digit 9 = .ok (.invokevirtual 211, 3) := by decide +kernel
theorem dX4_digit_12 : decode cX4_digit 12 = .ok (.i2l, 1) := by decide +kernel
theorem dX4_digit_13 : decode cX4_digit 13 = .ok (.ldc2_w 214, 3) := by decide +kernel
theorem dX4_digit_16 : decode cX4_digit 16 = .ok (.ldc2_w 216, 3) := by decide +kernel
theorem dX4_digit_19 : decode cX4_digit 19 = .ok (.invokestatic 60, 3) := by decide +kernel
theorem dX4_digit_22 : decode cX4_digit 22 = .ok (.ifCond .ne 7, 3) := by decide +kernel
theorem dX4_digit_25 : decode cX4_digit 25 = .ok (.iconst 1, 1) := by decide +kernel
theorem dX4_digit_26 : decode cX4_digit 26 = .ok (.goto 4, 3) := by decide +kernel
theorem dX4_digit_29 : decode cX4_digit 29 = .ok (.iconst 0, 1) := by decide +kernel
theorem dX4_digit_30 : decode cX4_digit 30 = .ok (.putfield 207, 3) := by decide +kernel
theorem dX4_digit_33 : decode cX4_digit 33 = .ok (.aload_n 0, 1) := by decide +kernel
theorem dX4_digit_34 : decode cX4_digit 34 = .ok (.getfield 207, 3) := by decide +kernel
theorem dX4_digit_37 : decode cX4_digit 37 = .ok (.ifCond .eq 7, 3) := by decide +kernel
theorem dX4_digit_40 : decode cX4_digit 40 = .ok (.iconst 0, 1) := by decide +kernel
theorem dX4_digit_41 : decode cX4_digit 41 = .ok (.goto 10, 3) := by decide +kernel
theorem dX4_digit_44 : decode cX4_digit 44 = .ok (.aload_n 0, 1) := by decide +kernel
theorem dX4_digit_45 : decode cX4_digit 45 = .ok (.invokevirtual 211, 3) := by decide +kernel
theorem dX4_digit_48 : decode cX4_digit 48 = .ok (.bipush 48, 2) := by decide +kernel
theorem dX4_digit_50 : decode cX4_digit 50 = .ok (.isub, 1) := by decide +kernel
theorem dX4_digit_51 : decode cX4_digit 51 = .ok (.istore_n 1, 1) := by decide +kernel
theorem dX4_digit_52 : decode cX4_digit 52 = .ok (.aload_n 0, 1) := by decide +kernel
theorem dX4_digit_53 : decode cX4_digit 53 = .ok (.dup, 1) := by decide +kernel
theorem dX4_digit_54 : decode cX4_digit 54 = .ok (.getfield 201, 3) := by decide +kernel
theorem dX4_digit_57 : decode cX4_digit 57 = .ok (.aload_n 0, 1) := by decide +kernel
theorem dX4_digit_58 : decode cX4_digit 58 = .ok (.getfield 207, 3) := by decide +kernel
theorem dX4_digit_61 : decode cX4_digit 61 = .ok (.ifCond .eq 7, 3) := by decide +kernel
theorem dX4_digit_64 : decode cX4_digit 64 = .ok (.iconst 0, 1) := by decide +kernel
theorem dX4_digit_65 : decode cX4_digit 65 = .ok (.goto 4, 3) := by decide +kernel
theorem dX4_digit_68 : decode cX4_digit 68 = .ok (.iconst 1, 1) := by decide +kernel
theorem dX4_digit_69 : decode cX4_digit 69 = .ok (.iadd, 1) := by decide +kernel
theorem dX4_digit_70 : decode cX4_digit 70 = .ok (.putfield 201, 3) := by decide +kernel
theorem dX4_digit_73 : decode cX4_digit 73 = .ok (.iload_n 1, 1) := by decide +kernel
theorem dX4_digit_74 : decode cX4_digit 74 = .ok (.ireturn, 1) := by decide +kernel
theorem dX4_number_0 : decode cX4_number 0 = .ok (.aload_n 0, 1) := by decide +kernel
theorem dX4_number_1 : decode cX4_number 1 = .ok (.invokevirtual 218, 3) := by decide +kernel
theorem dX4_number_4 : decode cX4_number 4 = .ok (.istore_n 1, 1) := by decide +kernel
theorem dX4_number_5 : decode cX4_number 5 = .ok (.aload_n 0, 1) := by decide +kernel
theorem dX4_number_6 : decode cX4_number 6 = .ok (.getfield 207, 3) := by decide +kernel
theorem dX4_number_9 : decode cX4_number 9 = .ok (.ifCond .ne 32, 3) := by decide +kernel
theorem dX4_number_12 : decode cX4_number 12 = .ok (.aload_n 0, 1) := by decide +kernel
theorem dX4_number_13 : decode cX4_number 13 = .ok (.invokevirtual 211, 3) := by decide +kernel
theorem dX4_number_16 : decode cX4_number 16 = .ok (.i2l, 1) := by decide +kernel
theorem dX4_number_17 : decode cX4_number 17 = .ok (.ldc2_w 214, 3) := by decide +kernel
theorem dX4_number_20 : decode cX4_number 20 = .ok (.ldc2_w 216, 3) := by decide +kernel
theorem dX4_number_23 : decode cX4_number 23 = .ok (.invokestatic 60, 3) := by decide +kernel
theorem dX4_number_26 : decode cX4_number 26 = .ok (.ifCond .eq 15, 3) := by decide +kernel
theorem dX4_number_29 : decode cX4_number 29 = .ok (.bipush 10, 2) := by decide +kernel
theorem dX4_number_31 : decode cX4_number 31 = .ok (.iload_n 1, 1) := by decide +kernel
theorem dX4_number_32 : decode cX4_number 32 = .ok (.imul, 1) := by decide +kernel
theorem dX4_number_33 : decode cX4_number 33 = .ok (.aload_n 0, 1) := by decide +kernel
theorem dX4_number_34 : decode cX4_number 34 = .ok (.invokevirtual 218, 3) := by decide +kernel
theorem dX4_number_37 : decode cX4_number 37 = .ok (.iadd, 1) := by decide +kernel
theorem dX4_number_38 : decode cX4_number 38 = .ok (.goto 4, 3) := by decide +kernel
theorem dX4_number_41 : decode cX4_number 41 = .ok (.iload_n 1, 1) := by decide +kernel
theorem dX4_number_42 : decode cX4_number 42 = .ok (.ireturn, 1) := by decide +kernel
theorem dX4_digitBehind_0 : decode cX4_digitBehind 0 = .ok (.aload_n 0, 1) := by decide +kernel
theorem dX4_digitBehind_1 : decode cX4_digitBehind 1 = .ok (.bipush 32, 2) := by decide +kernel
theorem dX4_digitBehind_3 : decode cX4_digitBehind 3 = .ok (.invokevirtual 221, 3) := by decide +kernel
theorem dX4_digitBehind_6 : decode cX4_digitBehind 6 = .ok (.aload_n 0, 1) := by decide +kernel
theorem dX4_digitBehind_7 : decode cX4_digitBehind 7 = .ok (.invokevirtual 218, 3) := by decide +kernel
theorem dX4_digitBehind_10 : decode cX4_digitBehind 10 = .ok (.ireturn, 1) := by decide +kernel
theorem dX4_numberBehind_0 : decode cX4_numberBehind 0 = .ok (.aload_n 0, 1) := by decide +kernel
theorem dX4_numberBehind_1 : decode cX4_numberBehind 1 = .ok (.bipush 32, 2) := by decide +kernel
theorem dX4_numberBehind_3 : decode cX4_numberBehind 3 = .ok (.invokevirtual 221, 3) := by decide +kernel
theorem dX4_numberBehind_6 : decode cX4_numberBehind 6 = .ok (.aload_n 0, 1) := by decide +kernel
theorem dX4_numberBehind_7 : decode cX4_numberBehind 7 = .ok (.invokevirtual 224, 3) := by decide +kernel
theorem dX4_numberBehind_10 : decode cX4_numberBehind 10 = .ok (.ireturn, 1) := by decide +kernel
theorem dX4_likeness_0 : decode cX4_likeness 0 = .ok (.iconst 0, 1) := by decide +kernel
theorem dX4_likeness_1 : decode cX4_likeness 1 = .ok (.istore_n 2, 1) := by decide +kernel
theorem dX4_likeness_2 : decode cX4_likeness 2 = .ok (.aload_n 0, 1) := by decide +kernel
theorem dX4_likeness_3 : decode cX4_likeness 3 = .ok (.getfield 48, 3) := by decide +kernel
theorem dX4_likeness_6 : decode cX4_likeness 6 = .ok (.iload_n 1, 1) := by decide +kernel
theorem dX4_likeness_7 : decode cX4_likeness 7 = .ok (.iconst 1, 1) := by decide +kernel
theorem dX4_likeness_8 : decode cX4_likeness 8 = .ok (.iadd, 1) := by decide +kernel
theorem dX4_likeness_9 : decode cX4_likeness 9 = .ok (.iaload, 1) := by decide +kernel
theorem dX4_likeness_10 : decode cX4_likeness 10 = .ok (.aload_n 0, 1) := by decide +kernel
theorem dX4_likeness_11 : decode cX4_likeness 11 = .ok (.getfield 48, 3) := by decide +kernel
theorem dX4_likeness_14 : decode cX4_likeness 14 = .ok (.iload_n 1, 1) := by decide +kernel
theorem dX4_likeness_15 : decode cX4_likeness 15 = .ok (.iaload, 1) := by decide +kernel
theorem dX4_likeness_16 : decode cX4_likeness 16 = .ok (.isub, 1) := by decide +kernel
theorem dX4_likeness_17 : decode cX4_likeness 17 = .ok (.istore_n 3, 1) := by decide +kernel
theorem dX4_likeness_18 : decode cX4_likeness 18 = .ok (.iload_n 2, 1) := by decide +kernel
theorem dX4_likeness_19 : decode cX4_likeness 19 = .ok (.iload_n 3, 1) := by decide +kernel
theorem dX4_likeness_20 : decode cX4_likeness 20 = .ok (.if_icmp .ge 49, 3) := by decide +kernel
theorem dX4_likeness_23 : decode cX4_likeness 23 = .ok (.aload_n 0, 1) := by decide +kernel
theorem dX4_likeness_24 : decode cX4_likeness 24 = .ok (.getfield 201, 3) := by decide +kernel
theorem dX4_likeness_27 : decode cX4_likeness 27 = .ok (.iload_n 2, 1) := by decide +kernel
theorem dX4_likeness_28 : decode cX4_likeness 28 = .ok (.iadd, 1) := by decide +kernel
theorem dX4_likeness_29 : decode cX4_likeness 29 = .ok (.aload_n 0, 1) := by decide +kernel
theorem dX4_likeness_30 : decode cX4_likeness 30 = .ok (.getfield 204, 3) := by decide +kernel
theorem dX4_likeness_33 : decode cX4_likeness 33 = .ok (.if_icmp .ge 36, 3) := by decide +kernel
theorem dX4_likeness_36 : decode cX4_likeness 36 = .ok (.aload_n 0, 1) := by decide +kernel
theorem dX4_likeness_37 : decode cX4_likeness 37 = .ok (.getfield 29, 3) := by decide +kernel
theorem dX4_likeness_40 : decode cX4_likeness 40 = .ok (.aload_n 0, 1) := by decide +kernel
theorem dX4_likeness_41 : decode cX4_likeness 41 = .ok (.getfield 201, 3) := by decide +kernel
theorem dX4_likeness_44 : decode cX4_likeness 44 = .ok (.iload_n 2, 1) := by decide +kernel
theorem dX4_likeness_45 : decode cX4_likeness 45 = .ok (.iadd, 1) := by decide +kernel
theorem dX4_likeness_46 : decode cX4_likeness 46 = .ok (.iaload, 1) := by decide +kernel
theorem dX4_likeness_47 : decode cX4_likeness 47 = .ok (.aload_n 0, 1) := by decide +kernel
theorem dX4_likeness_48 : decode cX4_likeness 48 = .ok (.getfield 44, 3) := by decide +kernel
theorem dX4_likeness_51 : decode cX4_likeness 51 = .ok (.aload_n 0, 1) := by decide +kernel
theorem dX4_likeness_52 : decode cX4_likeness 52 = .ok (.getfield 48, 3) := by decide +kernel
theorem dX4_likeness_55 : decode cX4_likeness 55 = .ok (.iload_n 1, 1) := by decide +kernel
theorem dX4_likeness_56 : decode cX4_likeness 56 = .ok (.iaload, 1) := by decide +kernel
theorem dX4_likeness_57 : decode cX4_likeness 57 = .ok (.iload_n 2, 1) := by decide +kernel
theorem dX4_likeness_58 : decode cX4_likeness 58 = .ok (.iadd, 1) := by decide +kernel
theorem dX4_likeness_59 : decode cX4_likeness 59 = .ok (.caload, 1) := by decide +kernel
theorem dX4_likeness_60 : decode cX4_likeness 60 = .ok (.if_icmp .ne 9, 3) := by decide +kernel
theorem dX4_likeness_63 : decode cX4_likeness 63 = .ok (.iinc 2 1, 3) := by decide +kernel
theorem dX4_likeness_66 : decode cX4_likeness 66 = .ok (.goto (-48), 3) := by decide +kernel
theorem dX4_likeness_69 : decode cX4_likeness 69 = .ok (.iload_n 2, 1) := by decide +kernel
theorem dX4_likeness_70 : decode cX4_likeness 70 = .ok (.ireturn, 1) := by decide +kernel
theorem dX4_readArguments_0 : decode cX4_readArguments 0 = .ok (.iload_n 1, 1) := by decide +kernel
theorem dX4_readArguments_1 : decode cX4_readArguments 1 = .ok (.tableswitch 124 0 4 #[35, 60, 124, 73, 98], 35) := by decide +kernel
theorem dX4_readArguments_36 : decode cX4_readArguments 36 = .ok (.aload_n 0, 1) := by decide +kernel
theorem dX4_readArguments_37 : decode cX4_readArguments 37 = .ok (.getfield 51, 3) := by decide +kernel
theorem dX4_readArguments_40 : decode cX4_readArguments 40 = .ok (.iload_n 2, 1) := by decide +kernel
theorem dX4_readArguments_41 : decode cX4_readArguments 41 = .ok (.aload_n 0, 1) := by decide +kernel
theorem dX4_readArguments_42 : decode cX4_readArguments 42 = .ok (.invokevirtual 224, 3) := by decide +kernel
theorem dX4_readArguments_45 : decode cX4_readArguments 45 = .ok (.iastore, 1) := by decide +kernel
theorem dX4_readArguments_46 : decode cX4_readArguments 46 = .ok (.aload_n 0, 1) := by decide +kernel
theorem dX4_readArguments_47 : decode cX4_readArguments 47 = .ok (.getfield 51, 3) := by decide +kernel
theorem dX4_readArguments_50 : decode cX4_readArguments 50 = .ok (.iload_n 2, 1) := by decide +kernel
theorem dX4_readArguments_51 : decode cX4_readArguments 51 = .ok (.iconst 1, 1) := by decide +kernel
theorem dX4_readArguments_52 : decode cX4_readArguments 52 = .ok (.iadd, 1) := by decide +kernel
theorem dX4_readArguments_53 : decode cX4_readArguments 53 = .ok (.aload_n 0, 1) := by decide +kernel
theorem dX4_readArguments_54 : decode cX4_readArguments 54 = .ok (.invokevirtual 227, 3) := by decide +kernel
theorem dX4_readArguments_57 : decode cX4_readArguments 57 = .ok (.iastore, 1) := by decide +kernel
theorem dX4_readArguments_58 : decode cX4_readArguments 58 = .ok (.goto 77, 3) := by decide +kernel
theorem dX4_readArguments_61 : decode cX4_readArguments 61 = .ok (.aload_n 0, 1) := by decide +kernel
theorem dX4_readArguments_62 : decode cX4_readArguments 62 = .ok (.getfield 51, 3) := by decide +kernel
theorem dX4_readArguments_65 : decode cX4_readArguments 65 = .ok (.iload_n 2, 1) := by decide +kernel
theorem dX4_readArguments_66 : decode cX4_readArguments 66 = .ok (.aload_n 0, 1) := by decide +kernel
theorem dX4_readArguments_67 : decode cX4_readArguments 67 = .ok (.invokevirtual 218, 3) := by decide +kernel
theorem dX4_readArguments_70 : decode cX4_readArguments 70 = .ok (.iastore, 1) := by decide +kernel
theorem dX4_readArguments_71 : decode cX4_readArguments 71 = .ok (.goto 64, 3) := by decide +kernel
theorem dX4_readArguments_74 : decode cX4_readArguments 74 = .ok (.aload_n 0, 1) := by decide +kernel
theorem dX4_readArguments_75 : decode cX4_readArguments 75 = .ok (.getfield 51, 3) := by decide +kernel
theorem dX4_readArguments_78 : decode cX4_readArguments 78 = .ok (.iload_n 2, 1) := by decide +kernel
theorem dX4_readArguments_79 : decode cX4_readArguments 79 = .ok (.aload_n 0, 1) := by decide +kernel
theorem dX4_readArguments_80 : decode cX4_readArguments 80 = .ok (.invokevirtual 218, 3) := by decide +kernel
theorem dX4_readArguments_83 : decode cX4_readArguments 83 = .ok (.iastore, 1) := by decide +kernel
theorem dX4_readArguments_84 : decode cX4_readArguments 84 = .ok (.aload_n 0, 1) := by decide +kernel
theorem dX4_readArguments_85 : decode cX4_readArguments 85 = .ok (.getfield 51, 3) := by decide +kernel
theorem dX4_readArguments_88 : decode cX4_readArguments 88 = .ok (.iload_n 2, 1) := by decide +kernel
theorem dX4_readArguments_89 : decode cX4_readArguments 89 = .ok (.iconst 1, 1) := by decide +kernel
theorem dX4_readArguments_90 : decode cX4_readArguments 90 = .ok (.iadd, 1) := by decide +kernel
theorem dX4_readArguments_91 : decode cX4_readArguments 91 = .ok (.aload_n 0, 1) := by decide +kernel
theorem dX4_readArguments_92 : decode cX4_readArguments 92 = .ok (.invokevirtual 227, 3) := by decide +kernel
theorem dX4_readArguments_95 : decode cX4_readArguments 95 = .ok (.iastore, 1) := by decide +kernel
theorem dX4_readArguments_96 : decode cX4_readArguments 96 = .ok (.goto 39, 3) := by decide +kernel
theorem dX4_readArguments_99 : decode cX4_readArguments 99 = .ok (.aload_n 0, 1) := by decide +kernel
theorem dX4_readArguments_100 : decode cX4_readArguments 100 = .ok (.getfield 51, 3) := by decide +kernel
theorem dX4_readArguments_103 : decode cX4_readArguments 103 = .ok (.iload_n 2, 1) := by decide +kernel
theorem dX4_readArguments_104 : decode cX4_readArguments 104 = .ok (.aload_n 0, 1) := by decide +kernel
theorem dX4_readArguments_105 : decode cX4_readArguments 105 = .ok (.invokevirtual 211, 3) := by decide +kernel
theorem dX4_readArguments_108 : decode cX4_readArguments 108 = .ok (.bipush 32, 2) := by decide +kernel
theorem dX4_readArguments_110 : decode cX4_readArguments 110 = .ok (.if_icmp .ne 10, 3) := by decide +kernel
theorem dX4_readArguments_113 : decode cX4_readArguments 113 = .ok (.aload_n 0, 1) := by decide +kernel
theorem dX4_readArguments_114 : decode cX4_readArguments 114 = .ok (.invokevirtual 230, 3) := by decide +kernel
theorem dX4_readArguments_117 : decode cX4_readArguments 117 = .ok (.goto 4, 3) := by decide +kernel
theorem dX4_readArguments_120 : decode cX4_readArguments 120 = .ok (.iconst 1, 1) := by decide +kernel
theorem dX4_readArguments_121 : decode cX4_readArguments 121 = .ok (.iastore, 1) := by decide +kernel
theorem dX4_readArguments_122 : decode cX4_readArguments 122 = .ok (.goto 13, 3) := by decide +kernel
theorem dX4_readArguments_125 : decode cX4_readArguments 125 = .ok (.aload_n 0, 1) := by decide +kernel
theorem dX4_readArguments_126 : decode cX4_readArguments 126 = .ok (.getfield 51, 3) := by decide +kernel
theorem dX4_readArguments_129 : decode cX4_readArguments 129 = .ok (.iload_n 2, 1) := by decide +kernel
theorem dX4_readArguments_130 : decode cX4_readArguments 130 = .ok (.aload_n 0, 1) := by decide +kernel
theorem dX4_readArguments_131 : decode cX4_readArguments 131 = .ok (.invokevirtual 224, 3) := by decide +kernel
theorem dX4_readArguments_134 : decode cX4_readArguments 134 = .ok (.iastore, 1) := by decide +kernel
theorem dX4_readArguments_135 : decode cX4_readArguments 135 = .ok (.return_, 1) := by decide +kernel
theorem dX4_readCommand_0 : decode cX4_readCommand 0 = .ok (.iconst 3, 1) := by decide +kernel
theorem dX4_readCommand_1 : decode cX4_readCommand 1 = .ok (.aload_n 0, 1) := by decide +kernel
theorem dX4_readCommand_2 : decode cX4_readCommand 2 = .ok (.getfield 233, 3) := by decide +kernel
theorem dX4_readCommand_5 : decode cX4_readCommand 5 = .ok (.imul, 1) := by decide +kernel
theorem dX4_readCommand_6 : decode cX4_readCommand 6 = .ok (.istore_n 1, 1) := by decide +kernel
theorem dX4_readCommand_7 : decode cX4_readCommand 7 = .ok (.iconst 0, 1) := by decide +kernel
theorem dX4_readCommand_8 : decode cX4_readCommand 8 = .ok (.istore_n 2, 1) := by decide +kernel
theorem dX4_readCommand_9 : decode cX4_readCommand 9 = .ok (.iconst 1, 1) := by decide +kernel
theorem dX4_readCommand_10 : decode cX4_readCommand 10 = .ok (.istore_n 3, 1) := by decide +kernel
theorem dX4_readCommand_11 : decode cX4_readCommand 11 = .ok (.iload_n 3, 1) := by decide +kernel
theorem dX4_readCommand_12 : decode cX4_readCommand 12 = .ok (.bipush 7, 2) := by decide +kernel
theorem dX4_readCommand_14 : decode cX4_readCommand 14 = .ok (.if_icmp .ge 28, 3) := by decide +kernel
theorem dX4_readCommand_17 : decode cX4_readCommand 17 = .ok (.aload_n 0, 1) := by decide +kernel
theorem dX4_readCommand_18 : decode cX4_readCommand 18 = .ok (.iload_n 3, 1) := by decide +kernel
theorem dX4_readCommand_19 : decode cX4_readCommand 19 = .ok (.invokevirtual 236, 3) := by decide +kernel
theorem dX4_readCommand_22 : decode cX4_readCommand 22 = .ok (.aload_n 0, 1) := by decide +kernel
theorem dX4_readCommand_23 : decode cX4_readCommand 23 = .ok (.iload_n 2, 1) := by decide +kernel
theorem dX4_readCommand_24 : decode cX4_readCommand 24 = .ok (.invokevirtual 236, 3) := by decide +kernel
theorem dX4_readCommand_27 : decode cX4_readCommand 27 = .ok (.if_icmp .le 7, 3) := by decide +kernel
theorem dX4_readCommand_30 : decode cX4_readCommand 30 = .ok (.iload_n 3, 1) := by decide +kernel
theorem dX4_readCommand_31 : decode cX4_readCommand 31 = .ok (.goto 4, 3) := by decide +kernel
theorem dX4_readCommand_34 : decode cX4_readCommand 34 = .ok (.iload_n 2, 1) := by decide +kernel
theorem dX4_readCommand_35 : decode cX4_readCommand 35 = .ok (.istore_n 2, 1) := by decide +kernel
theorem dX4_readCommand_36 : decode cX4_readCommand 36 = .ok (.iinc 3 1, 3) := by decide +kernel
theorem dX4_readCommand_39 : decode cX4_readCommand 39 = .ok (.goto (-28), 3) := by decide +kernel
theorem dX4_readCommand_42 : decode cX4_readCommand 42 = .ok (.aload_n 0, 1) := by decide +kernel
theorem dX4_readCommand_43 : decode cX4_readCommand 43 = .ok (.iload_n 2, 1) := by decide +kernel
theorem dX4_readCommand_44 : decode cX4_readCommand 44 = .ok (.invokevirtual 236, 3) := by decide +kernel
theorem dX4_readCommand_47 : decode cX4_readCommand 47 = .ok (.istore_n 3, 1) := by decide +kernel
theorem dX4_readCommand_48 : decode cX4_readCommand 48 = .ok (.aload_n 0, 1) := by decide +kernel
theorem dX4_readCommand_49 : decode cX4_readCommand 49 = .ok (.dup, 1) := by decide +kernel
theorem dX4_readCommand_50 : decode cX4_readCommand 50 = .ok (.getfield 201, 3) := by decide +kernel
theorem dX4_readCommand_53 : decode cX4_readCommand 53 = .ok (.iload_n 3, 1) := by decide +kernel
theorem dX4_readCommand_54 : decode cX4_readCommand 54 = .ok (.iadd, 1) := by decide +kernel
theorem dX4_readCommand_55 : decode cX4_readCommand 55 = .ok (.putfield 201, 3) := by decide +kernel
theorem dX4_readCommand_58 : decode cX4_readCommand 58 = .ok (.aload_n 0, 1) := by decide +kernel
theorem dX4_readCommand_59 : decode cX4_readCommand 59 = .ok (.iload_n 3, 1) := by decide +kernel
theorem dX4_readCommand_60 : decode cX4_readCommand 60 = .ok (.aload_n 0, 1) := by decide +kernel
theorem dX4_readCommand_61 : decode cX4_readCommand 61 = .ok (.getfield 48, 3) := by decide +kernel
theorem dX4_readCommand_64 : decode cX4_readCommand 64 = .ok (.iload_n 2, 1) := by decide +kernel
theorem dX4_readCommand_65 : decode cX4_readCommand 65 = .ok (.iconst 1, 1) := by decide +kernel
theorem dX4_readCommand_66 : decode cX4_readCommand 66 = .ok (.iadd, 1) := by decide +kernel
theorem dX4_readCommand_67 : decode cX4_readCommand 67 = .ok (.iaload, 1) := by decide +kernel
theorem dX4_readCommand_68 : decode cX4_readCommand 68 = .ok (.aload_n 0, 1) := by decide +kernel
theorem dX4_readCommand_69 : decode cX4_readCommand 69 = .ok (.getfield 48, 3) := by decide +kernel
theorem dX4_readCommand_72 : decode cX4_readCommand 72 = .ok (.iload_n 2, 1) := by decide +kernel
theorem dX4_readCommand_73 : decode cX4_readCommand 73 = .ok (.iaload, 1) := by decide +kernel
theorem dX4_readCommand_74 : decode cX4_readCommand 74 = .ok (.isub, 1) := by decide +kernel
theorem dX4_readCommand_75 : decode cX4_readCommand 75 = .ok (.if_icmp .ge 7, 3) := by decide +kernel
theorem dX4_readCommand_78 : decode cX4_readCommand 78 = .ok (.iconst 1, 1) := by decide +kernel
theorem dX4_readCommand_79 : decode cX4_readCommand 79 = .ok (.goto 4, 3) := by decide +kernel
theorem dX4_readCommand_82 : decode cX4_readCommand 82 = .ok (.iconst 0, 1) := by decide +kernel
theorem dX4_readCommand_83 : decode cX4_readCommand 83 = .ok (.putfield 207, 3) := by decide +kernel
theorem dX4_readCommand_86 : decode cX4_readCommand 86 = .ok (.aload_n 0, 1) := by decide +kernel
theorem dX4_readCommand_87 : decode cX4_readCommand 87 = .ok (.getfield 207, 3) := by decide +kernel
theorem dX4_readCommand_90 : decode cX4_readCommand 90 = .ok (.ifCond .ne 28, 3) := by decide +kernel
theorem dX4_readCommand_93 : decode cX4_readCommand 93 = .ok (.aload_n 0, 1) := by decide +kernel
theorem dX4_readCommand_94 : decode cX4_readCommand 94 = .ok (.getfield 51, 3) := by decide +kernel
theorem dX4_readCommand_97 : decode cX4_readCommand 97 = .ok (.iload_n 1, 1) := by decide +kernel
theorem dX4_readCommand_98 : decode cX4_readCommand 98 = .ok (.iload_n 2, 1) := by decide +kernel
theorem dX4_readCommand_99 : decode cX4_readCommand 99 = .ok (.iastore, 1) := by decide +kernel
theorem dX4_readCommand_100 : decode cX4_readCommand 100 = .ok (.aload_n 0, 1) := by decide +kernel
theorem dX4_readCommand_101 : decode cX4_readCommand 101 = .ok (.dup, 1) := by decide +kernel
theorem dX4_readCommand_102 : decode cX4_readCommand 102 = .ok (.getfield 233, 3) := by decide +kernel
theorem dX4_readCommand_105 : decode cX4_readCommand 105 = .ok (.iconst 1, 1) := by decide +kernel
theorem dX4_readCommand_106 : decode cX4_readCommand 106 = .ok (.iadd, 1) := by decide +kernel
theorem dX4_readCommand_107 : decode cX4_readCommand 107 = .ok (.putfield 233, 3) := by decide +kernel
theorem dX4_readCommand_110 : decode cX4_readCommand 110 = .ok (.aload_n 0, 1) := by decide +kernel
theorem dX4_readCommand_111 : decode cX4_readCommand 111 = .ok (.iload_n 2, 1) := by decide +kernel
theorem dX4_readCommand_112 : decode cX4_readCommand 112 = .ok (.iload_n 1, 1) := by decide +kernel
theorem dX4_readCommand_113 : decode cX4_readCommand 113 = .ok (.iconst 1, 1) := by decide +kernel
theorem dX4_readCommand_114 : decode cX4_readCommand 114 = .ok (.iadd, 1) := by decide +kernel
theorem dX4_readCommand_115 : decode cX4_readCommand 115 = .ok (.invokevirtual 239, 3) := by decide +kernel
theorem dX4_readCommand_118 : decode cX4_readCommand 118 = .ok (.return_, 1) := by decide +kernel
theorem dX4_does_0 : decode cX4_does 0 = .ok (.aload_n 0, 1) := by decide +kernel
theorem dX4_does_1 : decode cX4_does 1 = .ok (.getfield 51, 3) := by decide +kernel
theorem dX4_does_4 : decode cX4_does 4 = .ok (.iload_n 1, 1) := by decide +kernel
theorem dX4_does_5 : decode cX4_does 5 = .ok (.iconst 1, 1) := by decide +kernel
theorem dX4_does_6 : decode cX4_does 6 = .ok (.iadd, 1) := by decide +kernel
theorem dX4_does_7 : decode cX4_does 7 = .ok (.iaload, 1) := by decide +kernel
theorem dX4_does_8 : decode cX4_does 8 = .ok (.istore_n 2, 1) := by decide +kernel
theorem dX4_does_9 : decode cX4_does 9 = .ok (.aload_n 0, 1) := by decide +kernel
theorem dX4_does_10 : decode cX4_does 10 = .ok (.getfield 51, 3) := by decide +kernel
theorem dX4_does_13 : decode cX4_does 13 = .ok (.iload_n 1, 1) := by decide +kernel
theorem dX4_does_14 : decode cX4_does 14 = .ok (.iconst 2, 1) := by decide +kernel
theorem dX4_does_15 : decode cX4_does 15 = .ok (.iadd, 1) := by decide +kernel
theorem dX4_does_16 : decode cX4_does 16 = .ok (.iaload, 1) := by decide +kernel
theorem dX4_does_17 : decode cX4_does 17 = .ok (.istore_n 3, 1) := by decide +kernel
theorem dX4_does_18 : decode cX4_does 18 = .ok (.aload_n 0, 1) := by decide +kernel
theorem dX4_does_19 : decode cX4_does 19 = .ok (.getfield 51, 3) := by decide +kernel
theorem dX4_does_22 : decode cX4_does 22 = .ok (.iload_n 1, 1) := by decide +kernel
theorem dX4_does_23 : decode cX4_does 23 = .ok (.iaload, 1) := by decide +kernel
theorem dX4_does_24 : decode cX4_does 24 = .ok (.tableswitch 96 0 5 #[40, 50, 59, 68, 78, 87], 40) := by decide +kernel
theorem dX4_does_64 : decode cX4_does 64 = .ok (.aload_n 0, 1) := by decide +kernel
theorem dX4_does_65 : decode cX4_does 65 = .ok (.iload_n 2, 1) := by decide +kernel
theorem dX4_does_66 : decode cX4_does 66 = .ok (.iload_n 3, 1) := by decide +kernel
theorem dX4_does_67 : decode cX4_does 67 = .ok (.invokevirtual 90, 3) := by decide +kernel
theorem dX4_does_70 : decode cX4_does 70 = .ok (.pop, 1) := by decide +kernel
theorem dX4_does_71 : decode cX4_does 71 = .ok (.goto 55, 3) := by decide +kernel
theorem dX4_does_74 : decode cX4_does 74 = .ok (.aload_n 0, 1) := by decide +kernel
theorem dX4_does_75 : decode cX4_does 75 = .ok (.iload_n 2, 1) := by decide +kernel
theorem dX4_does_76 : decode cX4_does 76 = .ok (.invokevirtual 100, 3) := by decide +kernel
theorem dX4_does_79 : decode cX4_does 79 = .ok (.pop, 1) := by decide +kernel
theorem dX4_does_80 : decode cX4_does 80 = .ok (.goto 46, 3) := by decide +kernel
theorem dX4_does_83 : decode cX4_does 83 = .ok (.aload_n 0, 1) := by decide +kernel
theorem dX4_does_84 : decode cX4_does 84 = .ok (.iload_n 2, 1) := by decide +kernel
theorem dX4_does_85 : decode cX4_does 85 = .ok (.invokevirtual 105, 3) := by decide +kernel
theorem dX4_does_88 : decode cX4_does 88 = .ok (.pop, 1) := by decide +kernel
theorem dX4_does_89 : decode cX4_does 89 = .ok (.goto 37, 3) := by decide +kernel
theorem dX4_does_92 : decode cX4_does 92 = .ok (.aload_n 0, 1) := by decide +kernel
theorem dX4_does_93 : decode cX4_does 93 = .ok (.iload_n 2, 1) := by decide +kernel
theorem dX4_does_94 : decode cX4_does 94 = .ok (.iload_n 3, 1) := by decide +kernel
theorem dX4_does_95 : decode cX4_does 95 = .ok (.invokevirtual 111, 3) := by decide +kernel
theorem dX4_does_98 : decode cX4_does 98 = .ok (.pop, 1) := by decide +kernel
theorem dX4_does_99 : decode cX4_does 99 = .ok (.goto 27, 3) := by decide +kernel
theorem dX4_does_102 : decode cX4_does 102 = .ok (.aload_n 0, 1) := by decide +kernel
theorem dX4_does_103 : decode cX4_does 103 = .ok (.iload_n 2, 1) := by decide +kernel
theorem dX4_does_104 : decode cX4_does 104 = .ok (.invokevirtual 116, 3) := by decide +kernel
theorem dX4_does_107 : decode cX4_does 107 = .ok (.pop, 1) := by decide +kernel
theorem dX4_does_108 : decode cX4_does 108 = .ok (.goto 18, 3) := by decide +kernel
theorem dX4_does_111 : decode cX4_does 111 = .ok (.aload_n 0, 1) := by decide +kernel
theorem dX4_does_112 : decode cX4_does 112 = .ok (.iload_n 2, 1) := by decide +kernel
theorem dX4_does_113 : decode cX4_does 113 = .ok (.invokevirtual 135, 3) := by decide +kernel
theorem dX4_does_116 : decode cX4_does 116 = .ok (.pop, 1) := by decide +kernel
theorem dX4_does_117 : decode cX4_does 117 = .ok (.goto 9, 3) := by decide +kernel
theorem dX4_does_120 : decode cX4_does 120 = .ok (.aload_n 0, 1) := by decide +kernel
theorem dX4_does_121 : decode cX4_does 121 = .ok (.iload_n 2, 1) := by decide +kernel
theorem dX4_does_122 : decode cX4_does 122 = .ok (.invokevirtual 159, 3) := by decide +kernel
theorem dX4_does_125 : decode cX4_does 125 = .ok (.pop, 1) := by decide +kernel
theorem dX4_does_126 : decode cX4_does 126 = .ok (.return_, 1) := by decide +kernel
theorem dX4_runScript_0 : decode cX4_runScript 0 = .ok (.aload_n 0, 1) := by decide +kernel
theorem dX4_runScript_1 : decode cX4_runScript 1 = .ok (.invokevirtual 87, 3) := by decide +kernel
theorem dX4_runScript_4 : decode cX4_runScript 4 = .ok (.aload_n 0, 1) := by decide +kernel
theorem dX4_runScript_5 : decode cX4_runScript 5 = .ok (.aload_n 0, 1) := by decide +kernel
theorem dX4_runScript_6 : decode cX4_runScript 6 = .ok (.getfield 198, 3) := by decide +kernel
theorem dX4_runScript_9 : decode cX4_runScript 9 = .ok (.putfield 204, 3) := by decide +kernel
theorem dX4_runScript_12 : decode cX4_runScript 12 = .ok (.aload_n 0, 1) := by decide +kernel
theorem dX4_runScript_13 : decode cX4_runScript 13 = .ok (.iconst 0, 1) := by decide +kernel
theorem dX4_runScript_14 : decode cX4_runScript 14 = .ok (.putfield 198, 3) := by decide +kernel
theorem dX4_runScript_17 : decode cX4_runScript 17 = .ok (.aload_n 0, 1) := by decide +kernel
theorem dX4_runScript_18 : decode cX4_runScript 18 = .ok (.iconst 0, 1) := by decide +kernel
theorem dX4_runScript_19 : decode cX4_runScript 19 = .ok (.putfield 201, 3) := by decide +kernel
theorem dX4_runScript_22 : decode cX4_runScript 22 = .ok (.aload_n 0, 1) := by decide +kernel
theorem dX4_runScript_23 : decode cX4_runScript 23 = .ok (.iconst 0, 1) := by decide +kernel
theorem dX4_runScript_24 : decode cX4_runScript 24 = .ok (.putfield 233, 3) := by decide +kernel
theorem dX4_runScript_27 : decode cX4_runScript 27 = .ok (.aload_n 0, 1) := by decide +kernel
theorem dX4_runScript_28 : decode cX4_runScript 28 = .ok (.iconst 0, 1) := by decide +kernel
theorem dX4_runScript_29 : decode cX4_runScript 29 = .ok (.putfield 207, 3) := by decide +kernel
theorem dX4_runScript_32 : decode cX4_runScript 32 = .ok (.iconst 1, 1) := by decide +kernel
theorem dX4_runScript_33 : decode cX4_runScript 33 = .ok (.istore_n 1, 1) := by decide +kernel
theorem dX4_runScript_34 : decode cX4_runScript 34 = .ok (.iload_n 1, 1) := by decide +kernel
theorem dX4_runScript_35 : decode cX4_runScript 35 = .ok (.ifCond .eq 57, 3) := by decide +kernel
theorem dX4_runScript_38 : decode cX4_runScript 38 = .ok (.aload_n 0, 1) := by decide +kernel
theorem dX4_runScript_39 : decode cX4_runScript 39 = .ok (.invokevirtual 243, 3) := by decide +kernel
theorem dX4_runScript_42 : decode cX4_runScript 42 = .ok (.aload_n 0, 1) := by decide +kernel
theorem dX4_runScript_43 : decode cX4_runScript 43 = .ok (.getfield 207, 3) := by decide +kernel
theorem dX4_runScript_46 : decode cX4_runScript 46 = .ok (.ifCond .ne 18, 3) := by decide +kernel
theorem dX4_runScript_49 : decode cX4_runScript 49 = .ok (.aload_n 0, 1) := by decide +kernel
theorem dX4_runScript_50 : decode cX4_runScript 50 = .ok (.getfield 201, 3) := by decide +kernel
theorem dX4_runScript_53 : decode cX4_runScript 53 = .ok (.aload_n 0, 1) := by decide +kernel
theorem dX4_runScript_54 : decode cX4_runScript 54 = .ok (.getfield 204, 3) := by decide +kernel
theorem dX4_runScript_57 : decode cX4_runScript 57 = .ok (.if_icmp .ge 7, 3) := by decide +kernel
theorem dX4_runScript_60 : decode cX4_runScript 60 = .ok (.iconst 1, 1) := by decide +kernel
theorem dX4_runScript_61 : decode cX4_runScript 61 = .ok (.goto 4, 3) := by decide +kernel
theorem dX4_runScript_64 : decode cX4_runScript 64 = .ok (.iconst 0, 1) := by decide +kernel
theorem dX4_runScript_65 : decode cX4_runScript 65 = .ok (.istore_n 1, 1) := by decide +kernel
theorem dX4_runScript_66 : decode cX4_runScript 66 = .ok (.iload_n 1, 1) := by decide +kernel
theorem dX4_runScript_67 : decode cX4_runScript 67 = .ok (.ifCond .eq (-33), 3) := by decide +kernel
theorem dX4_runScript_70 : decode cX4_runScript 70 = .ok (.aload_n 0, 1) := by decide +kernel
theorem dX4_runScript_71 : decode cX4_runScript 71 = .ok (.bipush 59, 2) := by decide +kernel
theorem dX4_runScript_73 : decode cX4_runScript 73 = .ok (.invokevirtual 221, 3) := by decide +kernel
theorem dX4_runScript_76 : decode cX4_runScript 76 = .ok (.aload_n 0, 1) := by decide +kernel
theorem dX4_runScript_77 : decode cX4_runScript 77 = .ok (.getfield 207, 3) := by decide +kernel
theorem dX4_runScript_80 : decode cX4_runScript 80 = .ok (.ifCond .ne 7, 3) := by decide +kernel
theorem dX4_runScript_83 : decode cX4_runScript 83 = .ok (.iconst 1, 1) := by decide +kernel
theorem dX4_runScript_84 : decode cX4_runScript 84 = .ok (.goto 4, 3) := by decide +kernel
theorem dX4_runScript_87 : decode cX4_runScript 87 = .ok (.iconst 0, 1) := by decide +kernel
theorem dX4_runScript_88 : decode cX4_runScript 88 = .ok (.istore_n 1, 1) := by decide +kernel
theorem dX4_runScript_89 : decode cX4_runScript 89 = .ok (.goto (-55), 3) := by decide +kernel
theorem dX4_runScript_92 : decode cX4_runScript 92 = .ok (.aload_n 0, 1) := by decide +kernel
theorem dX4_runScript_93 : decode cX4_runScript 93 = .ok (.getfield 207, 3) := by decide +kernel
theorem dX4_runScript_96 : decode cX4_runScript 96 = .ok (.ifCond .eq 17, 3) := by decide +kernel
theorem dX4_runScript_99 : decode cX4_runScript 99 = .ok (.aload_n 0, 1) := by decide +kernel
theorem dX4_runScript_100 : decode cX4_runScript 100 = .ok (.aload_n 0, 1) := by decide +kernel
theorem dX4_runScript_101 : decode cX4_runScript 101 = .ok (.getfield 201, 3) := by decide +kernel
theorem dX4_runScript_104 : decode cX4_runScript 104 = .ok (.putfield 22, 3) := by decide +kernel
theorem dX4_runScript_107 : decode cX4_runScript 107 = .ok (.aload_n 0, 1) := by decide +kernel
theorem dX4_runScript_108 : decode cX4_runScript 108 = .ok (.iconst 1, 1) := by decide +kernel
theorem dX4_runScript_109 : decode cX4_runScript 109 = .ok (.invokevirtual 81, 3) := by decide +kernel
theorem dX4_runScript_112 : decode cX4_runScript 112 = .ok (.ireturn, 1) := by decide +kernel
theorem dX4_runScript_113 : decode cX4_runScript 113 = .ok (.iconst 0, 1) := by decide +kernel
theorem dX4_runScript_114 : decode cX4_runScript 114 = .ok (.istore_n 2, 1) := by decide +kernel
theorem dX4_runScript_115 : decode cX4_runScript 115 = .ok (.iload_n 2, 1) := by decide +kernel
theorem dX4_runScript_116 : decode cX4_runScript 116 = .ok (.aload_n 0, 1) := by decide +kernel
theorem dX4_runScript_117 : decode cX4_runScript 117 = .ok (.getfield 233, 3) := by decide +kernel
theorem dX4_runScript_120 : decode cX4_runScript 120 = .ok (.if_icmp .ge 61, 3) := by decide +kernel
theorem dX4_runScript_123 : decode cX4_runScript 123 = .ok (.aload_n 0, 1) := by decide +kernel
theorem dX4_runScript_124 : decode cX4_runScript 124 = .ok (.iconst 3, 1) := by decide +kernel
theorem dX4_runScript_125 : decode cX4_runScript 125 = .ok (.iload_n 2, 1) := by decide +kernel
theorem dX4_runScript_126 : decode cX4_runScript 126 = .ok (.imul, 1) := by decide +kernel
theorem dX4_runScript_127 : decode cX4_runScript 127 = .ok (.invokevirtual 246, 3) := by decide +kernel
theorem dX4_runScript_130 : decode cX4_runScript 130 = .ok (.aload_n 0, 1) := by decide +kernel
theorem dX4_runScript_131 : decode cX4_runScript 131 = .ok (.getfield 54, 3) := by decide +kernel
theorem dX4_runScript_134 : decode cX4_runScript 134 = .ok (.ifCond .le 41, 3) := by decide +kernel
theorem dX4_runScript_137 : decode cX4_runScript 137 = .ok (.iconst 0, 1) := by decide +kernel
theorem dX4_runScript_138 : decode cX4_runScript 138 = .ok (.istore_n 3, 1) := by decide +kernel
theorem dX4_runScript_139 : decode cX4_runScript 139 = .ok (.iload_n 3, 1) := by decide +kernel
theorem dX4_runScript_140 : decode cX4_runScript 140 = .ok (.sipush 144, 3) := by decide +kernel
theorem dX4_runScript_143 : decode cX4_runScript 143 = .ok (.if_icmp .ge 21, 3) := by decide +kernel
theorem dX4_runScript_146 : decode cX4_runScript 146 = .ok (.aload_n 0, 1) := by decide +kernel
theorem dX4_runScript_147 : decode cX4_runScript 147 = .ok (.getfield 9, 3) := by decide +kernel
theorem dX4_runScript_150 : decode cX4_runScript 150 = .ok (.iload_n 3, 1) := by decide +kernel
theorem dX4_runScript_151 : decode cX4_runScript 151 = .ok (.aload_n 0, 1) := by decide +kernel
theorem dX4_runScript_152 : decode cX4_runScript 152 = .ok (.getfield 13, 3) := by decide +kernel
theorem dX4_runScript_155 : decode cX4_runScript 155 = .ok (.iload_n 3, 1) := by decide +kernel
theorem dX4_runScript_156 : decode cX4_runScript 156 = .ok (.iaload, 1) := by decide +kernel
theorem dX4_runScript_157 : decode cX4_runScript 157 = .ok (.iastore, 1) := by decide +kernel
theorem dX4_runScript_158 : decode cX4_runScript 158 = .ok (.iinc 3 1, 3) := by decide +kernel
theorem dX4_runScript_161 : decode cX4_runScript 161 = .ok (.goto (-22), 3) := by decide +kernel
theorem dX4_runScript_164 : decode cX4_runScript 164 = .ok (.aload_n 0, 1) := by decide +kernel
theorem dX4_runScript_165 : decode cX4_runScript 165 = .ok (.iload_n 2, 1) := by decide +kernel
theorem dX4_runScript_166 : decode cX4_runScript 166 = .ok (.putfield 26, 3) := by decide +kernel
theorem dX4_runScript_169 : decode cX4_runScript 169 = .ok (.aload_n 0, 1) := by decide +kernel
theorem dX4_runScript_170 : decode cX4_runScript 170 = .ok (.iconst 2, 1) := by decide +kernel
theorem dX4_runScript_171 : decode cX4_runScript 171 = .ok (.invokevirtual 81, 3) := by decide +kernel
theorem dX4_runScript_174 : decode cX4_runScript 174 = .ok (.ireturn, 1) := by decide +kernel
theorem dX4_runScript_175 : decode cX4_runScript 175 = .ok (.iinc 2 1, 3) := by decide +kernel
theorem dX4_runScript_178 : decode cX4_runScript 178 = .ok (.goto (-63), 3) := by decide +kernel
theorem dX4_runScript_181 : decode cX4_runScript 181 = .ok (.aload_n 0, 1) := by decide +kernel
theorem dX4_runScript_182 : decode cX4_runScript 182 = .ok (.aload_n 0, 1) := by decide +kernel
theorem dX4_runScript_183 : decode cX4_runScript 183 = .ok (.getfield 233, 3) := by decide +kernel
theorem dX4_runScript_186 : decode cX4_runScript 186 = .ok (.invokevirtual 93, 3) := by decide +kernel
theorem dX4_runScript_189 : decode cX4_runScript 189 = .ok (.ireturn, 1) := by decide +kernel
theorem dX4_errorPosition_0 : decode cX4_errorPosition 0 = .ok (.aload_n 0, 1) := by decide +kernel
theorem dX4_errorPosition_1 : decode cX4_errorPosition 1 = .ok (.iconst 0, 1) := by decide +kernel
theorem dX4_errorPosition_2 : decode cX4_errorPosition 2 = .ok (.putfield 54, 3) := by decide +kernel
theorem dX4_errorPosition_5 : decode cX4_errorPosition 5 = .ok (.aload_n 0, 1) := by decide +kernel
theorem dX4_errorPosition_6 : decode cX4_errorPosition 6 = .ok (.getfield 22, 3) := by decide +kernel
theorem dX4_errorPosition_9 : decode cX4_errorPosition 9 = .ok (.iconst (-1), 1) := by decide +kernel
theorem dX4_errorPosition_10 : decode cX4_errorPosition 10 = .ok (.if_icmp .ne 11, 3) := by decide +kernel
theorem dX4_errorPosition_13 : decode cX4_errorPosition 13 = .ok (.aload_n 0, 1) := by decide +kernel
theorem dX4_errorPosition_14 : decode cX4_errorPosition 14 = .ok (.iconst 1, 1) := by decide +kernel
theorem dX4_errorPosition_15 : decode cX4_errorPosition 15 = .ok (.invokevirtual 81, 3) := by decide +kernel
theorem dX4_errorPosition_18 : decode cX4_errorPosition 18 = .ok (.goto 7, 3) := by decide +kernel
theorem dX4_errorPosition_21 : decode cX4_errorPosition 21 = .ok (.aload_n 0, 1) := by decide +kernel
theorem dX4_errorPosition_22 : decode cX4_errorPosition 22 = .ok (.getfield 22, 3) := by decide +kernel
theorem dX4_errorPosition_25 : decode cX4_errorPosition 25 = .ok (.ireturn, 1) := by decide +kernel
theorem dX4_failedCommand_0 : decode cX4_failedCommand 0 = .ok (.aload_n 0, 1) := by decide +kernel
theorem dX4_failedCommand_1 : decode cX4_failedCommand 1 = .ok (.iconst 0, 1) := by decide +kernel
theorem dX4_failedCommand_2 : decode cX4_failedCommand 2 = .ok (.putfield 54, 3) := by decide +kernel
theorem dX4_failedCommand_5 : decode cX4_failedCommand 5 = .ok (.aload_n 0, 1) := by decide +kernel
theorem dX4_failedCommand_6 : decode cX4_failedCommand 6 = .ok (.getfield 26, 3) := by decide +kernel
theorem dX4_failedCommand_9 : decode cX4_failedCommand 9 = .ok (.iconst (-1), 1) := by decide +kernel
theorem dX4_failedCommand_10 : decode cX4_failedCommand 10 = .ok (.if_icmp .ne 11, 3) := by decide +kernel
theorem dX4_failedCommand_13 : decode cX4_failedCommand 13 = .ok (.aload_n 0, 1) := by decide +kernel
theorem dX4_failedCommand_14 : decode cX4_failedCommand 14 = .ok (.iconst 1, 1) := by decide +kernel
theorem dX4_failedCommand_15 : decode cX4_failedCommand 15 = .ok (.invokevirtual 81, 3) := by decide +kernel
theorem dX4_failedCommand_18 : decode cX4_failedCommand 18 = .ok (.goto 7, 3) := by decide +kernel
theorem dX4_failedCommand_21 : decode cX4_failedCommand 21 = .ok (.aload_n 0, 1) := by decide +kernel
theorem dX4_failedCommand_22 : decode cX4_failedCommand 22 = .ok (.getfield 26, 3) := by decide +kernel
theorem dX4_failedCommand_25 : decode cX4_failedCommand 25 = .ok (.ireturn, 1) := by decide +kernel
theorem dX4_undo_0 : decode cX4_undo 0 = .ok (.aload_n 0, 1) := by decide +kernel
theorem dX4_undo_1 : decode cX4_undo 1 = .ok (.iconst 0, 1) := by decide +kernel
theorem dX4_undo_2 : decode cX4_undo 2 = .ok (.putfield 54, 3) := by decide +kernel
theorem dX4_undo_5 : decode cX4_undo 5 = .ok (.aload_n 0, 1) := by decide +kernel
theorem dX4_undo_6 : decode cX4_undo 6 = .ok (.getfield 57, 3) := by decide +kernel
theorem dX4_undo_9 : decode cX4_undo 9 = .ok (.ifCond .ne 9, 3) := by decide +kernel
theorem dX4_undo_12 : decode cX4_undo 12 = .ok (.aload_n 0, 1) := by decide +kernel
theorem dX4_undo_13 : decode cX4_undo 13 = .ok (.iconst 1, 1) := by decide +kernel
theorem dX4_undo_14 : decode cX4_undo 14 = .ok (.invokevirtual 81, 3) := by decide +kernel
theorem dX4_undo_17 : decode cX4_undo 17 = .ok (.ireturn, 1) := by decide +kernel
theorem dX4_undo_18 : decode cX4_undo 18 = .ok (.aload_n 0, 1) := by decide +kernel
theorem dX4_undo_19 : decode cX4_undo 19 = .ok (.dup, 1) := by decide +kernel
theorem dX4_undo_20 : decode cX4_undo 20 = .ok (.getfield 57, 3) := by decide +kernel
theorem dX4_undo_23 : decode cX4_undo 23 = .ok (.iconst 1, 1) := by decide +kernel
theorem dX4_undo_24 : decode cX4_undo 24 = .ok (.isub, 1) := by decide +kernel
theorem dX4_undo_25 : decode cX4_undo 25 = .ok (.putfield 57, 3) := by decide +kernel
theorem dX4_undo_28 : decode cX4_undo 28 = .ok (.iconst 0, 1) := by decide +kernel
theorem dX4_undo_29 : decode cX4_undo 29 = .ok (.istore_n 1, 1) := by decide +kernel
theorem dX4_undo_30 : decode cX4_undo 30 = .ok (.iload_n 1, 1) := by decide +kernel
theorem dX4_undo_31 : decode cX4_undo 31 = .ok (.sipush 144, 3) := by decide +kernel
theorem dX4_undo_34 : decode cX4_undo 34 = .ok (.if_icmp .ge 30, 3) := by decide +kernel
theorem dX4_undo_37 : decode cX4_undo 37 = .ok (.aload_n 0, 1) := by decide +kernel
theorem dX4_undo_38 : decode cX4_undo 38 = .ok (.getfield 9, 3) := by decide +kernel
theorem dX4_undo_41 : decode cX4_undo 41 = .ok (.iload_n 1, 1) := by decide +kernel
theorem dX4_undo_42 : decode cX4_undo 42 = .ok (.aload_n 0, 1) := by decide +kernel
theorem dX4_undo_43 : decode cX4_undo 43 = .ok (.getfield 19, 3) := by decide +kernel
theorem dX4_undo_46 : decode cX4_undo 46 = .ok (.sipush 144, 3) := by decide +kernel
theorem dX4_undo_49 : decode cX4_undo 49 = .ok (.aload_n 0, 1) := by decide +kernel
theorem dX4_undo_50 : decode cX4_undo 50 = .ok (.getfield 57, 3) := by decide +kernel
theorem dX4_undo_53 : decode cX4_undo 53 = .ok (.imul, 1) := by decide +kernel
theorem dX4_undo_54 : decode cX4_undo 54 = .ok (.iload_n 1, 1) := by decide +kernel
theorem dX4_undo_55 : decode cX4_undo 55 = .ok (.iadd, 1) := by decide +kernel
theorem dX4_undo_56 : decode cX4_undo 56 = .ok (.iaload, 1) := by decide +kernel
theorem dX4_undo_57 : decode cX4_undo 57 = .ok (.iastore, 1) := by decide +kernel
theorem dX4_undo_58 : decode cX4_undo 58 = .ok (.iinc 1 1, 3) := by decide +kernel
theorem dX4_undo_61 : decode cX4_undo 61 = .ok (.goto (-31), 3) := by decide +kernel
theorem dX4_undo_64 : decode cX4_undo 64 = .ok (.aload_n 0, 1) := by decide +kernel
theorem dX4_undo_65 : decode cX4_undo 65 = .ok (.getfield 57, 3) := by decide +kernel
theorem dX4_undo_68 : decode cX4_undo 68 = .ok (.ireturn, 1) := by decide +kernel
theorem dX4_save_0 : decode cX4_save 0 = .ok (.aload_n 0, 1) := by decide +kernel
theorem dX4_save_1 : decode cX4_save 1 = .ok (.iconst 0, 1) := by decide +kernel
theorem dX4_save_2 : decode cX4_save 2 = .ok (.putfield 54, 3) := by decide +kernel
theorem dX4_save_5 : decode cX4_save 5 = .ok (.iconst 0, 1) := by decide +kernel
theorem dX4_save_6 : decode cX4_save 6 = .ok (.istore_n 1, 1) := by decide +kernel
theorem dX4_save_7 : decode cX4_save 7 = .ok (.iload_n 1, 1) := by decide +kernel
theorem dX4_save_8 : decode cX4_save 8 = .ok (.sipush 144, 3) := by decide +kernel
theorem dX4_save_11 : decode cX4_save 11 = .ok (.if_icmp .ge 21, 3) := by decide +kernel
theorem dX4_save_14 : decode cX4_save 14 = .ok (.aload_n 0, 1) := by decide +kernel
theorem dX4_save_15 : decode cX4_save 15 = .ok (.getfield 16, 3) := by decide +kernel
theorem dX4_save_18 : decode cX4_save 18 = .ok (.iload_n 1, 1) := by decide +kernel
theorem dX4_save_19 : decode cX4_save 19 = .ok (.aload_n 0, 1) := by decide +kernel
theorem dX4_save_20 : decode cX4_save 20 = .ok (.getfield 9, 3) := by decide +kernel
theorem dX4_save_23 : decode cX4_save 23 = .ok (.iload_n 1, 1) := by decide +kernel
theorem dX4_save_24 : decode cX4_save 24 = .ok (.iaload, 1) := by decide +kernel
theorem dX4_save_25 : decode cX4_save 25 = .ok (.iastore, 1) := by decide +kernel
theorem dX4_save_26 : decode cX4_save 26 = .ok (.iinc 1 1, 3) := by decide +kernel
theorem dX4_save_29 : decode cX4_save 29 = .ok (.goto (-22), 3) := by decide +kernel
theorem dX4_save_32 : decode cX4_save 32 = .ok (.aload_n 0, 1) := by decide +kernel
theorem dX4_save_33 : decode cX4_save 33 = .ok (.iconst 1, 1) := by decide +kernel
theorem dX4_save_34 : decode cX4_save 34 = .ok (.putfield 249, 3) := by decide +kernel
theorem dX4_save_37 : decode cX4_save 37 = .ok (.aload_n 0, 1) := by decide +kernel
theorem dX4_save_38 : decode cX4_save 38 = .ok (.getfield 9, 3) := by decide +kernel
theorem dX4_save_41 : decode cX4_save 41 = .ok (.iconst 3, 1) := by decide +kernel
theorem dX4_save_42 : decode cX4_save 42 = .ok (.iaload, 1) := by decide +kernel
theorem dX4_save_43 : decode cX4_save 43 = .ok (.ireturn, 1) := by decide +kernel
theorem dX4_restore_0 : decode cX4_restore 0 = .ok (.aload_n 0, 1) := by decide +kernel
theorem dX4_restore_1 : decode cX4_restore 1 = .ok (.iconst 0, 1) := by decide +kernel
theorem dX4_restore_2 : decode cX4_restore 2 = .ok (.putfield 54, 3) := by decide +kernel
theorem dX4_restore_5 : decode cX4_restore 5 = .ok (.aload_n 0, 1) := by decide +kernel
theorem dX4_restore_6 : decode cX4_restore 6 = .ok (.getfield 249, 3) := by decide +kernel
theorem dX4_restore_9 : decode cX4_restore 9 = .ok (.ifCond .ne 9, 3) := by decide +kernel
theorem dX4_restore_12 : decode cX4_restore 12 = .ok (.aload_n 0, 1) := by decide +kernel
theorem dX4_restore_13 : decode cX4_restore 13 = .ok (.iconst 1, 1) := by decide +kernel
theorem dX4_restore_14 : decode cX4_restore 14 = .ok (.invokevirtual 81, 3) := by decide +kernel
theorem dX4_restore_17 : decode cX4_restore 17 = .ok (.ireturn, 1) := by decide +kernel
theorem dX4_restore_18 : decode cX4_restore 18 = .ok (.iconst 0, 1) := by decide +kernel
theorem dX4_restore_19 : decode cX4_restore 19 = .ok (.istore_n 1, 1) := by decide +kernel
theorem dX4_restore_20 : decode cX4_restore 20 = .ok (.iload_n 1, 1) := by decide +kernel
theorem dX4_restore_21 : decode cX4_restore 21 = .ok (.sipush 144, 3) := by decide +kernel
theorem dX4_restore_24 : decode cX4_restore 24 = .ok (.if_icmp .ge 21, 3) := by decide +kernel
theorem dX4_restore_27 : decode cX4_restore 27 = .ok (.aload_n 0, 1) := by decide +kernel
theorem dX4_restore_28 : decode cX4_restore 28 = .ok (.getfield 9, 3) := by decide +kernel
theorem dX4_restore_31 : decode cX4_restore 31 = .ok (.iload_n 1, 1) := by decide +kernel
theorem dX4_restore_32 : decode cX4_restore 32 = .ok (.aload_n 0, 1) := by decide +kernel
theorem dX4_restore_33 : decode cX4_restore 33 = .ok (.getfield 16, 3) := by decide +kernel
theorem dX4_restore_36 : decode cX4_restore 36 = .ok (.iload_n 1, 1) := by decide +kernel
theorem dX4_restore_37 : decode cX4_restore 37 = .ok (.iaload, 1) := by decide +kernel
theorem dX4_restore_38 : decode cX4_restore 38 = .ok (.iastore, 1) := by decide +kernel
theorem dX4_restore_39 : decode cX4_restore 39 = .ok (.iinc 1 1, 3) := by decide +kernel
theorem dX4_restore_42 : decode cX4_restore 42 = .ok (.goto (-22), 3) := by decide +kernel
theorem dX4_restore_45 : decode cX4_restore 45 = .ok (.aload_n 0, 1) := by decide +kernel
theorem dX4_restore_46 : decode cX4_restore 46 = .ok (.iconst 0, 1) := by decide +kernel
theorem dX4_restore_47 : decode cX4_restore 47 = .ok (.putfield 57, 3) := by decide +kernel
theorem dX4_restore_50 : decode cX4_restore 50 = .ok (.aload_n 0, 1) := by decide +kernel
theorem dX4_restore_51 : decode cX4_restore 51 = .ok (.getfield 9, 3) := by decide +kernel
theorem dX4_restore_54 : decode cX4_restore 54 = .ok (.iconst 3, 1) := by decide +kernel
theorem dX4_restore_55 : decode cX4_restore 55 = .ok (.iaload, 1) := by decide +kernel
theorem dX4_restore_56 : decode cX4_restore 56 = .ok (.ireturn, 1) := by decide +kernel
theorem dJ5_init_d00df_0 : decode cJ5_init_d00df 0 = .ok (.aload_n 0, 1) := by decide +kernel
theorem dJ5_init_d00df_1 : decode cJ5_init_d00df 1 = .ok (.invokespecial 3, 3) := by decide +kernel
theorem dJ5_init_d00df_4 : decode cJ5_init_d00df 4 = .ok (.getstatic 18, 3) := by decide +kernel
theorem dJ5_init_d00df_7 : decode cJ5_init_d00df 7 = .ok (.ifCond .eq 18, 3) := by decide +kernel
theorem dJ5_init_d00df_10 : decode cJ5_init_d00df 10 = .ok (.aload_n 0, 1) := by decide +kernel
theorem dJ5_init_d00df_11 : decode cJ5_init_d00df 11 = .ok (.iload_n 1, 1) := by decide +kernel
theorem dJ5_init_d00df_12 : decode cJ5_init_d00df 12 = .ok (.newarray .byte, 2) := by decide +kernel
theorem dJ5_init_d00df_14 : decode cJ5_init_d00df 14 = .ok (.putfield 15, 3) := by decide +kernel
theorem dJ5_init_d00df_17 : decode cJ5_init_d00df 17 = .ok (.aload_n 0, 1) := by decide +kernel
theorem dJ5_init_d00df_18 : decode cJ5_init_d00df 18 = .ok (.iconst 0, 1) := by decide +kernel
theorem dJ5_init_d00df_19 : decode cJ5_init_d00df 19 = .ok (.putfield 22, 3) := by decide +kernel
theorem dJ5_init_d00df_22 : decode cJ5_init_d00df 22 = .ok (.goto 16, 3) := by decide +kernel
theorem dJ5_init_d00df_25 : decode cJ5_init_d00df 25 = .ok (.aload_n 0, 1) := by decide +kernel
theorem dJ5_init_d00df_26 : decode cJ5_init_d00df 26 = .ok (.iload_n 1, 1) := by decide +kernel
theorem dJ5_init_d00df_27 : decode cJ5_init_d00df 27 = .ok (.invokestatic 26, 3) := by decide +kernel
theorem dJ5_init_d00df_30 : decode cJ5_init_d00df 30 = .ok (.putfield 15, 3) := by decide +kernel
theorem dJ5_init_d00df_33 : decode cJ5_init_d00df 33 = .ok (.aload_n 0, 1) := by decide +kernel
theorem dJ5_init_d00df_34 : decode cJ5_init_d00df 34 = .ok (.iconst 1, 1) := by decide +kernel
theorem dJ5_init_d00df_35 : decode cJ5_init_d00df 35 = .ok (.putfield 22, 3) := by decide +kernel
theorem dJ5_init_d00df_38 : decode cJ5_init_d00df 38 = .ok (.return_, 1) := by decide +kernel
theorem dJ5_length_8abf5_0 : decode cJ5_length_8abf5 0 = .ok (.aload_n 0, 1) := by decide +kernel
theorem dJ5_length_8abf5_1 : decode cJ5_length_8abf5 1 = .ok (.getfield 79, 3) := by decide +kernel
theorem dJ5_length_8abf5_4 : decode cJ5_length_8abf5 4 = .ok (.ireturn, 1) := by decide +kernel
theorem dJ5_ensureCapacityInternal_d00df_0 : decode cJ5_ensureCapacityInternal_d00df 0 = .ok (.aload_n 0, 1) := by decide +kernel
theorem dJ5_ensureCapacityInternal_d00df_1 : decode cJ5_ensureCapacityInternal_d00df 1 = .ok (.getfield 15, 3) := by decide +kernel
theorem dJ5_ensureCapacityInternal_d00df_4 : decode cJ5_ensureCapacityInternal_d00df 4 = .ok (.arraylength, 1) := by decide +kernel
theorem dJ5_ensureCapacityInternal_d00df_5 : decode cJ5_ensureCapacityInternal_d00df 5 = .ok (.aload_n 0, 1) := by decide +kernel
theorem dJ5_ensureCapacityInternal_d00df_6 : decode cJ5_ensureCapacityInternal_d00df 6 = .ok (.getfield 22, 3) := by decide +kernel
theorem dJ5_ensureCapacityInternal_d00df_9 : decode cJ5_ensureCapacityInternal_d00df 9 = .ok (.ishr, 1) := by decide +kernel
theorem dJ5_ensureCapacityInternal_d00df_10 : decode cJ5_ensureCapacityInternal_d00df 10 = .ok (.istore_n 2, 1) := by decide +kernel
theorem dJ5_ensureCapacityInternal_d00df_11 : decode cJ5_ensureCapacityInternal_d00df 11 = .ok (.iload_n 1, 1) := by decide +kernel
theorem dJ5_ensureCapacityInternal_d00df_12 : decode cJ5_ensureCapacityInternal_d00df 12 = .ok (.iload_n 2, 1) := by decide +kernel
theorem dJ5_ensureCapacityInternal_d00df_13 : decode cJ5_ensureCapacityInternal_d00df 13 = .ok (.isub, 1) := by decide +kernel
theorem dJ5_ensureCapacityInternal_d00df_14 : decode cJ5_ensureCapacityInternal_d00df 14 = .ok (.ifCond .le 24, 3) := by decide +kernel
theorem dJ5_ensureCapacityInternal_d00df_17 : decode cJ5_ensureCapacityInternal_d00df 17 = .ok (.aload_n 0, 1) := by decide +kernel
theorem dJ5_ensureCapacityInternal_d00df_18 : decode cJ5_ensureCapacityInternal_d00df 18 = .ok (.aload_n 0, 1) := by decide +kernel
theorem dJ5_ensureCapacityInternal_d00df_19 : decode cJ5_ensureCapacityInternal_d00df 19 = .ok (.getfield 15, 3) := by decide +kernel
theorem dJ5_ensureCapacityInternal_d00df_22 : decode cJ5_ensureCapacityInternal_d00df 22 = .ok (.aload_n 0, 1) := by decide +kernel
theorem dJ5_ensureCapacityInternal_d00df_23 : decode cJ5_ensureCapacityInternal_d00df 23 = .ok (.iload_n 1, 1) := by decide +kernel
theorem dJ5_ensureCapacityInternal_d00df_24 : decode cJ5_ensureCapacityInternal_d00df 24 = .ok (.invokevirtual 104, 3) := by decide +kernel
theorem dJ5_ensureCapacityInternal_d00df_27 : decode cJ5_ensureCapacityInternal_d00df 27 = .ok (.aload_n 0, 1) := by decide +kernel
theorem dJ5_ensureCapacityInternal_d00df_28 : decode cJ5_ensureCapacityInternal_d00df 28 = .ok (.getfield 22, 3) := by decide +kernel
theorem dJ5_ensureCapacityInternal_d00df_31 : decode cJ5_ensureCapacityInternal_d00df 31 = .ok (.ishl, 1) := by decide +kernel
theorem dJ5_ensureCapacityInternal_d00df_32 : decode cJ5_ensureCapacityInternal_d00df 32 = .ok (.invokestatic 108, 3) := by decide +kernel
theorem dJ5_ensureCapacityInternal_d00df_35 : decode cJ5_ensureCapacityInternal_d00df 35 = .ok (.putfield 15, 3) := by decide +kernel
theorem dJ5_ensureCapacityInternal_d00df_38 : decode cJ5_ensureCapacityInternal_d00df 38 = .ok (.return_, 1) := by decide +kernel
theorem dJ5_newCapacity_0f7a4_0 : decode cJ5_newCapacity_0f7a4 0 = .ok (.aload_n 0, 1) := by decide +kernel
theorem dJ5_newCapacity_0f7a4_1 : decode cJ5_newCapacity_0f7a4 1 = .ok (.getfield 15, 3) := by decide +kernel
theorem dJ5_newCapacity_0f7a4_4 : decode cJ5_newCapacity_0f7a4 4 = .ok (.arraylength, 1) := by decide +kernel
theorem dJ5_newCapacity_0f7a4_5 : decode cJ5_newCapacity_0f7a4 5 = .ok (.istore_n 2, 1) := by decide +kernel
theorem dJ5_newCapacity_0f7a4_6 : decode cJ5_newCapacity_0f7a4 6 = .ok (.iload_n 1, 1) := by decide +kernel
theorem dJ5_newCapacity_0f7a4_7 : decode cJ5_newCapacity_0f7a4 7 = .ok (.aload_n 0, 1) := by decide +kernel
theorem dJ5_newCapacity_0f7a4_8 : decode cJ5_newCapacity_0f7a4 8 = .ok (.getfield 22, 3) := by decide +kernel
theorem dJ5_newCapacity_0f7a4_11 : decode cJ5_newCapacity_0f7a4 11 = .ok (.ishl, 1) := by decide +kernel
theorem dJ5_newCapacity_0f7a4_12 : decode cJ5_newCapacity_0f7a4 12 = .ok (.istore_n 3, 1) := by decide +kernel
theorem dJ5_newCapacity_0f7a4_13 : decode cJ5_newCapacity_0f7a4 13 = .ok (.iload_n 3, 1) := by decide +kernel
theorem dJ5_newCapacity_0f7a4_14 : decode cJ5_newCapacity_0f7a4 14 = .ok (.iload_n 2, 1) := by decide +kernel
theorem dJ5_newCapacity_0f7a4_15 : decode cJ5_newCapacity_0f7a4 15 = .ok (.isub, 1) := by decide +kernel
theorem dJ5_newCapacity_0f7a4_16 : decode cJ5_newCapacity_0f7a4 16 = .ok (.istore 4, 2) := by decide +kernel
theorem dJ5_newCapacity_0f7a4_18 : decode cJ5_newCapacity_0f7a4 18 = .ok (.iload_n 2, 1) := by decide +kernel
theorem dJ5_newCapacity_0f7a4_19 : decode cJ5_newCapacity_0f7a4 19 = .ok (.iload 4, 2) := by decide +kernel
theorem dJ5_newCapacity_0f7a4_21 : decode cJ5_newCapacity_0f7a4 21 = .ok (.iload_n 2, 1) := by decide +kernel
theorem dJ5_newCapacity_0f7a4_22 : decode cJ5_newCapacity_0f7a4 22 = .ok (.iconst 2, 1) := by decide +kernel
theorem dJ5_newCapacity_0f7a4_23 : decode cJ5_newCapacity_0f7a4 23 = .ok (.aload_n 0, 1) := by decide +kernel
theorem dJ5_newCapacity_0f7a4_24 : decode cJ5_newCapacity_0f7a4 24 = .ok (.getfield 22, 3) := by decide +kernel
theorem dJ5_newCapacity_0f7a4_27 : decode cJ5_newCapacity_0f7a4 27 = .ok (.ishl, 1) := by decide +kernel
theorem dJ5_newCapacity_0f7a4_28 : decode cJ5_newCapacity_0f7a4 28 = .ok (.iadd, 1) := by decide +kernel
theorem dJ5_newCapacity_0f7a4_29 : decode cJ5_newCapacity_0f7a4 29 = .ok (.invokestatic 114, 3) := by decide +kernel
theorem dJ5_newCapacity_0f7a4_32 : decode cJ5_newCapacity_0f7a4 32 = .ok (.istore 5, 2) := by decide +kernel
theorem dJ5_newCapacity_0f7a4_34 : decode cJ5_newCapacity_0f7a4 34 = .ok (.iload 5, 2) := by decide +kernel
theorem dJ5_newCapacity_0f7a4_36 : decode cJ5_newCapacity_0f7a4 36 = .ok (.ldc 39, 2) := by decide +kernel
theorem dJ5_newCapacity_0f7a4_38 : decode cJ5_newCapacity_0f7a4 38 = .ok (.if_icmp .ne 13, 3) := by decide +kernel
theorem dJ5_newCapacity_0f7a4_41 : decode cJ5_newCapacity_0f7a4 41 = .ok (.new 120, 3) := by decide +kernel
theorem dJ5_newCapacity_0f7a4_44 : decode cJ5_newCapacity_0f7a4 44 = .ok (.dup, 1) := by decide +kernel
theorem dJ5_newCapacity_0f7a4_45 : decode cJ5_newCapacity_0f7a4 45 = .ok (.ldc 122, 2) := by decide +kernel
theorem dJ5_newCapacity_0f7a4_47 : decode cJ5_newCapacity_0f7a4 47 = .ok (.invokespecial 124, 3) := by decide +kernel
theorem dJ5_newCapacity_0f7a4_50 : decode cJ5_newCapacity_0f7a4 50 = .ok (.athrow, 1) := by decide +kernel
theorem dJ5_newCapacity_0f7a4_51 : decode cJ5_newCapacity_0f7a4 51 = .ok (.iload 5, 2) := by decide +kernel
theorem dJ5_newCapacity_0f7a4_53 : decode cJ5_newCapacity_0f7a4 53 = .ok (.aload_n 0, 1) := by decide +kernel
theorem dJ5_newCapacity_0f7a4_54 : decode cJ5_newCapacity_0f7a4 54 = .ok (.getfield 22, 3) := by decide +kernel
theorem dJ5_newCapacity_0f7a4_57 : decode cJ5_newCapacity_0f7a4 57 = .ok (.ishr, 1) := by decide +kernel
theorem dJ5_newCapacity_0f7a4_58 : decode cJ5_newCapacity_0f7a4 58 = .ok (.ireturn, 1) := by decide +kernel
theorem dJ5_inflate_da8c8_0 : decode cJ5_inflate_da8c8 0 = .ok (.aload_n 0, 1) := by decide +kernel
theorem dJ5_inflate_da8c8_1 : decode cJ5_inflate_da8c8 1 = .ok (.invokevirtual 83, 3) := by decide +kernel
theorem dJ5_inflate_da8c8_4 : decode cJ5_inflate_da8c8 4 = .ok (.ifCond .ne 4, 3) := by decide +kernel
theorem dJ5_inflate_da8c8_7 : decode cJ5_inflate_da8c8 7 = .ok (.return_, 1) := by decide +kernel
theorem dJ5_inflate_da8c8_8 : decode cJ5_inflate_da8c8 8 = .ok (.aload_n 0, 1) := by decide +kernel
theorem dJ5_inflate_da8c8_9 : decode cJ5_inflate_da8c8 9 = .ok (.getfield 15, 3) := by decide +kernel
theorem dJ5_inflate_da8c8_12 : decode cJ5_inflate_da8c8 12 = .ok (.arraylength, 1) := by decide +kernel
theorem dJ5_inflate_da8c8_13 : decode cJ5_inflate_da8c8 13 = .ok (.invokestatic 26, 3) := by decide +kernel
theorem dJ5_inflate_da8c8_16 : decode cJ5_inflate_da8c8 16 = .ok (.astore_n 1, 1) := by decide +kernel
theorem dJ5_inflate_da8c8_17 : decode cJ5_inflate_da8c8 17 = .ok (.aload_n 0, 1) := by decide +kernel
theorem dJ5_inflate_da8c8_18 : decode cJ5_inflate_da8c8 18 = .ok (.getfield 15, 3) := by decide +kernel
theorem dJ5_inflate_da8c8_21 : decode cJ5_inflate_da8c8 21 = .ok (.iconst 0, 1) := by decide +kernel
theorem dJ5_inflate_da8c8_22 : decode cJ5_inflate_da8c8 22 = .ok (.aload_n 1, 1) := by decide +kernel
theorem dJ5_inflate_da8c8_23 : decode cJ5_inflate_da8c8 23 = .ok (.iconst 0, 1) := by decide +kernel
theorem dJ5_inflate_da8c8_24 : decode cJ5_inflate_da8c8 24 = .ok (.aload_n 0, 1) := by decide +kernel
theorem dJ5_inflate_da8c8_25 : decode cJ5_inflate_da8c8 25 = .ok (.getfield 79, 3) := by decide +kernel
theorem dJ5_inflate_da8c8_28 : decode cJ5_inflate_da8c8 28 = .ok (.invokestatic 125, 3) := by decide +kernel
theorem dJ5_inflate_da8c8_31 : decode cJ5_inflate_da8c8 31 = .ok (.aload_n 0, 1) := by decide +kernel
theorem dJ5_inflate_da8c8_32 : decode cJ5_inflate_da8c8 32 = .ok (.aload_n 1, 1) := by decide +kernel
theorem dJ5_inflate_da8c8_33 : decode cJ5_inflate_da8c8 33 = .ok (.putfield 15, 3) := by decide +kernel
theorem dJ5_inflate_da8c8_36 : decode cJ5_inflate_da8c8 36 = .ok (.aload_n 0, 1) := by decide +kernel
theorem dJ5_inflate_da8c8_37 : decode cJ5_inflate_da8c8 37 = .ok (.iconst 1, 1) := by decide +kernel
theorem dJ5_inflate_da8c8_38 : decode cJ5_inflate_da8c8 38 = .ok (.putfield 22, 3) := by decide +kernel
theorem dJ5_inflate_da8c8_41 : decode cJ5_inflate_da8c8 41 = .ok (.return_, 1) := by decide +kernel
theorem dJ5_setLength_d00df_0 : decode cJ5_setLength_d00df 0 = .ok (.iload_n 1, 1) := by decide +kernel
theorem dJ5_setLength_d00df_1 : decode cJ5_setLength_d00df 1 = .ok (.ifCond .ge 12, 3) := by decide +kernel
theorem dJ5_setLength_d00df_4 : decode cJ5_setLength_d00df 4 = .ok (.new 129, 3) := by decide +kernel
theorem dJ5_setLength_d00df_7 : decode cJ5_setLength_d00df 7 = .ok (.dup, 1) := by decide +kernel
theorem dJ5_setLength_d00df_8 : decode cJ5_setLength_d00df 8 = .ok (.iload_n 1, 1) := by decide +kernel
theorem dJ5_setLength_d00df_9 : decode cJ5_setLength_d00df 9 = .ok (.invokespecial 131, 3) := by decide +kernel
theorem dJ5_setLength_d00df_12 : decode cJ5_setLength_d00df 12 = .ok (.athrow, 1) := by decide +kernel
theorem dJ5_setLength_d00df_13 : decode cJ5_setLength_d00df 13 = .ok (.aload_n 0, 1) := by decide +kernel
theorem dJ5_setLength_d00df_14 : decode cJ5_setLength_d00df 14 = .ok (.iload_n 1, 1) := by decide +kernel
theorem dJ5_setLength_d00df_15 : decode cJ5_setLength_d00df 15 = .ok (.invokevirtual 100, 3) := by decide +kernel
theorem dJ5_setLength_d00df_18 : decode cJ5_setLength_d00df 18 = .ok (.aload_n 0, 1) := by decide +kernel
theorem dJ5_setLength_d00df_19 : decode cJ5_setLength_d00df 19 = .ok (.getfield 79, 3) := by decide +kernel
theorem dJ5_setLength_d00df_22 : decode cJ5_setLength_d00df 22 = .ok (.iload_n 1, 1) := by decide +kernel
theorem dJ5_setLength_d00df_23 : decode cJ5_setLength_d00df 23 = .ok (.if_icmp .ge 40, 3) := by decide +kernel
theorem dJ5_setLength_d00df_26 : decode cJ5_setLength_d00df 26 = .ok (.aload_n 0, 1) := by decide +kernel
theorem dJ5_setLength_d00df_27 : decode cJ5_setLength_d00df 27 = .ok (.invokevirtual 83, 3) := by decide +kernel
theorem dJ5_setLength_d00df_30 : decode cJ5_setLength_d00df 30 = .ok (.ifCond .eq 18, 3) := by decide +kernel
theorem dJ5_setLength_d00df_33 : decode cJ5_setLength_d00df 33 = .ok (.aload_n 0, 1) := by decide +kernel
theorem dJ5_setLength_d00df_34 : decode cJ5_setLength_d00df 34 = .ok (.getfield 15, 3) := by decide +kernel
theorem dJ5_setLength_d00df_37 : decode cJ5_setLength_d00df 37 = .ok (.aload_n 0, 1) := by decide +kernel
theorem dJ5_setLength_d00df_38 : decode cJ5_setLength_d00df 38 = .ok (.getfield 79, 3) := by decide +kernel
theorem dJ5_setLength_d00df_41 : decode cJ5_setLength_d00df 41 = .ok (.iload_n 1, 1) := by decide +kernel
theorem dJ5_setLength_d00df_42 : decode cJ5_setLength_d00df 42 = .ok (.invokestatic 133, 3) := by decide +kernel
theorem dJ5_setLength_d00df_45 : decode cJ5_setLength_d00df 45 = .ok (.goto 31, 3) := by decide +kernel
theorem dJ5_setLength_d00df_48 : decode cJ5_setLength_d00df 48 = .ok (.aload_n 0, 1) := by decide +kernel
theorem dJ5_setLength_d00df_49 : decode cJ5_setLength_d00df 49 = .ok (.getfield 15, 3) := by decide +kernel
theorem dJ5_setLength_d00df_52 : decode cJ5_setLength_d00df 52 = .ok (.aload_n 0, 1) := by decide +kernel
theorem dJ5_setLength_d00df_53 : decode cJ5_setLength_d00df 53 = .ok (.getfield 79, 3) := by decide +kernel
theorem dJ5_setLength_d00df_56 : decode cJ5_setLength_d00df 56 = .ok (.iload_n 1, 1) := by decide +kernel
theorem dJ5_setLength_d00df_57 : decode cJ5_setLength_d00df 57 = .ok (.invokestatic 137, 3) := by decide +kernel
theorem dJ5_setLength_d00df_60 : decode cJ5_setLength_d00df 60 = .ok (.goto 16, 3) := by decide +kernel
theorem dJ5_setLength_d00df_63 : decode cJ5_setLength_d00df 63 = .ok (.aload_n 0, 1) := by decide +kernel
theorem dJ5_setLength_d00df_64 : decode cJ5_setLength_d00df 64 = .ok (.getfield 79, 3) := by decide +kernel
theorem dJ5_setLength_d00df_67 : decode cJ5_setLength_d00df 67 = .ok (.iload_n 1, 1) := by decide +kernel
theorem dJ5_setLength_d00df_68 : decode cJ5_setLength_d00df 68 = .ok (.if_icmp .le 8, 3) := by decide +kernel
theorem dJ5_setLength_d00df_71 : decode cJ5_setLength_d00df 71 = .ok (.aload_n 0, 1) := by decide +kernel
theorem dJ5_setLength_d00df_72 : decode cJ5_setLength_d00df 72 = .ok (.iconst 1, 1) := by decide +kernel
theorem dJ5_setLength_d00df_73 : decode cJ5_setLength_d00df 73 = .ok (.putfield 73, 3) := by decide +kernel
theorem dJ5_setLength_d00df_76 : decode cJ5_setLength_d00df 76 = .ok (.aload_n 0, 1) := by decide +kernel
theorem dJ5_setLength_d00df_77 : decode cJ5_setLength_d00df 77 = .ok (.iload_n 1, 1) := by decide +kernel
theorem dJ5_setLength_d00df_78 : decode cJ5_setLength_d00df 78 = .ok (.putfield 79, 3) := by decide +kernel
theorem dJ5_setLength_d00df_81 : decode cJ5_setLength_d00df 81 = .ok (.return_, 1) := by decide +kernel
theorem dJ5_charAt_5068e_0 : decode cJ5_charAt_5068e 0 = .ok (.aload_n 0, 1) := by decide +kernel
theorem dJ5_charAt_5068e_1 : decode cJ5_charAt_5068e 1 = .ok (.getfield 22, 3) := by decide +kernel
theorem dJ5_charAt_5068e_4 : decode cJ5_charAt_5068e 4 = .ok (.istore_n 2, 1) := by decide +kernel
theorem dJ5_charAt_5068e_5 : decode cJ5_charAt_5068e 5 = .ok (.aload_n 0, 1) := by decide +kernel
theorem dJ5_charAt_5068e_6 : decode cJ5_charAt_5068e 6 = .ok (.getfield 15, 3) := by decide +kernel
theorem dJ5_charAt_5068e_9 : decode cJ5_charAt_5068e 9 = .ok (.astore_n 3, 1) := by decide +kernel
theorem dJ5_charAt_5068e_10 : decode cJ5_charAt_5068e 10 = .ok (.aload_n 0, 1) := by decide +kernel
theorem dJ5_charAt_5068e_11 : decode cJ5_charAt_5068e 11 = .ok (.getfield 79, 3) := by decide +kernel
theorem dJ5_charAt_5068e_14 : decode cJ5_charAt_5068e 14 = .ok (.aload_n 3, 1) := by decide +kernel
theorem dJ5_charAt_5068e_15 : decode cJ5_charAt_5068e 15 = .ok (.arraylength, 1) := by decide +kernel
theorem dJ5_charAt_5068e_16 : decode cJ5_charAt_5068e 16 = .ok (.iload_n 2, 1) := by decide +kernel
theorem dJ5_charAt_5068e_17 : decode cJ5_charAt_5068e 17 = .ok (.ishr, 1) := by decide +kernel
theorem dJ5_charAt_5068e_18 : decode cJ5_charAt_5068e 18 = .ok (.invokestatic 138, 3) := by decide +kernel
theorem dJ5_charAt_5068e_21 : decode cJ5_charAt_5068e 21 = .ok (.istore 4, 2) := by decide +kernel
theorem dJ5_charAt_5068e_23 : decode cJ5_charAt_5068e 23 = .ok (.iload_n 1, 1) := by decide +kernel
theorem dJ5_charAt_5068e_24 : decode cJ5_charAt_5068e 24 = .ok (.iload 4, 2) := by decide +kernel
theorem dJ5_charAt_5068e_26 : decode cJ5_charAt_5068e 26 = .ok (.invokestatic 144, 3) := by decide +kernel
theorem dJ5_charAt_5068e_29 : decode cJ5_charAt_5068e 29 = .ok (.iload_n 2, 1) := by decide +kernel
theorem dJ5_charAt_5068e_30 : decode cJ5_charAt_5068e 30 = .ok (.ifCond .ne 12, 3) := by decide +kernel
theorem dJ5_charAt_5068e_33 : decode cJ5_charAt_5068e 33 = .ok (.aload_n 3, 1) := by decide +kernel
theorem dJ5_charAt_5068e_34 : decode cJ5_charAt_5068e 34 = .ok (.iload_n 1, 1) := by decide +kernel
theorem dJ5_charAt_5068e_35 : decode cJ5_charAt_5068e 35 = .ok (.baload, 1) := by decide +kernel
theorem dJ5_charAt_5068e_36 : decode cJ5_charAt_5068e 36 = .ok (.sipush 255, 3) := by decide +kernel
theorem dJ5_charAt_5068e_39 : decode cJ5_charAt_5068e 39 = .ok (.iand, 1) := by decide +kernel
theorem dJ5_charAt_5068e_40 : decode cJ5_charAt_5068e 40 = .ok (.i2c, 1) := by decide +kernel
theorem dJ5_charAt_5068e_41 : decode cJ5_charAt_5068e 41 = .ok (.ireturn, 1) := by decide +kernel
theorem dJ5_charAt_5068e_42 : decode cJ5_charAt_5068e 42 = .ok (.aload_n 3, 1) := by decide +kernel
theorem dJ5_charAt_5068e_43 : decode cJ5_charAt_5068e 43 = .ok (.iload_n 1, 1) := by decide +kernel
theorem dJ5_charAt_5068e_44 : decode cJ5_charAt_5068e 44 = .ok (.invokestatic 148, 3) := by decide +kernel
theorem dJ5_charAt_5068e_47 : decode cJ5_charAt_5068e 47 = .ok (.ireturn, 1) := by decide +kernel
theorem dJ5_append_cf1ce_0 : decode cJ5_append_cf1ce 0 = .ok (.aload_n 1, 1) := by decide +kernel
theorem dJ5_append_cf1ce_1 : decode cJ5_append_cf1ce 1 = .ok (.ifnonnull 8, 3) := by decide +kernel
theorem dJ5_append_cf1ce_4 : decode cJ5_append_cf1ce 4 = .ok (.aload_n 0, 1) := by decide +kernel
theorem dJ5_append_cf1ce_5 : decode cJ5_append_cf1ce 5 = .ok (.invokevirtual 204, 3) := by decide +kernel
theorem dJ5_append_cf1ce_8 : decode cJ5_append_cf1ce 8 = .ok (.areturn, 1) := by decide +kernel
theorem dJ5_append_cf1ce_9 : decode cJ5_append_cf1ce 9 = .ok (.aload_n 1, 1) := by decide +kernel
theorem dJ5_append_cf1ce_10 : decode cJ5_append_cf1ce 10 = .ok (.invokevirtual 32, 3) := by decide +kernel
theorem dJ5_append_cf1ce_13 : decode cJ5_append_cf1ce 13 = .ok (.istore_n 2, 1) := by decide +kernel
theorem dJ5_append_cf1ce_14 : decode cJ5_append_cf1ce 14 = .ok (.aload_n 0, 1) := by decide +kernel
theorem dJ5_append_cf1ce_15 : decode cJ5_append_cf1ce 15 = .ok (.aload_n 0, 1) := by decide +kernel
theorem dJ5_append_cf1ce_16 : decode cJ5_append_cf1ce 16 = .ok (.getfield 79, 3) := by decide +kernel
theorem dJ5_append_cf1ce_19 : decode cJ5_append_cf1ce 19 = .ok (.iload_n 2, 1) := by decide +kernel
theorem dJ5_append_cf1ce_20 : decode cJ5_append_cf1ce 20 = .ok (.iadd, 1) := by decide +kernel
theorem dJ5_append_cf1ce_21 : decode cJ5_append_cf1ce 21 = .ok (.invokevirtual 100, 3) := by decide +kernel
theorem dJ5_append_cf1ce_24 : decode cJ5_append_cf1ce 24 = .ok (.aload_n 0, 1) := by decide +kernel
theorem dJ5_append_cf1ce_25 : decode cJ5_append_cf1ce 25 = .ok (.aload_n 0, 1) := by decide +kernel
theorem dJ5_append_cf1ce_26 : decode cJ5_append_cf1ce 26 = .ok (.getfield 79, 3) := by decide +kernel
theorem dJ5_append_cf1ce_29 : decode cJ5_append_cf1ce 29 = .ok (.aload_n 1, 1) := by decide +kernel
theorem dJ5_append_cf1ce_30 : decode cJ5_append_cf1ce 30 = .ok (.invokevirtual 208, 3) := by decide +kernel
theorem dJ5_append_cf1ce_33 : decode cJ5_append_cf1ce 33 = .ok (.aload_n 0, 1) := by decide +kernel
theorem dJ5_append_cf1ce_34 : decode cJ5_append_cf1ce 34 = .ok (.dup, 1) := by decide +kernel
theorem dJ5_append_cf1ce_35 : decode cJ5_append_cf1ce 35 = .ok (.getfield 79, 3) := by decide +kernel
theorem dJ5_append_cf1ce_38 : decode cJ5_append_cf1ce 38 = .ok (.iload_n 2, 1) := by decide +kernel
theorem dJ5_append_cf1ce_39 : decode cJ5_append_cf1ce 39 = .ok (.iadd, 1) := by decide +kernel
theorem dJ5_append_cf1ce_40 : decode cJ5_append_cf1ce 40 = .ok (.putfield 79, 3) := by decide +kernel
theorem dJ5_append_cf1ce_43 : decode cJ5_append_cf1ce 43 = .ok (.aload_n 0, 1) := by decide +kernel
theorem dJ5_append_cf1ce_44 : decode cJ5_append_cf1ce 44 = .ok (.areturn, 1) := by decide +kernel
theorem dJ5_appendNull_278bc_0 : decode cJ5_appendNull_278bc 0 = .ok (.aload_n 0, 1) := by decide +kernel
theorem dJ5_appendNull_278bc_1 : decode cJ5_appendNull_278bc 1 = .ok (.aload_n 0, 1) := by decide +kernel
theorem dJ5_appendNull_278bc_2 : decode cJ5_appendNull_278bc 2 = .ok (.getfield 79, 3) := by decide +kernel
theorem dJ5_appendNull_278bc_5 : decode cJ5_appendNull_278bc 5 = .ok (.iconst 4, 1) := by decide +kernel
theorem dJ5_appendNull_278bc_6 : decode cJ5_appendNull_278bc 6 = .ok (.iadd, 1) := by decide +kernel
theorem dJ5_appendNull_278bc_7 : decode cJ5_appendNull_278bc 7 = .ok (.invokevirtual 100, 3) := by decide +kernel
theorem dJ5_appendNull_278bc_10 : decode cJ5_appendNull_278bc 10 = .ok (.aload_n 0, 1) := by decide +kernel
theorem dJ5_appendNull_278bc_11 : decode cJ5_appendNull_278bc 11 = .ok (.getfield 79, 3) := by decide +kernel
theorem dJ5_appendNull_278bc_14 : decode cJ5_appendNull_278bc 14 = .ok (.istore_n 1, 1) := by decide +kernel
theorem dJ5_appendNull_278bc_15 : decode cJ5_appendNull_278bc 15 = .ok (.aload_n 0, 1) := by decide +kernel
theorem dJ5_appendNull_278bc_16 : decode cJ5_appendNull_278bc 16 = .ok (.getfield 15, 3) := by decide +kernel
theorem dJ5_appendNull_278bc_19 : decode cJ5_appendNull_278bc 19 = .ok (.astore_n 2, 1) := by decide +kernel
theorem dJ5_appendNull_278bc_20 : decode cJ5_appendNull_278bc 20 = .ok (.aload_n 0, 1) := by decide +kernel
theorem dJ5_appendNull_278bc_21 : decode cJ5_appendNull_278bc 21 = .ok (.invokevirtual 83, 3) := by decide +kernel
theorem dJ5_appendNull_278bc_24 : decode cJ5_appendNull_278bc 24 = .ok (.ifCond .eq 38, 3) := by decide +kernel
theorem dJ5_appendNull_278bc_27 : decode cJ5_appendNull_278bc 27 = .ok (.aload_n 2, 1) := by decide +kernel
theorem dJ5_appendNull_278bc_28 : decode cJ5_appendNull_278bc 28 = .ok (.iload_n 1, 1) := by decide +kernel
theorem dJ5_appendNull_278bc_29 : decode cJ5_appendNull_278bc 29 = .ok (.iinc 1 1, 3) := by decide +kernel
theorem dJ5_appendNull_278bc_32 : decode cJ5_appendNull_278bc 32 = .ok (.bipush 110, 2) := by decide +kernel
theorem dJ5_appendNull_278bc_34 : decode cJ5_appendNull_278bc 34 = .ok (.bastore, 1) := by decide +kernel
theorem dJ5_appendNull_278bc_35 : decode cJ5_appendNull_278bc 35 = .ok (.aload_n 2, 1) := by decide +kernel
theorem dJ5_appendNull_278bc_36 : decode cJ5_appendNull_278bc 36 = .ok (.iload_n 1, 1) := by decide +kernel
theorem dJ5_appendNull_278bc_37 : decode cJ5_appendNull_278bc 37 = .ok (.iinc 1 1, 3) := by decide +kernel
theorem dJ5_appendNull_278bc_40 : decode cJ5_appendNull_278bc 40 = .ok (.bipush 117, 2) := by decide +kernel
theorem dJ5_appendNull_278bc_42 : decode cJ5_appendNull_278bc 42 = .ok (.bastore, 1) := by decide +kernel
theorem dJ5_appendNull_278bc_43 : decode cJ5_appendNull_278bc 43 = .ok (.aload_n 2, 1) := by decide +kernel
theorem dJ5_appendNull_278bc_44 : decode cJ5_appendNull_278bc 44 = .ok (.iload_n 1, 1) := by decide +kernel
theorem dJ5_appendNull_278bc_45 : decode cJ5_appendNull_278bc 45 = .ok (.iinc 1 1, 3) := by decide +kernel
theorem dJ5_appendNull_278bc_48 : decode cJ5_appendNull_278bc 48 = .ok (.bipush 108, 2) := by decide +kernel
theorem dJ5_appendNull_278bc_50 : decode cJ5_appendNull_278bc 50 = .ok (.bastore, 1) := by decide +kernel
theorem dJ5_appendNull_278bc_51 : decode cJ5_appendNull_278bc 51 = .ok (.aload_n 2, 1) := by decide +kernel
theorem dJ5_appendNull_278bc_52 : decode cJ5_appendNull_278bc 52 = .ok (.iload_n 1, 1) := by decide +kernel
theorem dJ5_appendNull_278bc_53 : decode cJ5_appendNull_278bc 53 = .ok (.iinc 1 1, 3) := by decide +kernel
theorem dJ5_appendNull_278bc_56 : decode cJ5_appendNull_278bc 56 = .ok (.bipush 108, 2) := by decide +kernel
theorem dJ5_appendNull_278bc_58 : decode cJ5_appendNull_278bc 58 = .ok (.bastore, 1) := by decide +kernel
theorem dJ5_appendNull_278bc_59 : decode cJ5_appendNull_278bc 59 = .ok (.goto 17, 3) := by decide +kernel
theorem dJ5_appendNull_278bc_62 : decode cJ5_appendNull_278bc 62 = .ok (.aload_n 2, 1) := by decide +kernel
theorem dJ5_appendNull_278bc_63 : decode cJ5_appendNull_278bc 63 = .ok (.iload_n 1, 1) := by decide +kernel
theorem dJ5_appendNull_278bc_64 : decode cJ5_appendNull_278bc 64 = .ok (.bipush 110, 2) := by decide +kernel
theorem dJ5_appendNull_278bc_66 : decode cJ5_appendNull_278bc 66 = .ok (.bipush 117, 2) := by decide +kernel
theorem dJ5_appendNull_278bc_68 : decode cJ5_appendNull_278bc 68 = .ok (.bipush 108, 2) := by decide +kernel
theorem dJ5_appendNull_278bc_70 : decode cJ5_appendNull_278bc 70 = .ok (.bipush 108, 2) := by decide +kernel
theorem dJ5_appendNull_278bc_72 : decode cJ5_appendNull_278bc 72 = .ok (.invokestatic 226, 3) := by decide +kernel
theorem dJ5_appendNull_278bc_75 : decode cJ5_appendNull_278bc 75 = .ok (.istore_n 1, 1) := by decide +kernel
theorem dJ5_appendNull_278bc_76 : decode cJ5_appendNull_278bc 76 = .ok (.aload_n 0, 1) := by decide +kernel
theorem dJ5_appendNull_278bc_77 : decode cJ5_appendNull_278bc 77 = .ok (.iload_n 1, 1) := by decide +kernel
theorem dJ5_appendNull_278bc_78 : decode cJ5_appendNull_278bc 78 = .ok (.putfield 79, 3) := by decide +kernel
theorem dJ5_appendNull_278bc_81 : decode cJ5_appendNull_278bc 81 = .ok (.aload_n 0, 1) := by decide +kernel
theorem dJ5_appendNull_278bc_82 : decode cJ5_appendNull_278bc 82 = .ok (.areturn, 1) := by decide +kernel
theorem dJ5_append_3fe6f_0 : decode cJ5_append_3fe6f 0 = .ok (.aload_n 0, 1) := by decide +kernel
theorem dJ5_append_3fe6f_1 : decode cJ5_append_3fe6f 1 = .ok (.aload_n 0, 1) := by decide +kernel
theorem dJ5_append_3fe6f_2 : decode cJ5_append_3fe6f 2 = .ok (.getfield 79, 3) := by decide +kernel
theorem dJ5_append_3fe6f_5 : decode cJ5_append_3fe6f 5 = .ok (.iconst 1, 1) := by decide +kernel
theorem dJ5_append_3fe6f_6 : decode cJ5_append_3fe6f 6 = .ok (.iadd, 1) := by decide +kernel
theorem dJ5_append_3fe6f_7 : decode cJ5_append_3fe6f 7 = .ok (.invokevirtual 100, 3) := by decide +kernel
theorem dJ5_append_3fe6f_10 : decode cJ5_append_3fe6f 10 = .ok (.aload_n 0, 1) := by decide +kernel
theorem dJ5_append_3fe6f_11 : decode cJ5_append_3fe6f 11 = .ok (.invokevirtual 83, 3) := by decide +kernel
theorem dJ5_append_3fe6f_14 : decode cJ5_append_3fe6f 14 = .ok (.ifCond .eq 31, 3) := by decide +kernel
theorem dJ5_append_3fe6f_17 : decode cJ5_append_3fe6f 17 = .ok (.iload_n 1, 1) := by decide +kernel
theorem dJ5_append_3fe6f_18 : decode cJ5_append_3fe6f 18 = .ok (.invokestatic 191, 3) := by decide +kernel
theorem dJ5_append_3fe6f_21 : decode cJ5_append_3fe6f 21 = .ok (.ifCond .eq 24, 3) := by decide +kernel
theorem dJ5_append_3fe6f_24 : decode cJ5_append_3fe6f 24 = .ok (.aload_n 0, 1) := by decide +kernel
theorem dJ5_append_3fe6f_25 : decode cJ5_append_3fe6f 25 = .ok (.getfield 15, 3) := by decide +kernel
theorem dJ5_append_3fe6f_28 : decode cJ5_append_3fe6f 28 = .ok (.aload_n 0, 1) := by decide +kernel
theorem dJ5_append_3fe6f_29 : decode cJ5_append_3fe6f 29 = .ok (.dup, 1) := by decide +kernel
theorem dJ5_append_3fe6f_30 : decode cJ5_append_3fe6f 30 = .ok (.getfield 79, 3) := by decide +kernel
theorem dJ5_append_3fe6f_33 : decode cJ5_append_3fe6f 33 = .ok (.dup_x1, 1) := by decide +kernel
theorem dJ5_append_3fe6f_34 : decode cJ5_append_3fe6f 34 = .ok (.iconst 1, 1) := by decide +kernel
theorem dJ5_append_3fe6f_35 : decode cJ5_append_3fe6f 35 = .ok (.iadd, 1) := by decide +kernel
theorem dJ5_append_3fe6f_36 : decode cJ5_append_3fe6f 36 = .ok (.putfield 79, 3) := by decide +kernel
theorem dJ5_append_3fe6f_39 : decode cJ5_append_3fe6f 39 = .ok (.iload_n 1, 1) := by decide +kernel
theorem dJ5_append_3fe6f_40 : decode cJ5_append_3fe6f 40 = .ok (.i2b, 1) := by decide +kernel
theorem dJ5_append_3fe6f_41 : decode cJ5_append_3fe6f 41 = .ok (.bastore, 1) := by decide +kernel
theorem dJ5_append_3fe6f_42 : decode cJ5_append_3fe6f 42 = .ok (.goto 33, 3) := by decide +kernel
theorem dJ5_append_3fe6f_45 : decode cJ5_append_3fe6f 45 = .ok (.aload_n 0, 1) := by decide +kernel
theorem dJ5_append_3fe6f_46 : decode cJ5_append_3fe6f 46 = .ok (.invokevirtual 83, 3) := by decide +kernel
theorem dJ5_append_3fe6f_49 : decode cJ5_append_3fe6f 49 = .ok (.ifCond .eq 7, 3) := by decide +kernel
theorem dJ5_append_3fe6f_52 : decode cJ5_append_3fe6f 52 = .ok (.aload_n 0, 1) := by decide +kernel
theorem dJ5_append_3fe6f_53 : decode cJ5_append_3fe6f 53 = .ok (.invokevirtual 195, 3) := by decide +kernel
theorem dJ5_append_3fe6f_56 : decode cJ5_append_3fe6f 56 = .ok (.aload_n 0, 1) := by decide +kernel
theorem dJ5_append_3fe6f_57 : decode cJ5_append_3fe6f 57 = .ok (.getfield 15, 3) := by decide +kernel
theorem dJ5_append_3fe6f_60 : decode cJ5_append_3fe6f 60 = .ok (.aload_n 0, 1) := by decide +kernel
theorem dJ5_append_3fe6f_61 : decode cJ5_append_3fe6f 61 = .ok (.dup, 1) := by decide +kernel
theorem dJ5_append_3fe6f_62 : decode cJ5_append_3fe6f 62 = .ok (.getfield 79, 3) := by decide +kernel
theorem dJ5_append_3fe6f_65 : decode cJ5_append_3fe6f 65 = .ok (.dup_x1, 1) := by decide +kernel
theorem dJ5_append_3fe6f_66 : decode cJ5_append_3fe6f 66 = .ok (.iconst 1, 1) := by decide +kernel
theorem dJ5_append_3fe6f_67 : decode cJ5_append_3fe6f 67 = .ok (.iadd, 1) := by decide +kernel
theorem dJ5_append_3fe6f_68 : decode cJ5_append_3fe6f 68 = .ok (.putfield 79, 3) := by decide +kernel
theorem dJ5_append_3fe6f_71 : decode cJ5_append_3fe6f 71 = .ok (.iload_n 1, 1) := by decide +kernel
theorem dJ5_append_3fe6f_72 : decode cJ5_append_3fe6f 72 = .ok (.invokestatic 197, 3) := by decide +kernel
theorem dJ5_append_3fe6f_75 : decode cJ5_append_3fe6f 75 = .ok (.aload_n 0, 1) := by decide +kernel
theorem dJ5_append_3fe6f_76 : decode cJ5_append_3fe6f 76 = .ok (.areturn, 1) := by decide +kernel
theorem dJ5_append_c97b9_0 : decode cJ5_append_c97b9 0 = .ok (.aload_n 0, 1) := by decide +kernel
theorem dJ5_append_c97b9_1 : decode cJ5_append_c97b9 1 = .ok (.getfield 79, 3) := by decide +kernel
theorem dJ5_append_c97b9_4 : decode cJ5_append_c97b9 4 = .ok (.istore_n 2, 1) := by decide +kernel
theorem dJ5_append_c97b9_5 : decode cJ5_append_c97b9 5 = .ok (.iload_n 2, 1) := by decide +kernel
theorem dJ5_append_c97b9_6 : decode cJ5_append_c97b9 6 = .ok (.iload_n 1, 1) := by decide +kernel
theorem dJ5_append_c97b9_7 : decode cJ5_append_c97b9 7 = .ok (.invokestatic 245, 3) := by decide +kernel
theorem dJ5_append_c97b9_10 : decode cJ5_append_c97b9 10 = .ok (.iadd, 1) := by decide +kernel
theorem dJ5_append_c97b9_11 : decode cJ5_append_c97b9 11 = .ok (.istore_n 3, 1) := by decide +kernel
theorem dJ5_append_c97b9_12 : decode cJ5_append_c97b9 12 = .ok (.aload_n 0, 1) := by decide +kernel
theorem dJ5_append_c97b9_13 : decode cJ5_append_c97b9 13 = .ok (.iload_n 3, 1) := by decide +kernel
theorem dJ5_append_c97b9_14 : decode cJ5_append_c97b9 14 = .ok (.invokevirtual 100, 3) := by decide +kernel
theorem dJ5_append_c97b9_17 : decode cJ5_append_c97b9 17 = .ok (.aload_n 0, 1) := by decide +kernel
theorem dJ5_append_c97b9_18 : decode cJ5_append_c97b9 18 = .ok (.invokevirtual 83, 3) := by decide +kernel
theorem dJ5_append_c97b9_21 : decode cJ5_append_c97b9 21 = .ok (.ifCond .eq 16, 3) := by decide +kernel
theorem dJ5_append_c97b9_24 : decode cJ5_append_c97b9 24 = .ok (.iload_n 1, 1) := by decide +kernel
theorem dJ5_append_c97b9_25 : decode cJ5_append_c97b9 25 = .ok (.iload_n 3, 1) := by decide +kernel
theorem dJ5_append_c97b9_26 : decode cJ5_append_c97b9 26 = .ok (.aload_n 0, 1) := by decide +kernel
theorem dJ5_append_c97b9_27 : decode cJ5_append_c97b9 27 = .ok (.getfield 15, 3) := by decide +kernel
theorem dJ5_append_c97b9_30 : decode cJ5_append_c97b9 30 = .ok (.invokestatic 248, 3) := by decide +kernel
theorem dJ5_append_c97b9_33 : decode cJ5_append_c97b9 33 = .ok (.pop, 1) := by decide +kernel
theorem dJ5_append_c97b9_34 : decode cJ5_append_c97b9 34 = .ok (.goto 14, 3) := by decide +kernel
theorem dJ5_append_c97b9_37 : decode cJ5_append_c97b9 37 = .ok (.iload_n 1, 1) := by decide +kernel
theorem dJ5_append_c97b9_38 : decode cJ5_append_c97b9 38 = .ok (.iload_n 2, 1) := by decide +kernel
theorem dJ5_append_c97b9_39 : decode cJ5_append_c97b9 39 = .ok (.iload_n 3, 1) := by decide +kernel
theorem dJ5_append_c97b9_40 : decode cJ5_append_c97b9 40 = .ok (.aload_n 0, 1) := by decide +kernel
theorem dJ5_append_c97b9_41 : decode cJ5_append_c97b9 41 = .ok (.getfield 15, 3) := by decide +kernel
theorem dJ5_append_c97b9_44 : decode cJ5_append_c97b9 44 = .ok (.invokestatic 251, 3) := by decide +kernel
theorem dJ5_append_c97b9_47 : decode cJ5_append_c97b9 47 = .ok (.pop, 1) := by decide +kernel
theorem dJ5_append_c97b9_48 : decode cJ5_append_c97b9 48 = .ok (.aload_n 0, 1) := by decide +kernel
theorem dJ5_append_c97b9_49 : decode cJ5_append_c97b9 49 = .ok (.iload_n 3, 1) := by decide +kernel
theorem dJ5_append_c97b9_50 : decode cJ5_append_c97b9 50 = .ok (.putfield 79, 3) := by decide +kernel
theorem dJ5_append_c97b9_53 : decode cJ5_append_c97b9 53 = .ok (.aload_n 0, 1) := by decide +kernel
theorem dJ5_append_c97b9_54 : decode cJ5_append_c97b9 54 = .ok (.areturn, 1) := by decide +kernel
theorem dJ5_getValue_6d5f1_0 : decode cJ5_getValue_6d5f1 0 = .ok (.aload_n 0, 1) := by decide +kernel
theorem dJ5_getValue_6d5f1_1 : decode cJ5_getValue_6d5f1 1 = .ok (.getfield 15, 3) := by decide +kernel
theorem dJ5_getValue_6d5f1_4 : decode cJ5_getValue_6d5f1 4 = .ok (.areturn, 1) := by decide +kernel
theorem dJ5_isLatin1_aae02_0 : decode cJ5_isLatin1_aae02 0 = .ok (.getstatic 18, 3) := by decide +kernel
theorem dJ5_isLatin1_aae02_3 : decode cJ5_isLatin1_aae02 3 = .ok (.ifCond .eq 14, 3) := by decide +kernel
theorem dJ5_isLatin1_aae02_6 : decode cJ5_isLatin1_aae02 6 = .ok (.aload_n 0, 1) := by decide +kernel
theorem dJ5_isLatin1_aae02_7 : decode cJ5_isLatin1_aae02 7 = .ok (.getfield 22, 3) := by decide +kernel
theorem dJ5_isLatin1_aae02_10 : decode cJ5_isLatin1_aae02 10 = .ok (.ifCond .ne 7, 3) := by decide +kernel
theorem dJ5_isLatin1_aae02_13 : decode cJ5_isLatin1_aae02 13 = .ok (.iconst 1, 1) := by decide +kernel
theorem dJ5_isLatin1_aae02_14 : decode cJ5_isLatin1_aae02 14 = .ok (.goto 4, 3) := by decide +kernel
theorem dJ5_isLatin1_aae02_17 : decode cJ5_isLatin1_aae02 17 = .ok (.iconst 0, 1) := by decide +kernel
theorem dJ5_isLatin1_aae02_18 : decode cJ5_isLatin1_aae02 18 = .ok (.ireturn, 1) := by decide +kernel
theorem dJ5_inflateIfNeededFor_a7421_0 : decode cJ5_inflateIfNeededFor_a7421 0 = .ok (.getstatic 18, 3) := by decide +kernel
theorem dJ5_inflateIfNeededFor_a7421_3 : decode cJ5_inflateIfNeededFor_a7421 3 = .ok (.ifCond .eq 18, 3) := by decide +kernel
theorem dJ5_inflateIfNeededFor_a7421_6 : decode cJ5_inflateIfNeededFor_a7421 6 = .ok (.aload_n 0, 1) := by decide +kernel
theorem dJ5_inflateIfNeededFor_a7421_7 : decode cJ5_inflateIfNeededFor_a7421 7 = .ok (.getfield 22, 3) := by decide +kernel
theorem dJ5_inflateIfNeededFor_a7421_10 : decode cJ5_inflateIfNeededFor_a7421 10 = .ok (.aload_n 1, 1) := by decide +kernel
theorem dJ5_inflateIfNeededFor_a7421_11 : decode cJ5_inflateIfNeededFor_a7421 11 = .ok (.invokevirtual 40, 3) := by decide +kernel
theorem dJ5_inflateIfNeededFor_a7421_14 : decode cJ5_inflateIfNeededFor_a7421 14 = .ok (.if_icmp .eq 7, 3) := by decide +kernel
theorem dJ5_inflateIfNeededFor_a7421_17 : decode cJ5_inflateIfNeededFor_a7421 17 = .ok (.aload_n 0, 1) := by decide +kernel
theorem dJ5_inflateIfNeededFor_a7421_18 : decode cJ5_inflateIfNeededFor_a7421 18 = .ok (.invokevirtual 195, 3) := by decide +kernel
theorem dJ5_inflateIfNeededFor_a7421_21 : decode cJ5_inflateIfNeededFor_a7421 21 = .ok (.return_, 1) := by decide +kernel
theorem dJ5_putStringAt_47b60_0 : decode cJ5_putStringAt_47b60 0 = .ok (.aload_n 0, 1) := by decide +kernel
theorem dJ5_putStringAt_47b60_1 : decode cJ5_putStringAt_47b60 1 = .ok (.aload_n 2, 1) := by decide +kernel
theorem dJ5_putStringAt_47b60_2 : decode cJ5_putStringAt_47b60 2 = .ok (.invokevirtual 397, 3) := by decide +kernel
theorem dJ5_putStringAt_47b60_5 : decode cJ5_putStringAt_47b60 5 = .ok (.aload_n 2, 1) := by decide +kernel
theorem dJ5_putStringAt_47b60_6 : decode cJ5_putStringAt_47b60 6 = .ok (.aload_n 0, 1) := by decide +kernel
theorem dJ5_putStringAt_47b60_7 : decode cJ5_putStringAt_47b60 7 = .ok (.getfield 15, 3) := by decide +kernel
theorem dJ5_putStringAt_47b60_10 : decode cJ5_putStringAt_47b60 10 = .ok (.iload_n 1, 1) := by decide +kernel
theorem dJ5_putStringAt_47b60_11 : decode cJ5_putStringAt_47b60 11 = .ok (.aload_n 0, 1) := by decide +kernel
theorem dJ5_putStringAt_47b60_12 : decode cJ5_putStringAt_47b60 12 = .ok (.getfield 22, 3) := by decide +kernel
theorem dJ5_putStringAt_47b60_15 : decode cJ5_putStringAt_47b60 15 = .ok (.invokevirtual 399, 3) := by decide +kernel
theorem dJ5_putStringAt_47b60_18 : decode cJ5_putStringAt_47b60 18 = .ok (.return_, 1) := by decide +kernel
theorem dJx00060_init_a7421_0 : decode cJx00060_init_a7421 0 = .ok (.aload_n 0, 1) := by decide +kernel
theorem dJx00060_init_a7421_1 : decode cJx00060_init_a7421 1 = .ok (.aload_n 1, 1) := by decide +kernel
theorem dJx00060_init_a7421_2 : decode cJx00060_init_a7421 2 = .ok (.invokespecial 7, 3) := by decide +kernel
theorem dJx00060_init_a7421_5 : decode cJx00060_init_a7421 5 = .ok (.return_, 1) := by decide +kernel
theorem dJx00060_init_d00df_0 : decode cJx00060_init_d00df 0 = .ok (.aload_n 0, 1) := by decide +kernel
theorem dJx00060_init_d00df_1 : decode cJx00060_init_d00df 1 = .ok (.new 10, 3) := by decide +kernel
theorem dJx00060_init_d00df_4 : decode cJx00060_init_d00df 4 = .ok (.dup, 1) := by decide +kernel
theorem dJx00060_init_d00df_5 : decode cJx00060_init_d00df 5 = .ok (.invokespecial 12, 3) := by decide +kernel
theorem dJx00060_init_d00df_8 : decode cJx00060_init_d00df 8 = .ok (.ldc 13, 2) := by decide +kernel
theorem dJx00060_init_d00df_10 : decode cJx00060_init_d00df 10 = .ok (.invokevirtual 15, 3) := by decide +kernel
theorem dJx00060_init_d00df_13 : decode cJx00060_init_d00df 13 = .ok (.iload_n 1, 1) := by decide +kernel
theorem dJx00060_init_d00df_14 : decode cJx00060_init_d00df 14 = .ok (.invokevirtual 19, 3) := by decide +kernel
theorem dJx00060_init_d00df_17 : decode cJx00060_init_d00df 17 = .ok (.invokevirtual 22, 3) := by decide +kernel
theorem dJx00060_init_d00df_20 : decode cJx00060_init_d00df 20 = .ok (.invokespecial 7, 3) := by decide +kernel
theorem dJx00060_init_d00df_23 : decode cJx00060_init_d00df 23 = .ok (.return_, 1) := by decide +kernel
theorem dJ6_getChars_ba4f3_0 : decode cJ6_getChars_ba4f3 0 = .ok (.iload_n 1, 1) := by decide +kernel
theorem dJ6_getChars_ba4f3_1 : decode cJ6_getChars_ba4f3 1 = .ok (.istore 5, 2) := by decide +kernel
theorem dJ6_getChars_ba4f3_3 : decode cJ6_getChars_ba4f3 3 = .ok (.iload_n 0, 1) := by decide +kernel
theorem dJ6_getChars_ba4f3_4 : decode cJ6_getChars_ba4f3 4 = .ok (.ifCond .ge 7, 3) := by decide +kernel
theorem dJ6_getChars_ba4f3_7 : decode cJ6_getChars_ba4f3 7 = .ok (.iconst 1, 1) := by decide +kernel
theorem dJ6_getChars_ba4f3_8 : decode cJ6_getChars_ba4f3 8 = .ok (.goto 4, 3) := by decide +kernel
theorem dJ6_getChars_ba4f3_11 : decode cJ6_getChars_ba4f3 11 = .ok (.iconst 0, 1) := by decide +kernel
theorem dJ6_getChars_ba4f3_12 : decode cJ6_getChars_ba4f3 12 = .ok (.istore 6, 2) := by decide +kernel
theorem dJ6_getChars_ba4f3_14 : decode cJ6_getChars_ba4f3 14 = .ok (.iload 6, 2) := by decide +kernel
theorem dJ6_getChars_ba4f3_16 : decode cJ6_getChars_ba4f3 16 = .ok (.ifCond .ne 6, 3) := by decide +kernel
theorem dJ6_getChars_ba4f3_19 : decode cJ6_getChars_ba4f3 19 = .ok (.iload_n 0, 1) := by decide +kernel
theorem dJ6_getChars_ba4f3_20 : decode cJ6_getChars_ba4f3 20 = .ok (.ineg, 1) := by decide +kernel
theorem dJ6_getChars_ba4f3_21 : decode cJ6_getChars_ba4f3 21 = .ok (.istore_n 0, 1) := by decide +kernel
theorem dJ6_getChars_ba4f3_22 : decode cJ6_getChars_ba4f3 22 = .ok (.iload_n 0, 1) := by decide +kernel
theorem dJ6_getChars_ba4f3_23 : decode cJ6_getChars_ba4f3 23 = .ok (.bipush (-100), 2) := by decide +kernel
theorem dJ6_getChars_ba4f3_25 : decode cJ6_getChars_ba4f3 25 = .ok (.if_icmp .gt 47, 3) := by decide +kernel
theorem dJ6_getChars_ba4f3_28 : decode cJ6_getChars_ba4f3 28 = .ok (.iload_n 0, 1) := by decide +kernel
theorem dJ6_getChars_ba4f3_29 : decode cJ6_getChars_ba4f3 29 = .ok (.bipush 100, 2) := by decide +kernel
theorem dJ6_getChars_ba4f3_31 : decode cJ6_getChars_ba4f3 31 = .ok (.idiv, 1) := by decide +kernel
theorem dJ6_getChars_ba4f3_32 : decode cJ6_getChars_ba4f3 32 = .ok (.istore_n 3, 1) := by decide +kernel
theorem dJ6_getChars_ba4f3_33 : decode cJ6_getChars_ba4f3 33 = .ok (.iload_n 3, 1) := by decide +kernel
theorem dJ6_getChars_ba4f3_34 : decode cJ6_getChars_ba4f3 34 = .ok (.bipush 100, 2) := by decide +kernel
theorem dJ6_getChars_ba4f3_36 : decode cJ6_getChars_ba4f3 36 = .ok (.imul, 1) := by decide +kernel
theorem dJ6_getChars_ba4f3_37 : decode cJ6_getChars_ba4f3 37 = .ok (.iload_n 0, 1) := by decide +kernel
theorem dJ6_getChars_ba4f3_38 : decode cJ6_getChars_ba4f3 38 = .ok (.isub, 1) := by decide +kernel
theorem dJ6_getChars_ba4f3_39 : decode cJ6_getChars_ba4f3 39 = .ok (.istore 4, 2) := by decide +kernel
theorem dJ6_getChars_ba4f3_41 : decode cJ6_getChars_ba4f3 41 = .ok (.iload_n 3, 1) := by decide +kernel
theorem dJ6_getChars_ba4f3_42 : decode cJ6_getChars_ba4f3 42 = .ok (.istore_n 0, 1) := by decide +kernel
theorem dJ6_getChars_ba4f3_43 : decode cJ6_getChars_ba4f3 43 = .ok (.aload_n 2, 1) := by decide +kernel
theorem dJ6_getChars_ba4f3_44 : decode cJ6_getChars_ba4f3 44 = .ok (.iinc 5 (-1), 3) := by decide +kernel
theorem dJ6_getChars_ba4f3_47 : decode cJ6_getChars_ba4f3 47 = .ok (.iload 5, 2) := by decide +kernel
theorem dJ6_getChars_ba4f3_49 : decode cJ6_getChars_ba4f3 49 = .ok (.getstatic 83, 3) := by decide +kernel
theorem dJ6_getChars_ba4f3_52 : decode cJ6_getChars_ba4f3 52 = .ok (.iload 4, 2) := by decide +kernel
theorem dJ6_getChars_ba4f3_54 : decode cJ6_getChars_ba4f3 54 = .ok (.baload, 1) := by decide +kernel
theorem dJ6_getChars_ba4f3_55 : decode cJ6_getChars_ba4f3 55 = .ok (.bastore, 1) := by decide +kernel
theorem dJ6_getChars_ba4f3_56 : decode cJ6_getChars_ba4f3 56 = .ok (.aload_n 2, 1) := by decide +kernel
theorem dJ6_getChars_ba4f3_57 : decode cJ6_getChars_ba4f3 57 = .ok (.iinc 5 (-1), 3) := by decide +kernel
theorem dJ6_getChars_ba4f3_60 : decode cJ6_getChars_ba4f3 60 = .ok (.iload 5, 2) := by decide +kernel
theorem dJ6_getChars_ba4f3_62 : decode cJ6_getChars_ba4f3 62 = .ok (.getstatic 87, 3) := by decide +kernel
theorem dJ6_getChars_ba4f3_65 : decode cJ6_getChars_ba4f3 65 = .ok (.iload 4, 2) := by decide +kernel
theorem dJ6_getChars_ba4f3_67 : decode cJ6_getChars_ba4f3 67 = .ok (.baload, 1) := by decide +kernel
theorem dJ6_getChars_ba4f3_68 : decode cJ6_getChars_ba4f3 68 = .ok (.bastore, 1) := by decide +kernel
theorem dJ6_getChars_ba4f3_69 : decode cJ6_getChars_ba4f3 69 = .ok (.goto (-47), 3) := by decide +kernel
theorem dJ6_getChars_ba4f3_72 : decode cJ6_getChars_ba4f3 72 = .ok (.aload_n 2, 1) := by decide +kernel
theorem dJ6_getChars_ba4f3_73 : decode cJ6_getChars_ba4f3 73 = .ok (.iinc 5 (-1), 3) := by decide +kernel
theorem dJ6_getChars_ba4f3_76 : decode cJ6_getChars_ba4f3 76 = .ok (.iload 5, 2) := by decide +kernel
theorem dJ6_getChars_ba4f3_78 : decode cJ6_getChars_ba4f3 78 = .ok (.getstatic 83, 3) := by decide +kernel
theorem dJ6_getChars_ba4f3_81 : decode cJ6_getChars_ba4f3 81 = .ok (.iload_n 0, 1) := by decide +kernel
theorem dJ6_getChars_ba4f3_82 : decode cJ6_getChars_ba4f3 82 = .ok (.ineg, 1) := by decide +kernel
theorem dJ6_getChars_ba4f3_83 : decode cJ6_getChars_ba4f3 83 = .ok (.baload, 1) := by decide +kernel
theorem dJ6_getChars_ba4f3_84 : decode cJ6_getChars_ba4f3 84 = .ok (.bastore, 1) := by decide +kernel
theorem dJ6_getChars_ba4f3_85 : decode cJ6_getChars_ba4f3 85 = .ok (.iload_n 0, 1) := by decide +kernel
theorem dJ6_getChars_ba4f3_86 : decode cJ6_getChars_ba4f3 86 = .ok (.bipush (-9), 2) := by decide +kernel
theorem dJ6_getChars_ba4f3_88 : decode cJ6_getChars_ba4f3 88 = .ok (.if_icmp .ge 16, 3) := by decide +kernel
theorem dJ6_getChars_ba4f3_91 : decode cJ6_getChars_ba4f3 91 = .ok (.aload_n 2, 1) := by decide +kernel
theorem dJ6_getChars_ba4f3_92 : decode cJ6_getChars_ba4f3 92 = .ok (.iinc 5 (-1), 3) := by decide +kernel
theorem dJ6_getChars_ba4f3_95 : decode cJ6_getChars_ba4f3 95 = .ok (.iload 5, 2) := by decide +kernel
theorem dJ6_getChars_ba4f3_97 : decode cJ6_getChars_ba4f3 97 = .ok (.getstatic 87, 3) := by decide +kernel
theorem dJ6_getChars_ba4f3_100 : decode cJ6_getChars_ba4f3 100 = .ok (.iload_n 0, 1) := by decide +kernel
theorem dJ6_getChars_ba4f3_101 : decode cJ6_getChars_ba4f3 101 = .ok (.ineg, 1) := by decide +kernel
theorem dJ6_getChars_ba4f3_102 : decode cJ6_getChars_ba4f3 102 = .ok (.baload, 1) := by decide +kernel
theorem dJ6_getChars_ba4f3_103 : decode cJ6_getChars_ba4f3 103 = .ok (.bastore, 1) := by decide +kernel
theorem dJ6_getChars_ba4f3_104 : decode cJ6_getChars_ba4f3 104 = .ok (.iload 6, 2) := by decide +kernel
theorem dJ6_getChars_ba4f3_106 : decode cJ6_getChars_ba4f3 106 = .ok (.ifCond .eq 12, 3) := by decide +kernel
theorem dJ6_getChars_ba4f3_109 : decode cJ6_getChars_ba4f3 109 = .ok (.aload_n 2, 1) := by decide +kernel
theorem dJ6_getChars_ba4f3_110 : decode cJ6_getChars_ba4f3 110 = .ok (.iinc 5 (-1), 3) := by decide +kernel
theorem dJ6_getChars_ba4f3_113 : decode cJ6_getChars_ba4f3 113 = .ok (.iload 5, 2) := by decide +kernel
theorem dJ6_getChars_ba4f3_115 : decode cJ6_getChars_ba4f3 115 = .ok (.bipush 45, 2) := by decide +kernel
theorem dJ6_getChars_ba4f3_117 : decode cJ6_getChars_ba4f3 117 = .ok (.bastore, 1) := by decide +kernel
theorem dJ6_getChars_ba4f3_118 : decode cJ6_getChars_ba4f3 118 = .ok (.iload 5, 2) := by decide +kernel
theorem dJ6_getChars_ba4f3_120 : decode cJ6_getChars_ba4f3 120 = .ok (.ireturn, 1) := by decide +kernel
theorem dJ6_stringSize_0f7a4_0 : decode cJ6_stringSize_0f7a4 0 = .ok (.iconst 1, 1) := by decide +kernel
theorem dJ6_stringSize_0f7a4_1 : decode cJ6_stringSize_0f7a4 1 = .ok (.istore_n 1, 1) := by decide +kernel
theorem dJ6_stringSize_0f7a4_2 : decode cJ6_stringSize_0f7a4 2 = .ok (.iload_n 0, 1) := by decide +kernel
theorem dJ6_stringSize_0f7a4_3 : decode cJ6_stringSize_0f7a4 3 = .ok (.ifCond .lt 8, 3) := by decide +kernel
theorem dJ6_stringSize_0f7a4_6 : decode cJ6_stringSize_0f7a4 6 = .ok (.iconst 0, 1) := by decide +kernel
theorem dJ6_stringSize_0f7a4_7 : decode cJ6_stringSize_0f7a4 7 = .ok (.istore_n 1, 1) := by decide +kernel
theorem dJ6_stringSize_0f7a4_8 : decode cJ6_stringSize_0f7a4 8 = .ok (.iload_n 0, 1) := by decide +kernel
theorem dJ6_stringSize_0f7a4_9 : decode cJ6_stringSize_0f7a4 9 = .ok (.ineg, 1) := by decide +kernel
theorem dJ6_stringSize_0f7a4_10 : decode cJ6_stringSize_0f7a4 10 = .ok (.istore_n 0, 1) := by decide +kernel
theorem dJ6_stringSize_0f7a4_11 : decode cJ6_stringSize_0f7a4 11 = .ok (.bipush (-10), 2) := by decide +kernel
theorem dJ6_stringSize_0f7a4_13 : decode cJ6_stringSize_0f7a4 13 = .ok (.istore_n 2, 1) := by decide +kernel
theorem dJ6_stringSize_0f7a4_14 : decode cJ6_stringSize_0f7a4 14 = .ok (.iconst 1, 1) := by decide +kernel
theorem dJ6_stringSize_0f7a4_15 : decode cJ6_stringSize_0f7a4 15 = .ok (.istore_n 3, 1) := by decide +kernel
theorem dJ6_stringSize_0f7a4_16 : decode cJ6_stringSize_0f7a4 16 = .ok (.iload_n 3, 1) := by decide +kernel
theorem dJ6_stringSize_0f7a4_17 : decode cJ6_stringSize_0f7a4 17 = .ok (.bipush 10, 2) := by decide +kernel
theorem dJ6_stringSize_0f7a4_19 : decode cJ6_stringSize_0f7a4 19 = .ok (.if_icmp .ge 23, 3) := by decide +kernel
theorem dJ6_stringSize_0f7a4_22 : decode cJ6_stringSize_0f7a4 22 = .ok (.iload_n 0, 1) := by decide +kernel
theorem dJ6_stringSize_0f7a4_23 : decode cJ6_stringSize_0f7a4 23 = .ok (.iload_n 2, 1) := by decide +kernel
theorem dJ6_stringSize_0f7a4_24 : decode cJ6_stringSize_0f7a4 24 = .ok (.if_icmp .le 7, 3) := by decide +kernel
theorem dJ6_stringSize_0f7a4_27 : decode cJ6_stringSize_0f7a4 27 = .ok (.iload_n 3, 1) := by decide +kernel
theorem dJ6_stringSize_0f7a4_28 : decode cJ6_stringSize_0f7a4 28 = .ok (.iload_n 1, 1) := by decide +kernel
theorem dJ6_stringSize_0f7a4_29 : decode cJ6_stringSize_0f7a4 29 = .ok (.iadd, 1) := by decide +kernel
theorem dJ6_stringSize_0f7a4_30 : decode cJ6_stringSize_0f7a4 30 = .ok (.ireturn, 1) := by decide +kernel
theorem dJ6_stringSize_0f7a4_31 : decode cJ6_stringSize_0f7a4 31 = .ok (.bipush 10, 2) := by decide +kernel
theorem dJ6_stringSize_0f7a4_33 : decode cJ6_stringSize_0f7a4 33 = .ok (.iload_n 2, 1) := by decide +kernel
theorem dJ6_stringSize_0f7a4_34 : decode cJ6_stringSize_0f7a4 34 = .ok (.imul, 1) := by decide +kernel
theorem dJ6_stringSize_0f7a4_35 : decode cJ6_stringSize_0f7a4 35 = .ok (.istore_n 2, 1) := by decide +kernel
theorem dJ6_stringSize_0f7a4_36 : decode cJ6_stringSize_0f7a4 36 = .ok (.iinc 3 1, 3) := by decide +kernel
theorem dJ6_stringSize_0f7a4_39 : decode cJ6_stringSize_0f7a4 39 = .ok (.goto (-23), 3) := by decide +kernel
theorem dJ6_stringSize_0f7a4_42 : decode cJ6_stringSize_0f7a4 42 = .ok (.bipush 10, 2) := by decide +kernel
theorem dJ6_stringSize_0f7a4_44 : decode cJ6_stringSize_0f7a4 44 = .ok (.iload_n 1, 1) := by decide +kernel
theorem dJ6_stringSize_0f7a4_45 : decode cJ6_stringSize_0f7a4 45 = .ok (.iadd, 1) := by decide +kernel
theorem dJ6_stringSize_0f7a4_46 : decode cJ6_stringSize_0f7a4 46 = .ok (.ireturn, 1) := by decide +kernel
theorem dJ9_max_7cf53_0 : decode cJ9_max_7cf53 0 = .ok (.iload_n 0, 1) := by decide +kernel
theorem dJ9_max_7cf53_1 : decode cJ9_max_7cf53 1 = .ok (.iload_n 1, 1) := by decide +kernel
theorem dJ9_max_7cf53_2 : decode cJ9_max_7cf53 2 = .ok (.if_icmp .lt 7, 3) := by decide +kernel
theorem dJ9_max_7cf53_5 : decode cJ9_max_7cf53 5 = .ok (.iload_n 0, 1) := by decide +kernel
theorem dJ9_max_7cf53_6 : decode cJ9_max_7cf53 6 = .ok (.goto 4, 3) := by decide +kernel
theorem dJ9_max_7cf53_9 : decode cJ9_max_7cf53 9 = .ok (.iload_n 1, 1) := by decide +kernel
theorem dJ9_max_7cf53_10 : decode cJ9_max_7cf53 10 = .ok (.ireturn, 1) := by decide +kernel
theorem dJ9_min_7cf53_0 : decode cJ9_min_7cf53 0 = .ok (.iload_n 0, 1) := by decide +kernel
theorem dJ9_min_7cf53_1 : decode cJ9_min_7cf53 1 = .ok (.iload_n 1, 1) := by decide +kernel
theorem dJ9_min_7cf53_2 : decode cJ9_min_7cf53 2 = .ok (.if_icmp .gt 7, 3) := by decide +kernel
theorem dJ9_min_7cf53_5 : decode cJ9_min_7cf53 5 = .ok (.iload_n 0, 1) := by decide +kernel
theorem dJ9_min_7cf53_6 : decode cJ9_min_7cf53 6 = .ok (.goto 4, 3) := by decide +kernel
theorem dJ9_min_7cf53_9 : decode cJ9_min_7cf53 9 = .ok (.iload_n 1, 1) := by decide +kernel
theorem dJ9_min_7cf53_10 : decode cJ9_min_7cf53 10 = .ok (.ireturn, 1) := by decide +kernel
theorem dJ0_init_81219_0 : decode cJ0_init_81219 0 = .ok (.aload_n 0, 1) := by decide +kernel
theorem dJ0_init_81219_1 : decode cJ0_init_81219 1 = .ok (.aload_n 1, 1) := by decide +kernel
theorem dJ0_init_81219_2 : decode cJ0_init_81219 2 = .ok (.aconst_null, 1) := by decide +kernel
theorem dJ0_init_81219_3 : decode cJ0_init_81219 3 = .ok (.invokespecial 489, 3) := by decide +kernel
theorem dJ0_init_81219_6 : decode cJ0_init_81219 6 = .ok (.return_, 1) := by decide +kernel
theorem dJ0_length_8abf5_0 : decode cJ0_length_8abf5 0 = .ok (.aload_n 0, 1) := by decide +kernel
theorem dJ0_length_8abf5_1 : decode cJ0_length_8abf5 1 = .ok (.getfield 9, 3) := by decide +kernel
theorem dJ0_length_8abf5_4 : decode cJ0_length_8abf5 4 = .ok (.arraylength, 1) := by decide +kernel
theorem dJ0_length_8abf5_5 : decode cJ0_length_8abf5 5 = .ok (.aload_n 0, 1) := by decide +kernel
theorem dJ0_length_8abf5_6 : decode cJ0_length_8abf5 6 = .ok (.invokevirtual 335, 3) := by decide +kernel
theorem dJ0_length_8abf5_9 : decode cJ0_length_8abf5 9 = .ok (.ishr, 1) := by decide +kernel
theorem dJ0_length_8abf5_10 : decode cJ0_length_8abf5 10 = .ok (.ireturn, 1) := by decide +kernel
theorem dJ0_charAt_5068e_0 : decode cJ0_charAt_5068e 0 = .ok (.aload_n 0, 1) := by decide +kernel
theorem dJ0_charAt_5068e_1 : decode cJ0_charAt_5068e 1 = .ok (.invokevirtual 492, 3) := by decide +kernel
theorem dJ0_charAt_5068e_4 : decode cJ0_charAt_5068e 4 = .ok (.ifCond .eq 12, 3) := by decide +kernel
theorem dJ0_charAt_5068e_7 : decode cJ0_charAt_5068e 7 = .ok (.aload_n 0, 1) := by decide +kernel
theorem dJ0_charAt_5068e_8 : decode cJ0_charAt_5068e 8 = .ok (.getfield 9, 3) := by decide +kernel
theorem dJ0_charAt_5068e_11 : decode cJ0_charAt_5068e 11 = .ok (.iload_n 1, 1) := by decide +kernel
theorem dJ0_charAt_5068e_12 : decode cJ0_charAt_5068e 12 = .ok (.invokestatic 495, 3) := by decide +kernel
theorem dJ0_charAt_5068e_15 : decode cJ0_charAt_5068e 15 = .ok (.ireturn, 1) := by decide +kernel
theorem dJ0_charAt_5068e_16 : decode cJ0_charAt_5068e 16 = .ok (.aload_n 0, 1) := by decide +kernel
theorem dJ0_charAt_5068e_17 : decode cJ0_charAt_5068e 17 = .ok (.getfield 9, 3) := by decide +kernel
theorem dJ0_charAt_5068e_20 : decode cJ0_charAt_5068e 20 = .ok (.iload_n 1, 1) := by decide +kernel
theorem dJ0_charAt_5068e_21 : decode cJ0_charAt_5068e 21 = .ok (.invokestatic 498, 3) := by decide +kernel
theorem dJ0_charAt_5068e_24 : decode cJ0_charAt_5068e 24 = .ok (.ireturn, 1) := by decide +kernel
theorem dJ0_getBytes_840e7_0 : decode cJ0_getBytes_840e7 0 = .ok (.aload_n 0, 1) := by decide +kernel
theorem dJ0_getBytes_840e7_1 : decode cJ0_getBytes_840e7 1 = .ok (.invokevirtual 335, 3) := by decide +kernel
theorem dJ0_getBytes_840e7_4 : decode cJ0_getBytes_840e7 4 = .ok (.iload_n 3, 1) := by decide +kernel
theorem dJ0_getBytes_840e7_5 : decode cJ0_getBytes_840e7 5 = .ok (.if_icmp .ne 23, 3) := by decide +kernel
theorem dJ0_getBytes_840e7_8 : decode cJ0_getBytes_840e7 8 = .ok (.aload_n 0, 1) := by decide +kernel
theorem dJ0_getBytes_840e7_9 : decode cJ0_getBytes_840e7 9 = .ok (.getfield 9, 3) := by decide +kernel
theorem dJ0_getBytes_840e7_12 : decode cJ0_getBytes_840e7 12 = .ok (.iconst 0, 1) := by decide +kernel
theorem dJ0_getBytes_840e7_13 : decode cJ0_getBytes_840e7 13 = .ok (.aload_n 1, 1) := by decide +kernel
theorem dJ0_getBytes_840e7_14 : decode cJ0_getBytes_840e7 14 = .ok (.iload_n 2, 1) := by decide +kernel
theorem dJ0_getBytes_840e7_15 : decode cJ0_getBytes_840e7 15 = .ok (.iload_n 3, 1) := by decide +kernel
theorem dJ0_getBytes_840e7_16 : decode cJ0_getBytes_840e7 16 = .ok (.ishl, 1) := by decide +kernel
theorem dJ0_getBytes_840e7_17 : decode cJ0_getBytes_840e7 17 = .ok (.aload_n 0, 1) := by decide +kernel
theorem dJ0_getBytes_840e7_18 : decode cJ0_getBytes_840e7 18 = .ok (.getfield 9, 3) := by decide +kernel
theorem dJ0_getBytes_840e7_21 : decode cJ0_getBytes_840e7 21 = .ok (.arraylength, 1) := by decide +kernel
theorem dJ0_getBytes_840e7_22 : decode cJ0_getBytes_840e7 22 = .ok (.invokestatic 212, 3) := by decide +kernel
theorem dJ0_getBytes_840e7_25 : decode cJ0_getBytes_840e7 25 = .ok (.goto 18, 3) := by decide +kernel
theorem dJ0_getBytes_840e7_28 : decode cJ0_getBytes_840e7 28 = .ok (.aload_n 0, 1) := by decide +kernel
theorem dJ0_getBytes_840e7_29 : decode cJ0_getBytes_840e7 29 = .ok (.getfield 9, 3) := by decide +kernel
theorem dJ0_getBytes_840e7_32 : decode cJ0_getBytes_840e7 32 = .ok (.iconst 0, 1) := by decide +kernel
theorem dJ0_getBytes_840e7_33 : decode cJ0_getBytes_840e7 33 = .ok (.aload_n 1, 1) := by decide +kernel
theorem dJ0_getBytes_840e7_34 : decode cJ0_getBytes_840e7 34 = .ok (.iload_n 2, 1) := by decide +kernel
theorem dJ0_getBytes_840e7_35 : decode cJ0_getBytes_840e7 35 = .ok (.aload_n 0, 1) := by decide +kernel
theorem dJ0_getBytes_840e7_36 : decode cJ0_getBytes_840e7 36 = .ok (.getfield 9, 3) := by decide +kernel
theorem dJ0_getBytes_840e7_39 : decode cJ0_getBytes_840e7 39 = .ok (.arraylength, 1) := by decide +kernel
theorem dJ0_getBytes_840e7_40 : decode cJ0_getBytes_840e7 40 = .ok (.invokestatic 106, 3) := by decide +kernel
theorem dJ0_getBytes_840e7_43 : decode cJ0_getBytes_840e7 43 = .ok (.return_, 1) := by decide +kernel
theorem dJ0_init_db425_0 : decode cJ0_init_db425 0 = .ok (.aload_n 0, 1) := by decide +kernel
theorem dJ0_init_db425_1 : decode cJ0_init_db425 1 = .ok (.invokespecial 1, 3) := by decide +kernel
theorem dJ0_init_db425_4 : decode cJ0_init_db425 4 = .ok (.aload_n 1, 1) := by decide +kernel
theorem dJ0_init_db425_5 : decode cJ0_init_db425 5 = .ok (.invokevirtual 552, 3) := by decide +kernel
theorem dJ0_init_db425_8 : decode cJ0_init_db425 8 = .ok (.astore_n 3, 1) := by decide +kernel
theorem dJ0_init_db425_9 : decode cJ0_init_db425 9 = .ok (.aload_n 1, 1) := by decide +kernel
theorem dJ0_init_db425_10 : decode cJ0_init_db425 10 = .ok (.invokevirtual 549, 3) := by decide +kernel
theorem dJ0_init_db425_13 : decode cJ0_init_db425 13 = .ok (.istore 4, 2) := by decide +kernel
theorem dJ0_init_db425_15 : decode cJ0_init_db425 15 = .ok (.aload_n 1, 1) := by decide +kernel
theorem dJ0_init_db425_16 : decode cJ0_init_db425 16 = .ok (.invokevirtual 1047, 3) := by decide +kernel
theorem dJ0_init_db425_19 : decode cJ0_init_db425 19 = .ok (.ifCond .eq 22, 3) := by decide +kernel
theorem dJ0_init_db425_22 : decode cJ0_init_db425 22 = .ok (.aload_n 0, 1) := by decide +kernel
theorem dJ0_init_db425_23 : decode cJ0_init_db425 23 = .ok (.iconst 0, 1) := by decide +kernel
theorem dJ0_init_db425_24 : decode cJ0_init_db425 24 = .ok (.putfield 15, 3) := by decide +kernel
theorem dJ0_init_db425_27 : decode cJ0_init_db425 27 = .ok (.aload_n 0, 1) := by decide +kernel
theorem dJ0_init_db425_28 : decode cJ0_init_db425 28 = .ok (.aload_n 3, 1) := by decide +kernel
theorem dJ0_init_db425_29 : decode cJ0_init_db425 29 = .ok (.iconst 0, 1) := by decide +kernel
theorem dJ0_init_db425_30 : decode cJ0_init_db425 30 = .ok (.iload 4, 2) := by decide +kernel
theorem dJ0_init_db425_32 : decode cJ0_init_db425 32 = .ok (.invokestatic 54, 3) := by decide +kernel
theorem dJ0_init_db425_35 : decode cJ0_init_db425 35 = .ok (.putfield 9, 3) := by decide +kernel
theorem dJ0_init_db425_38 : decode cJ0_init_db425 38 = .ok (.goto 59, 3) := by decide +kernel
theorem dJ0_init_db425_41 : decode cJ0_init_db425 41 = .ok (.getstatic 38, 3) := by decide +kernel
theorem dJ0_init_db425_44 : decode cJ0_init_db425 44 = .ok (.ifCond .eq 35, 3) := by decide +kernel
theorem dJ0_init_db425_47 : decode cJ0_init_db425 47 = .ok (.aload_n 1, 1) := by decide +kernel
theorem dJ0_init_db425_48 : decode cJ0_init_db425 48 = .ok (.getfield 1048, 3) := by decide +kernel
theorem dJ0_init_db425_51 : decode cJ0_init_db425 51 = .ok (.ifCond .eq 28, 3) := by decide +kernel
theorem dJ0_init_db425_54 : decode cJ0_init_db425 54 = .ok (.aload_n 0, 1) := by decide +kernel
theorem dJ0_init_db425_55 : decode cJ0_init_db425 55 = .ok (.aload_n 3, 1) := by decide +kernel
theorem dJ0_init_db425_56 : decode cJ0_init_db425 56 = .ok (.iconst 0, 1) := by decide +kernel
theorem dJ0_init_db425_57 : decode cJ0_init_db425 57 = .ok (.iload 4, 2) := by decide +kernel
theorem dJ0_init_db425_59 : decode cJ0_init_db425 59 = .ok (.invokestatic 1051, 3) := by decide +kernel
theorem dJ0_init_db425_62 : decode cJ0_init_db425 62 = .ok (.putfield 9, 3) := by decide +kernel
theorem dJ0_init_db425_65 : decode cJ0_init_db425 65 = .ok (.aload_n 0, 1) := by decide +kernel
theorem dJ0_init_db425_66 : decode cJ0_init_db425 66 = .ok (.aload_n 0, 1) := by decide +kernel
theorem dJ0_init_db425_67 : decode cJ0_init_db425 67 = .ok (.getfield 9, 3) := by decide +kernel
theorem dJ0_init_db425_70 : decode cJ0_init_db425 70 = .ok (.iload 4, 2) := by decide +kernel
theorem dJ0_init_db425_72 : decode cJ0_init_db425 72 = .ok (.invokestatic 47, 3) := by decide +kernel
theorem dJ0_init_db425_75 : decode cJ0_init_db425 75 = .ok (.putfield 15, 3) := by decide +kernel
theorem dJ0_init_db425_78 : decode cJ0_init_db425 78 = .ok (.return_, 1) := by decide +kernel
theorem dJ0_init_db425_79 : decode cJ0_init_db425 79 = .ok (.aload_n 0, 1) := by decide +kernel
theorem dJ0_init_db425_80 : decode cJ0_init_db425 80 = .ok (.iconst 1, 1) := by decide +kernel
theorem dJ0_init_db425_81 : decode cJ0_init_db425 81 = .ok (.putfield 15, 3) := by decide +kernel
theorem dJ0_init_db425_84 : decode cJ0_init_db425 84 = .ok (.aload_n 0, 1) := by decide +kernel
theorem dJ0_init_db425_85 : decode cJ0_init_db425 85 = .ok (.aload_n 3, 1) := by decide +kernel
theorem dJ0_init_db425_86 : decode cJ0_init_db425 86 = .ok (.iconst 0, 1) := by decide +kernel
theorem dJ0_init_db425_87 : decode cJ0_init_db425 87 = .ok (.iload 4, 2) := by decide +kernel
theorem dJ0_init_db425_89 : decode cJ0_init_db425 89 = .ok (.iconst 1, 1) := by decide +kernel
theorem dJ0_init_db425_90 : decode cJ0_init_db425 90 = .ok (.ishl, 1) := by decide +kernel
theorem dJ0_init_db425_91 : decode cJ0_init_db425 91 = .ok (.invokestatic 54, 3) := by decide +kernel
theorem dJ0_init_db425_94 : decode cJ0_init_db425 94 = .ok (.putfield 9, 3) := by decide +kernel
theorem dJ0_init_db425_97 : decode cJ0_init_db425 97 = .ok (.return_, 1) := by decide +kernel
theorem dJ0_coder_7d493_0 : decode cJ0_coder_7d493 0 = .ok (.getstatic 38, 3) := by decide +kernel
theorem dJ0_coder_7d493_3 : decode cJ0_coder_7d493 3 = .ok (.ifCond .eq 10, 3) := by decide +kernel
theorem dJ0_coder_7d493_6 : decode cJ0_coder_7d493 6 = .ok (.aload_n 0, 1) := by decide +kernel
theorem dJ0_coder_7d493_7 : decode cJ0_coder_7d493 7 = .ok (.getfield 15, 3) := by decide +kernel
theorem dJ0_coder_7d493_10 : decode cJ0_coder_7d493 10 = .ok (.goto 4, 3) := by decide +kernel
theorem dJ0_coder_7d493_13 : decode cJ0_coder_7d493 13 = .ok (.iconst 1, 1) := by decide +kernel
theorem dJ0_coder_7d493_14 : decode cJ0_coder_7d493 14 = .ok (.ireturn, 1) := by decide +kernel
theorem dJ0_isLatin1_aae02_0 : decode cJ0_isLatin1_aae02 0 = .ok (.getstatic 38, 3) := by decide +kernel
theorem dJ0_isLatin1_aae02_3 : decode cJ0_isLatin1_aae02 3 = .ok (.ifCond .eq 14, 3) := by decide +kernel
theorem dJ0_isLatin1_aae02_6 : decode cJ0_isLatin1_aae02 6 = .ok (.aload_n 0, 1) := by decide +kernel
theorem dJ0_isLatin1_aae02_7 : decode cJ0_isLatin1_aae02 7 = .ok (.getfield 15, 3) := by decide +kernel
theorem dJ0_isLatin1_aae02_10 : decode cJ0_isLatin1_aae02 10 = .ok (.ifCond .ne 7, 3) := by decide +kernel
theorem dJ0_isLatin1_aae02_13 : decode cJ0_isLatin1_aae02 13 = .ok (.iconst 1, 1) := by decide +kernel
theorem dJ0_isLatin1_aae02_14 : decode cJ0_isLatin1_aae02 14 = .ok (.goto 4, 3) := by decide +kernel
theorem dJ0_isLatin1_aae02_17 : decode cJ0_isLatin1_aae02 17 = .ok (.iconst 0, 1) := by decide +kernel
theorem dJ0_isLatin1_aae02_18 : decode cJ0_isLatin1_aae02 18 = .ok (.ireturn, 1) := by decide +kernel
theorem dJ0_checkIndex_df160_0 : decode cJ0_checkIndex_df160 0 = .ok (.iload_n 0, 1) := by decide +kernel
theorem dJ0_checkIndex_df160_1 : decode cJ0_checkIndex_df160 1 = .ok (.iload_n 1, 1) := by decide +kernel
theorem dJ0_checkIndex_df160_2 : decode cJ0_checkIndex_df160 2 = .ok (.getstatic 1053, 3) := by decide +kernel
theorem dJ0_checkIndex_df160_5 : decode cJ0_checkIndex_df160 5 = .ok (.invokestatic 1059, 3) := by decide +kernel
theorem dJ0_checkIndex_df160_8 : decode cJ0_checkIndex_df160 8 = .ok (.pop, 1) := by decide +kernel
theorem dJ0_checkIndex_df160_9 : decode cJ0_checkIndex_df160 9 = .ok (.return_, 1) := by decide +kernel
theorem dJ0_checkBoundsOffCount_cabcc_0 : decode cJ0_checkBoundsOffCount_cabcc 0 = .ok (.iload_n 0, 1) := by decide +kernel
theorem dJ0_checkBoundsOffCount_cabcc_1 : decode cJ0_checkBoundsOffCount_cabcc 1 = .ok (.iload_n 1, 1) := by decide +kernel
theorem dJ0_checkBoundsOffCount_cabcc_2 : decode cJ0_checkBoundsOffCount_cabcc 2 = .ok (.iload_n 2, 1) := by decide +kernel
theorem dJ0_checkBoundsOffCount_cabcc_3 : decode cJ0_checkBoundsOffCount_cabcc 3 = .ok (.getstatic 1053, 3) := by decide +kernel
theorem dJ0_checkBoundsOffCount_cabcc_6 : decode cJ0_checkBoundsOffCount_cabcc 6 = .ok (.invokestatic 1065, 3) := by decide +kernel
theorem dJ0_checkBoundsOffCount_cabcc_9 : decode cJ0_checkBoundsOffCount_cabcc 9 = .ok (.ireturn, 1) := by decide +kernel
theorem dJ0_checkBoundsBeginEnd_23922_0 : decode cJ0_checkBoundsBeginEnd_23922 0 = .ok (.iload_n 0, 1) := by decide +kernel
theorem dJ0_checkBoundsBeginEnd_23922_1 : decode cJ0_checkBoundsBeginEnd_23922 1 = .ok (.iload_n 1, 1) := by decide +kernel
theorem dJ0_checkBoundsBeginEnd_23922_2 : decode cJ0_checkBoundsBeginEnd_23922 2 = .ok (.iload_n 2, 1) := by decide +kernel
theorem dJ0_checkBoundsBeginEnd_23922_3 : decode cJ0_checkBoundsBeginEnd_23922 3 = .ok (.getstatic 1053, 3) := by decide +kernel
theorem dJ0_checkBoundsBeginEnd_23922_6 : decode cJ0_checkBoundsBeginEnd_23922 6 = .ok (.invokestatic 1062, 3) := by decide +kernel
theorem dJ0_checkBoundsBeginEnd_23922_9 : decode cJ0_checkBoundsBeginEnd_23922 9 = .ok (.pop, 1) := by decide +kernel
theorem dJ0_checkBoundsBeginEnd_23922_10 : decode cJ0_checkBoundsBeginEnd_23922 10 = .ok (.return_, 1) := by decide +kernel
theorem dJ4_init_da8c8_0 : decode cJ4_init_da8c8 0 = .ok (.aload_n 0, 1) := by decide +kernel
theorem dJ4_init_da8c8_1 : decode cJ4_init_da8c8 1 = .ok (.bipush 16, 2) := by decide +kernel
theorem dJ4_init_da8c8_3 : decode cJ4_init_da8c8 3 = .ok (.invokespecial 1, 3) := by decide +kernel
theorem dJ4_init_da8c8_6 : decode cJ4_init_da8c8 6 = .ok (.return_, 1) := by decide +kernel
theorem dJ4_append_15ec4_0 : decode cJ4_append_15ec4 0 = .ok (.aload_n 0, 1) := by decide +kernel
theorem dJ4_append_15ec4_1 : decode cJ4_append_15ec4 1 = .ok (.aload_n 1, 1) := by decide +kernel
theorem dJ4_append_15ec4_2 : decode cJ4_append_15ec4 2 = .ok (.invokespecial 29, 3) := by decide +kernel
theorem dJ4_append_15ec4_5 : decode cJ4_append_15ec4 5 = .ok (.pop, 1) := by decide +kernel
theorem dJ4_append_15ec4_6 : decode cJ4_append_15ec4 6 = .ok (.aload_n 0, 1) := by decide +kernel
theorem dJ4_append_15ec4_7 : decode cJ4_append_15ec4 7 = .ok (.areturn, 1) := by decide +kernel
theorem dJ4_append_cf468_0 : decode cJ4_append_cf468 0 = .ok (.aload_n 0, 1) := by decide +kernel
theorem dJ4_append_cf468_1 : decode cJ4_append_cf468 1 = .ok (.iload_n 1, 1) := by decide +kernel
theorem dJ4_append_cf468_2 : decode cJ4_append_cf468 2 = .ok (.invokespecial 50, 3) := by decide +kernel
theorem dJ4_append_cf468_5 : decode cJ4_append_cf468 5 = .ok (.pop, 1) := by decide +kernel
theorem dJ4_append_cf468_6 : decode cJ4_append_cf468 6 = .ok (.aload_n 0, 1) := by decide +kernel
theorem dJ4_append_cf468_7 : decode cJ4_append_cf468 7 = .ok (.areturn, 1) := by decide +kernel
theorem dJ4_append_bf812_0 : decode cJ4_append_bf812 0 = .ok (.aload_n 0, 1) := by decide +kernel
theorem dJ4_append_bf812_1 : decode cJ4_append_bf812 1 = .ok (.iload_n 1, 1) := by decide +kernel
theorem dJ4_append_bf812_2 : decode cJ4_append_bf812 2 = .ok (.invokespecial 53, 3) := by decide +kernel
theorem dJ4_append_bf812_5 : decode cJ4_append_bf812 5 = .ok (.pop, 1) := by decide +kernel
theorem dJ4_append_bf812_6 : decode cJ4_append_bf812 6 = .ok (.aload_n 0, 1) := by decide +kernel
theorem dJ4_append_bf812_7 : decode cJ4_append_bf812 7 = .ok (.areturn, 1) := by decide +kernel
theorem dJ4_toString_0e30d_0 : decode cJ4_toString_0e30d 0 = .ok (.new 18, 3) := by decide +kernel
theorem dJ4_toString_0e30d_3 : decode cJ4_toString_0e30d 3 = .ok (.dup, 1) := by decide +kernel
theorem dJ4_toString_0e30d_4 : decode cJ4_toString_0e30d 4 = .ok (.aload_n 0, 1) := by decide +kernel
theorem dJ4_toString_0e30d_5 : decode cJ4_toString_0e30d 5 = .ok (.invokespecial 137, 3) := by decide +kernel
theorem dJ4_toString_0e30d_8 : decode cJ4_toString_0e30d 8 = .ok (.areturn, 1) := by decide +kernel
theorem dJ4_charAt_5068e_0 : decode cJ4_charAt_5068e 0 = .ok (.aload_n 0, 1) := by decide +kernel
theorem dJ4_charAt_5068e_1 : decode cJ4_charAt_5068e 1 = .ok (.iload_n 1, 1) := by decide +kernel
theorem dJ4_charAt_5068e_2 : decode cJ4_charAt_5068e 2 = .ok (.invokespecial 329, 3) := by decide +kernel
theorem dJ4_charAt_5068e_5 : decode cJ4_charAt_5068e 5 = .ok (.ireturn, 1) := by decide +kernel
theorem dJ4_setLength_d00df_0 : decode cJ4_setLength_d00df 0 = .ok (.aload_n 0, 1) := by decide +kernel
theorem dJ4_setLength_d00df_1 : decode cJ4_setLength_d00df 1 = .ok (.iload_n 1, 1) := by decide +kernel
theorem dJ4_setLength_d00df_2 : decode cJ4_setLength_d00df 2 = .ok (.invokespecial 333, 3) := by decide +kernel
theorem dJ4_setLength_d00df_5 : decode cJ4_setLength_d00df 5 = .ok (.return_, 1) := by decide +kernel
theorem dJ4_length_8abf5_0 : decode cJ4_length_8abf5 0 = .ok (.aload_n 0, 1) := by decide +kernel
theorem dJ4_length_8abf5_1 : decode cJ4_length_8abf5 1 = .ok (.invokespecial 343, 3) := by decide +kernel
theorem dJ4_length_8abf5_4 : decode cJ4_length_8abf5 4 = .ok (.ireturn, 1) := by decide +kernel
theorem dJx7c733_init_d00df_0 : decode cJx7c733_init_d00df 0 = .ok (.aload_n 0, 1) := by decide +kernel
theorem dJx7c733_init_d00df_1 : decode cJx7c733_init_d00df 1 = .ok (.new 10, 3) := by decide +kernel
theorem dJx7c733_init_d00df_4 : decode cJx7c733_init_d00df 4 = .ok (.dup, 1) := by decide +kernel
theorem dJx7c733_init_d00df_5 : decode cJx7c733_init_d00df 5 = .ok (.invokespecial 12, 3) := by decide +kernel
theorem dJx7c733_init_d00df_8 : decode cJx7c733_init_d00df 8 = .ok (.ldc 13, 2) := by decide +kernel
theorem dJx7c733_init_d00df_10 : decode cJx7c733_init_d00df 10 = .ok (.invokevirtual 15, 3) := by decide +kernel
theorem dJx7c733_init_d00df_13 : decode cJx7c733_init_d00df 13 = .ok (.iload_n 1, 1) := by decide +kernel
theorem dJx7c733_init_d00df_14 : decode cJx7c733_init_d00df 14 = .ok (.invokevirtual 19, 3) := by decide +kernel
theorem dJx7c733_init_d00df_17 : decode cJx7c733_init_d00df 17 = .ok (.invokevirtual 22, 3) := by decide +kernel
theorem dJx7c733_init_d00df_20 : decode cJx7c733_init_d00df 20 = .ok (.invokespecial 7, 3) := by decide +kernel
theorem dJx7c733_init_d00df_23 : decode cJx7c733_init_d00df 23 = .ok (.return_, 1) := by decide +kernel
theorem dJ1_charAt_3b067_0 : decode cJ1_charAt_3b067 0 = .ok (.iload_n 1, 1) := by decide +kernel
theorem dJ1_charAt_3b067_1 : decode cJ1_charAt_3b067 1 = .ok (.aload_n 0, 1) := by decide +kernel
theorem dJ1_charAt_3b067_2 : decode cJ1_charAt_3b067 2 = .ok (.arraylength, 1) := by decide +kernel
theorem dJ1_charAt_3b067_3 : decode cJ1_charAt_3b067 3 = .ok (.invokestatic 9, 3) := by decide +kernel
theorem dJ1_charAt_3b067_6 : decode cJ1_charAt_3b067 6 = .ok (.aload_n 0, 1) := by decide +kernel
theorem dJ1_charAt_3b067_7 : decode cJ1_charAt_3b067 7 = .ok (.iload_n 1, 1) := by decide +kernel
theorem dJ1_charAt_3b067_8 : decode cJ1_charAt_3b067 8 = .ok (.baload, 1) := by decide +kernel
theorem dJ1_charAt_3b067_9 : decode cJ1_charAt_3b067 9 = .ok (.sipush 255, 3) := by decide +kernel
theorem dJ1_charAt_3b067_12 : decode cJ1_charAt_3b067 12 = .ok (.iand, 1) := by decide +kernel
theorem dJ1_charAt_3b067_13 : decode cJ1_charAt_3b067 13 = .ok (.i2c, 1) := by decide +kernel
theorem dJ1_charAt_3b067_14 : decode cJ1_charAt_3b067 14 = .ok (.ireturn, 1) := by decide +kernel
theorem dJ1_canEncode_fc78d_0 : decode cJ1_canEncode_fc78d 0 = .ok (.iload_n 0, 1) := by decide +kernel
theorem dJ1_canEncode_fc78d_1 : decode cJ1_canEncode_fc78d 1 = .ok (.sipush 255, 3) := by decide +kernel
theorem dJ1_canEncode_fc78d_4 : decode cJ1_canEncode_fc78d 4 = .ok (.if_icmp .gt 7, 3) := by decide +kernel
theorem dJ1_canEncode_fc78d_7 : decode cJ1_canEncode_fc78d 7 = .ok (.iconst 1, 1) := by decide +kernel
theorem dJ1_canEncode_fc78d_8 : decode cJ1_canEncode_fc78d 8 = .ok (.goto 4, 3) := by decide +kernel
theorem dJ1_canEncode_fc78d_11 : decode cJ1_canEncode_fc78d 11 = .ok (.iconst 0, 1) := by decide +kernel
theorem dJ1_canEncode_fc78d_12 : decode cJ1_canEncode_fc78d 12 = .ok (.ireturn, 1) := by decide +kernel
theorem dJ1_fillNull_b72d1_0 : decode cJ1_fillNull_b72d1 0 = .ok (.aload_n 0, 1) := by decide +kernel
theorem dJ1_fillNull_b72d1_1 : decode cJ1_fillNull_b72d1 1 = .ok (.iload_n 1, 1) := by decide +kernel
theorem dJ1_fillNull_b72d1_2 : decode cJ1_fillNull_b72d1 2 = .ok (.iload_n 2, 1) := by decide +kernel
theorem dJ1_fillNull_b72d1_3 : decode cJ1_fillNull_b72d1 3 = .ok (.iconst 0, 1) := by decide +kernel
theorem dJ1_fillNull_b72d1_4 : decode cJ1_fillNull_b72d1 4 = .ok (.invokestatic 236, 3) := by decide +kernel
theorem dJ1_fillNull_b72d1_7 : decode cJ1_fillNull_b72d1 7 = .ok (.return_, 1) := by decide +kernel
theorem dJ1_inflate_0e8fd_0 : decode cJ1_inflate_0e8fd 0 = .ok (.aload_n 0, 1) := by decide +kernel
theorem dJ1_inflate_0e8fd_1 : decode cJ1_inflate_0e8fd 1 = .ok (.iload_n 1, 1) := by decide +kernel
theorem dJ1_inflate_0e8fd_2 : decode cJ1_inflate_0e8fd 2 = .ok (.aload_n 2, 1) := by decide +kernel
theorem dJ1_inflate_0e8fd_3 : decode cJ1_inflate_0e8fd 3 = .ok (.iload_n 3, 1) := by decide +kernel
theorem dJ1_inflate_0e8fd_4 : decode cJ1_inflate_0e8fd 4 = .ok (.iload 4, 2) := by decide +kernel
theorem dJ1_inflate_0e8fd_6 : decode cJ1_inflate_0e8fd 6 = .ok (.invokestatic 240, 3) := by decide +kernel
theorem dJ1_inflate_0e8fd_9 : decode cJ1_inflate_0e8fd 9 = .ok (.return_, 1) := by decide +kernel
theorem dJ2_newBytesFor_77867_0 : decode cJ2_newBytesFor_77867 0 = .ok (.iload_n 0, 1) := by decide +kernel
theorem dJ2_newBytesFor_77867_1 : decode cJ2_newBytesFor_77867 1 = .ok (.invokestatic 11, 3) := by decide +kernel
theorem dJ2_newBytesFor_77867_4 : decode cJ2_newBytesFor_77867 4 = .ok (.newarray .byte, 2) := by decide +kernel
theorem dJ2_newBytesFor_77867_6 : decode cJ2_newBytesFor_77867 6 = .ok (.areturn, 1) := by decide +kernel
theorem dJ2_newBytesLength_0f7a4_0 : decode cJ2_newBytesLength_0f7a4 0 = .ok (.iload_n 0, 1) := by decide +kernel
theorem dJ2_newBytesLength_0f7a4_1 : decode cJ2_newBytesLength_0f7a4 1 = .ok (.ifCond .ge 11, 3) := by decide +kernel
theorem dJ2_newBytesLength_0f7a4_4 : decode cJ2_newBytesLength_0f7a4 4 = .ok (.new 17, 3) := by decide +kernel
theorem dJ2_newBytesLength_0f7a4_7 : decode cJ2_newBytesLength_0f7a4 7 = .ok (.dup, 1) := by decide +kernel
theorem dJ2_newBytesLength_0f7a4_8 : decode cJ2_newBytesLength_0f7a4 8 = .ok (.invokespecial 19, 3) := by decide +kernel
theorem dJ2_newBytesLength_0f7a4_11 : decode cJ2_newBytesLength_0f7a4 11 = .ok (.athrow, 1) := by decide +kernel
theorem dJ2_newBytesLength_0f7a4_12 : decode cJ2_newBytesLength_0f7a4 12 = .ok (.iload_n 0, 1) := by decide +kernel
theorem dJ2_newBytesLength_0f7a4_13 : decode cJ2_newBytesLength_0f7a4 13 = .ok (.ldc 20, 2) := by decide +kernel
theorem dJ2_newBytesLength_0f7a4_15 : decode cJ2_newBytesLength_0f7a4 15 = .ok (.if_icmp .lt 40, 3) := by decide +kernel
theorem dJ2_newBytesLength_0f7a4_18 : decode cJ2_newBytesLength_0f7a4 18 = .ok (.new 21, 3) := by decide +kernel
theorem dJ2_newBytesLength_0f7a4_21 : decode cJ2_newBytesLength_0f7a4 21 = .ok (.dup, 1) := by decide +kernel
theorem dJ2_newBytesLength_0f7a4_22 : decode cJ2_newBytesLength_0f7a4 22 = .ok (.new 23, 3) := by decide +kernel
theorem dJ2_newBytesLength_0f7a4_25 : decode cJ2_newBytesLength_0f7a4 25 = .ok (.dup, 1) := by decide +kernel
theorem dJ2_newBytesLength_0f7a4_26 : decode cJ2_newBytesLength_0f7a4 26 = .ok (.invokespecial 25, 3) := by decide +kernel
theorem dJ2_newBytesLength_0f7a4_29 : decode cJ2_newBytesLength_0f7a4 29 = .ok (.ldc 26, 2) := by decide +kernel
theorem dJ2_newBytesLength_0f7a4_31 : decode cJ2_newBytesLength_0f7a4 31 = .ok (.invokevirtual 28, 3) := by decide +kernel
theorem dJ2_newBytesLength_0f7a4_34 : decode cJ2_newBytesLength_0f7a4 34 = .ok (.iload_n 0, 1) := by decide +kernel
theorem dJ2_newBytesLength_0f7a4_35 : decode cJ2_newBytesLength_0f7a4 35 = .ok (.invokevirtual 32, 3) := by decide +kernel
theorem dJ2_newBytesLength_0f7a4_38 : decode cJ2_newBytesLength_0f7a4 38 = .ok (.ldc 35, 2) := by decide +kernel
theorem dJ2_newBytesLength_0f7a4_40 : decode cJ2_newBytesLength_0f7a4 40 = .ok (.invokevirtual 28, 3) := by decide +kernel
theorem dJ2_newBytesLength_0f7a4_43 : decode cJ2_newBytesLength_0f7a4 43 = .ok (.ldc 20, 2) := by decide +kernel
theorem dJ2_newBytesLength_0f7a4_45 : decode cJ2_newBytesLength_0f7a4 45 = .ok (.invokevirtual 32, 3) := by decide +kernel
theorem dJ2_newBytesLength_0f7a4_48 : decode cJ2_newBytesLength_0f7a4 48 = .ok (.invokevirtual 37, 3) := by decide +kernel
theorem dJ2_newBytesLength_0f7a4_51 : decode cJ2_newBytesLength_0f7a4 51 = .ok (.invokespecial 41, 3) := by decide +kernel
theorem dJ2_newBytesLength_0f7a4_54 : decode cJ2_newBytesLength_0f7a4 54 = .ok (.athrow, 1) := by decide +kernel
theorem dJ2_newBytesLength_0f7a4_55 : decode cJ2_newBytesLength_0f7a4 55 = .ok (.iload_n 0, 1) := by decide +kernel
theorem dJ2_newBytesLength_0f7a4_56 : decode cJ2_newBytesLength_0f7a4 56 = .ok (.iconst 1, 1) := by decide +kernel
theorem dJ2_newBytesLength_0f7a4_57 : decode cJ2_newBytesLength_0f7a4 57 = .ok (.ishl, 1) := by decide +kernel
theorem dJ2_newBytesLength_0f7a4_58 : decode cJ2_newBytesLength_0f7a4 58 = .ok (.ireturn, 1) := by decide +kernel
theorem dJ2_putChar_b72d1_0 : decode cJ2_putChar_b72d1 0 = .ok (.getstatic 44, 3) := by decide +kernel
theorem dJ2_putChar_b72d1_3 : decode cJ2_putChar_b72d1 3 = .ok (.ifCond .ne 25, 3) := by decide +kernel
theorem dJ2_putChar_b72d1_6 : decode cJ2_putChar_b72d1 6 = .ok (.iload_n 1, 1) := by decide +kernel
theorem dJ2_putChar_b72d1_7 : decode cJ2_putChar_b72d1 7 = .ok (.ifCond .lt 11, 3) := by decide +kernel
theorem dJ2_putChar_b72d1_10 : decode cJ2_putChar_b72d1 10 = .ok (.iload_n 1, 1) := by decide +kernel
theorem dJ2_putChar_b72d1_11 : decode cJ2_putChar_b72d1 11 = .ok (.aload_n 0, 1) := by decide +kernel
theorem dJ2_putChar_b72d1_12 : decode cJ2_putChar_b72d1 12 = .ok (.invokestatic 48, 3) := by decide +kernel
theorem dJ2_putChar_b72d1_15 : decode cJ2_putChar_b72d1 15 = .ok (.if_icmp .lt 13, 3) := by decide +kernel
theorem dJ2_putChar_b72d1_18 : decode cJ2_putChar_b72d1 18 = .ok (.new 52, 3) := by decide +kernel
theorem dJ2_putChar_b72d1_21 : decode cJ2_putChar_b72d1 21 = .ok (.dup, 1) := by decide +kernel
theorem dJ2_putChar_b72d1_22 : decode cJ2_putChar_b72d1 22 = .ok (.ldc 54, 2) := by decide +kernel
theorem dJ2_putChar_b72d1_24 : decode cJ2_putChar_b72d1 24 = .ok (.invokespecial 56, 3) := by decide +kernel
theorem dJ2_putChar_b72d1_27 : decode cJ2_putChar_b72d1 27 = .ok (.athrow, 1) := by decide +kernel
theorem dJ2_putChar_b72d1_28 : decode cJ2_putChar_b72d1 28 = .ok (.iload_n 1, 1) := by decide +kernel
theorem dJ2_putChar_b72d1_29 : decode cJ2_putChar_b72d1 29 = .ok (.iconst 1, 1) := by decide +kernel
theorem dJ2_putChar_b72d1_30 : decode cJ2_putChar_b72d1 30 = .ok (.ishl, 1) := by decide +kernel
theorem dJ2_putChar_b72d1_31 : decode cJ2_putChar_b72d1 31 = .ok (.istore_n 1, 1) := by decide +kernel
theorem dJ2_putChar_b72d1_32 : decode cJ2_putChar_b72d1 32 = .ok (.aload_n 0, 1) := by decide +kernel
theorem dJ2_putChar_b72d1_33 : decode cJ2_putChar_b72d1 33 = .ok (.iload_n 1, 1) := by decide +kernel
theorem dJ2_putChar_b72d1_34 : decode cJ2_putChar_b72d1 34 = .ok (.iinc 1 1, 3) := by decide +kernel
theorem dJ2_putChar_b72d1_37 : decode cJ2_putChar_b72d1 37 = .ok (.iload_n 2, 1) := by decide +kernel
theorem dJ2_putChar_b72d1_38 : decode cJ2_putChar_b72d1 38 = .ok (.getstatic 59, 3) := by decide +kernel
theorem dJ2_putChar_b72d1_41 : decode cJ2_putChar_b72d1 41 = .ok (.ishr, 1) := by decide +kernel
theorem dJ2_putChar_b72d1_42 : decode cJ2_putChar_b72d1 42 = .ok (.i2b, 1) := by decide +kernel
theorem dJ2_putChar_b72d1_43 : decode cJ2_putChar_b72d1 43 = .ok (.bastore, 1) := by decide +kernel
theorem dJ2_putChar_b72d1_44 : decode cJ2_putChar_b72d1 44 = .ok (.aload_n 0, 1) := by decide +kernel
theorem dJ2_putChar_b72d1_45 : decode cJ2_putChar_b72d1 45 = .ok (.iload_n 1, 1) := by decide +kernel
theorem dJ2_putChar_b72d1_46 : decode cJ2_putChar_b72d1 46 = .ok (.iload_n 2, 1) := by decide +kernel
theorem dJ2_putChar_b72d1_47 : decode cJ2_putChar_b72d1 47 = .ok (.getstatic 63, 3) := by decide +kernel
theorem dJ2_putChar_b72d1_50 : decode cJ2_putChar_b72d1 50 = .ok (.ishr, 1) := by decide +kernel
theorem dJ2_putChar_b72d1_51 : decode cJ2_putChar_b72d1 51 = .ok (.i2b, 1) := by decide +kernel
theorem dJ2_putChar_b72d1_52 : decode cJ2_putChar_b72d1 52 = .ok (.bastore, 1) := by decide +kernel
theorem dJ2_putChar_b72d1_53 : decode cJ2_putChar_b72d1 53 = .ok (.return_, 1) := by decide +kernel
theorem dJ2_getChar_3b067_0 : decode cJ2_getChar_3b067 0 = .ok (.getstatic 44, 3) := by decide +kernel
theorem dJ2_getChar_3b067_3 : decode cJ2_getChar_3b067 3 = .ok (.ifCond .ne 25, 3) := by decide +kernel
theorem dJ2_getChar_3b067_6 : decode cJ2_getChar_3b067 6 = .ok (.iload_n 1, 1) := by decide +kernel
theorem dJ2_getChar_3b067_7 : decode cJ2_getChar_3b067 7 = .ok (.ifCond .lt 11, 3) := by decide +kernel
theorem dJ2_getChar_3b067_10 : decode cJ2_getChar_3b067 10 = .ok (.iload_n 1, 1) := by decide +kernel
theorem dJ2_getChar_3b067_11 : decode cJ2_getChar_3b067 11 = .ok (.aload_n 0, 1) := by decide +kernel
theorem dJ2_getChar_3b067_12 : decode cJ2_getChar_3b067 12 = .ok (.invokestatic 48, 3) := by decide +kernel
theorem dJ2_getChar_3b067_15 : decode cJ2_getChar_3b067 15 = .ok (.if_icmp .lt 13, 3) := by decide +kernel
theorem dJ2_getChar_3b067_18 : decode cJ2_getChar_3b067 18 = .ok (.new 52, 3) := by decide +kernel
theorem dJ2_getChar_3b067_21 : decode cJ2_getChar_3b067 21 = .ok (.dup, 1) := by decide +kernel
theorem dJ2_getChar_3b067_22 : decode cJ2_getChar_3b067 22 = .ok (.ldc 54, 2) := by decide +kernel
theorem dJ2_getChar_3b067_24 : decode cJ2_getChar_3b067 24 = .ok (.invokespecial 56, 3) := by decide +kernel
theorem dJ2_getChar_3b067_27 : decode cJ2_getChar_3b067 27 = .ok (.athrow, 1) := by decide +kernel
theorem dJ2_getChar_3b067_28 : decode cJ2_getChar_3b067 28 = .ok (.iload_n 1, 1) := by decide +kernel
theorem dJ2_getChar_3b067_29 : decode cJ2_getChar_3b067 29 = .ok (.iconst 1, 1) := by decide +kernel
theorem dJ2_getChar_3b067_30 : decode cJ2_getChar_3b067 30 = .ok (.ishl, 1) := by decide +kernel
theorem dJ2_getChar_3b067_31 : decode cJ2_getChar_3b067 31 = .ok (.istore_n 1, 1) := by decide +kernel
theorem dJ2_getChar_3b067_32 : decode cJ2_getChar_3b067 32 = .ok (.aload_n 0, 1) := by decide +kernel
theorem dJ2_getChar_3b067_33 : decode cJ2_getChar_3b067 33 = .ok (.iload_n 1, 1) := by decide +kernel
theorem dJ2_getChar_3b067_34 : decode cJ2_getChar_3b067 34 = .ok (.iinc 1 1, 3) := by decide +kernel
theorem dJ2_getChar_3b067_37 : decode cJ2_getChar_3b067 37 = .ok (.baload, 1) := by decide +kernel
theorem dJ2_getChar_3b067_38 : decode cJ2_getChar_3b067 38 = .ok (.sipush 255, 3) := by decide +kernel
theorem dJ2_getChar_3b067_41 : decode cJ2_getChar_3b067 41 = .ok (.iand, 1) := by decide +kernel
theorem dJ2_getChar_3b067_42 : decode cJ2_getChar_3b067 42 = .ok (.getstatic 59, 3) := by decide +kernel
theorem dJ2_getChar_3b067_45 : decode cJ2_getChar_3b067 45 = .ok (.ishl, 1) := by decide +kernel
theorem dJ2_getChar_3b067_46 : decode cJ2_getChar_3b067 46 = .ok (.aload_n 0, 1) := by decide +kernel
theorem dJ2_getChar_3b067_47 : decode cJ2_getChar_3b067 47 = .ok (.iload_n 1, 1) := by decide +kernel
theorem dJ2_getChar_3b067_48 : decode cJ2_getChar_3b067 48 = .ok (.baload, 1) := by decide +kernel
theorem dJ2_getChar_3b067_49 : decode cJ2_getChar_3b067 49 = .ok (.sipush 255, 3) := by decide +kernel
theorem dJ2_getChar_3b067_52 : decode cJ2_getChar_3b067 52 = .ok (.iand, 1) := by decide +kernel
theorem dJ2_getChar_3b067_53 : decode cJ2_getChar_3b067 53 = .ok (.getstatic 63, 3) := by decide +kernel
theorem dJ2_getChar_3b067_56 : decode cJ2_getChar_3b067 56 = .ok (.ishl, 1) := by decide +kernel
theorem dJ2_getChar_3b067_57 : decode cJ2_getChar_3b067 57 = .ok (.ior, 1) := by decide +kernel
theorem dJ2_getChar_3b067_58 : decode cJ2_getChar_3b067 58 = .ok (.i2c, 1) := by decide +kernel
theorem dJ2_getChar_3b067_59 : decode cJ2_getChar_3b067 59 = .ok (.ireturn, 1) := by decide +kernel
theorem dJ2_length_9d52b_0 : decode cJ2_length_9d52b 0 = .ok (.aload_n 0, 1) := by decide +kernel
theorem dJ2_length_9d52b_1 : decode cJ2_length_9d52b 1 = .ok (.arraylength, 1) := by decide +kernel
theorem dJ2_length_9d52b_2 : decode cJ2_length_9d52b 2 = .ok (.iconst 1, 1) := by decide +kernel
theorem dJ2_length_9d52b_3 : decode cJ2_length_9d52b 3 = .ok (.ishr, 1) := by decide +kernel
theorem dJ2_length_9d52b_4 : decode cJ2_length_9d52b 4 = .ok (.ireturn, 1) := by decide +kernel
theorem dJ2_coderFromArrayLen_85cad_0 : decode cJ2_coderFromArrayLen_85cad 0 = .ok (.iload_n 1, 1) := by decide +kernel
theorem dJ2_coderFromArrayLen_85cad_1 : decode cJ2_coderFromArrayLen_85cad 1 = .ok (.aload_n 0, 1) := by decide +kernel
theorem dJ2_coderFromArrayLen_85cad_2 : decode cJ2_coderFromArrayLen_85cad 2 = .ok (.arraylength, 1) := by decide +kernel
theorem dJ2_coderFromArrayLen_85cad_3 : decode cJ2_coderFromArrayLen_85cad 3 = .ok (.isub, 1) := by decide +kernel
theorem dJ2_coderFromArrayLen_85cad_4 : decode cJ2_coderFromArrayLen_85cad 4 = .ok (.bipush 31, 2) := by decide +kernel
theorem dJ2_coderFromArrayLen_85cad_6 : decode cJ2_coderFromArrayLen_85cad 6 = .ok (.iushr, 1) := by decide +kernel
theorem dJ2_coderFromArrayLen_85cad_7 : decode cJ2_coderFromArrayLen_85cad 7 = .ok (.i2b, 1) := by decide +kernel
theorem dJ2_coderFromArrayLen_85cad_8 : decode cJ2_coderFromArrayLen_85cad 8 = .ok (.ireturn, 1) := by decide +kernel
theorem dJ2_compress_39247_0 : decode cJ2_compress_39247 0 = .ok (.iload_n 2, 1) := by decide +kernel
theorem dJ2_compress_39247_1 : decode cJ2_compress_39247 1 = .ok (.newarray .byte, 2) := by decide +kernel
theorem dJ2_compress_39247_3 : decode cJ2_compress_39247 3 = .ok (.astore_n 3, 1) := by decide +kernel
theorem dJ2_compress_39247_4 : decode cJ2_compress_39247 4 = .ok (.aload_n 0, 1) := by decide +kernel
theorem dJ2_compress_39247_5 : decode cJ2_compress_39247 5 = .ok (.iload_n 1, 1) := by decide +kernel
theorem dJ2_compress_39247_6 : decode cJ2_compress_39247 6 = .ok (.aload_n 3, 1) := by decide +kernel
theorem dJ2_compress_39247_7 : decode cJ2_compress_39247 7 = .ok (.iconst 0, 1) := by decide +kernel
theorem dJ2_compress_39247_8 : decode cJ2_compress_39247 8 = .ok (.iload_n 2, 1) := by decide +kernel
theorem dJ2_compress_39247_9 : decode cJ2_compress_39247 9 = .ok (.invokestatic 123, 3) := by decide +kernel
theorem dJ2_compress_39247_12 : decode cJ2_compress_39247 12 = .ok (.istore 4, 2) := by decide +kernel
theorem dJ2_compress_39247_14 : decode cJ2_compress_39247 14 = .ok (.iload 4, 2) := by decide +kernel
theorem dJ2_compress_39247_16 : decode cJ2_compress_39247 16 = .ok (.iload_n 2, 1) := by decide +kernel
theorem dJ2_compress_39247_17 : decode cJ2_compress_39247 17 = .ok (.if_icmp .eq 47, 3) := by decide +kernel
theorem dJ2_compress_39247_20 : decode cJ2_compress_39247 20 = .ok (.aload_n 0, 1) := by decide +kernel
theorem dJ2_compress_39247_21 : decode cJ2_compress_39247 21 = .ok (.iload_n 1, 1) := by decide +kernel
theorem dJ2_compress_39247_22 : decode cJ2_compress_39247 22 = .ok (.iconst 1, 1) := by decide +kernel
theorem dJ2_compress_39247_23 : decode cJ2_compress_39247 23 = .ok (.ishl, 1) := by decide +kernel
theorem dJ2_compress_39247_24 : decode cJ2_compress_39247 24 = .ok (.iload_n 1, 1) := by decide +kernel
theorem dJ2_compress_39247_25 : decode cJ2_compress_39247 25 = .ok (.iload_n 2, 1) := by decide +kernel
theorem dJ2_compress_39247_26 : decode cJ2_compress_39247 26 = .ok (.iadd, 1) := by decide +kernel
theorem dJ2_compress_39247_27 : decode cJ2_compress_39247 27 = .ok (.invokestatic 11, 3) := by decide +kernel
theorem dJ2_compress_39247_30 : decode cJ2_compress_39247 30 = .ok (.invokestatic 126, 3) := by decide +kernel
theorem dJ2_compress_39247_33 : decode cJ2_compress_39247 33 = .ok (.astore 5, 2) := by decide +kernel
theorem dJ2_compress_39247_35 : decode cJ2_compress_39247 35 = .ok (.aload 5, 2) := by decide +kernel
theorem dJ2_compress_39247_37 : decode cJ2_compress_39247 37 = .ok (.iload 4, 2) := by decide +kernel
theorem dJ2_compress_39247_39 : decode cJ2_compress_39247 39 = .ok (.invokestatic 71, 3) := by decide +kernel
theorem dJ2_compress_39247_42 : decode cJ2_compress_39247 42 = .ok (.sipush 255, 3) := by decide +kernel
theorem dJ2_compress_39247_45 : decode cJ2_compress_39247 45 = .ok (.if_icmp .gt 16, 3) := by decide +kernel
theorem dJ2_compress_39247_48 : decode cJ2_compress_39247 48 = .ok (.aload 5, 2) := by decide +kernel
theorem dJ2_compress_39247_50 : decode cJ2_compress_39247 50 = .ok (.iconst 0, 1) := by decide +kernel
theorem dJ2_compress_39247_51 : decode cJ2_compress_39247 51 = .ok (.aload_n 3, 1) := by decide +kernel
theorem dJ2_compress_39247_52 : decode cJ2_compress_39247 52 = .ok (.iconst 0, 1) := by decide +kernel
theorem dJ2_compress_39247_53 : decode cJ2_compress_39247 53 = .ok (.iload_n 2, 1) := by decide +kernel
theorem dJ2_compress_39247_54 : decode cJ2_compress_39247 54 = .ok (.invokestatic 123, 3) := by decide +kernel
theorem dJ2_compress_39247_57 : decode cJ2_compress_39247 57 = .ok (.iload_n 2, 1) := by decide +kernel
theorem dJ2_compress_39247_58 : decode cJ2_compress_39247 58 = .ok (.if_icmp .eq 6, 3) := by decide +kernel
theorem dJ2_compress_39247_61 : decode cJ2_compress_39247 61 = .ok (.aload 5, 2) := by decide +kernel
theorem dJ2_compress_39247_63 : decode cJ2_compress_39247 63 = .ok (.areturn, 1) := by decide +kernel
theorem dJ2_compress_39247_64 : decode cJ2_compress_39247 64 = .ok (.aload_n 3, 1) := by decide +kernel
theorem dJ2_compress_39247_65 : decode cJ2_compress_39247 65 = .ok (.areturn, 1) := by decide +kernel
theorem dJ2_compress_5af95_0 : decode cJ2_compress_5af95 0 = .ok (.iload_n 1, 1) := by decide +kernel
theorem dJ2_compress_5af95_1 : decode cJ2_compress_5af95 1 = .ok (.iload 4, 2) := by decide +kernel
theorem dJ2_compress_5af95_3 : decode cJ2_compress_5af95 3 = .ok (.aload_n 0, 1) := by decide +kernel
theorem dJ2_compress_5af95_4 : decode cJ2_compress_5af95 4 = .ok (.invokestatic 173, 3) := by decide +kernel
theorem dJ2_compress_5af95_7 : decode cJ2_compress_5af95 7 = .ok (.iconst 0, 1) := by decide +kernel
theorem dJ2_compress_5af95_8 : decode cJ2_compress_5af95 8 = .ok (.istore 5, 2) := by decide +kernel
theorem dJ2_compress_5af95_10 : decode cJ2_compress_5af95 10 = .ok (.iload 5, 2) := by decide +kernel
theorem dJ2_compress_5af95_12 : decode cJ2_compress_5af95 12 = .ok (.iload 4, 2) := by decide +kernel
theorem dJ2_compress_5af95_14 : decode cJ2_compress_5af95 14 = .ok (.if_icmp .ge 39, 3) := by decide +kernel
theorem dJ2_compress_5af95_17 : decode cJ2_compress_5af95 17 = .ok (.aload_n 0, 1) := by decide +kernel
theorem dJ2_compress_5af95_18 : decode cJ2_compress_5af95 18 = .ok (.iload_n 1, 1) := by decide +kernel
theorem dJ2_compress_5af95_19 : decode cJ2_compress_5af95 19 = .ok (.invokestatic 71, 3) := by decide +kernel
theorem dJ2_compress_5af95_22 : decode cJ2_compress_5af95 22 = .ok (.istore 6, 2) := by decide +kernel
theorem dJ2_compress_5af95_24 : decode cJ2_compress_5af95 24 = .ok (.iload 6, 2) := by decide +kernel
theorem dJ2_compress_5af95_26 : decode cJ2_compress_5af95 26 = .ok (.sipush 255, 3) := by decide +kernel
theorem dJ2_compress_5af95_29 : decode cJ2_compress_5af95 29 = .ok (.if_icmp .le 6, 3) := by decide +kernel
theorem dJ2_compress_5af95_32 : decode cJ2_compress_5af95 32 = .ok (.iload 5, 2) := by decide +kernel
theorem dJ2_compress_5af95_34 : decode cJ2_compress_5af95 34 = .ok (.ireturn, 1) := by decide +kernel
theorem dJ2_compress_5af95_35 : decode cJ2_compress_5af95 35 = .ok (.aload_n 2, 1) := by decide +kernel
theorem dJ2_compress_5af95_36 : decode cJ2_compress_5af95 36 = .ok (.iload_n 3, 1) := by decide +kernel
theorem dJ2_compress_5af95_37 : decode cJ2_compress_5af95 37 = .ok (.iload 6, 2) := by decide +kernel
theorem dJ2_compress_5af95_39 : decode cJ2_compress_5af95 39 = .ok (.i2b, 1) := by decide +kernel
theorem dJ2_compress_5af95_40 : decode cJ2_compress_5af95 40 = .ok (.bastore, 1) := by decide +kernel
theorem dJ2_compress_5af95_41 : decode cJ2_compress_5af95 41 = .ok (.iinc 1 1, 3) := by decide +kernel
theorem dJ2_compress_5af95_44 : decode cJ2_compress_5af95 44 = .ok (.iinc 3 1, 3) := by decide +kernel
theorem dJ2_compress_5af95_47 : decode cJ2_compress_5af95 47 = .ok (.iinc 5 1, 3) := by decide +kernel
theorem dJ2_compress_5af95_50 : decode cJ2_compress_5af95 50 = .ok (.goto (-40), 3) := by decide +kernel
theorem dJ2_compress_5af95_53 : decode cJ2_compress_5af95 53 = .ok (.iload 4, 2) := by decide +kernel
theorem dJ2_compress_5af95_55 : decode cJ2_compress_5af95 55 = .ok (.ireturn, 1) := by decide +kernel
theorem dJ2_fillNull_b72d1_0 : decode cJ2_fillNull_b72d1 0 = .ok (.aload_n 0, 1) := by decide +kernel
theorem dJ2_fillNull_b72d1_1 : decode cJ2_fillNull_b72d1 1 = .ok (.iload_n 1, 1) := by decide +kernel
theorem dJ2_fillNull_b72d1_2 : decode cJ2_fillNull_b72d1 2 = .ok (.iconst 1, 1) := by decide +kernel
theorem dJ2_fillNull_b72d1_3 : decode cJ2_fillNull_b72d1 3 = .ok (.ishl, 1) := by decide +kernel
theorem dJ2_fillNull_b72d1_4 : decode cJ2_fillNull_b72d1 4 = .ok (.iload_n 2, 1) := by decide +kernel
theorem dJ2_fillNull_b72d1_5 : decode cJ2_fillNull_b72d1 5 = .ok (.iconst 1, 1) := by decide +kernel
theorem dJ2_fillNull_b72d1_6 : decode cJ2_fillNull_b72d1 6 = .ok (.ishl, 1) := by decide +kernel
theorem dJ2_fillNull_b72d1_7 : decode cJ2_fillNull_b72d1 7 = .ok (.iconst 0, 1) := by decide +kernel
theorem dJ2_fillNull_b72d1_8 : decode cJ2_fillNull_b72d1 8 = .ok (.invokestatic 380, 3) := by decide +kernel
theorem dJ2_fillNull_b72d1_11 : decode cJ2_fillNull_b72d1 11 = .ok (.return_, 1) := by decide +kernel
theorem dJ2_putCharSB_b72d1_0 : decode cJ2_putCharSB_b72d1 0 = .ok (.iload_n 1, 1) := by decide +kernel
theorem dJ2_putCharSB_b72d1_1 : decode cJ2_putCharSB_b72d1 1 = .ok (.aload_n 0, 1) := by decide +kernel
theorem dJ2_putCharSB_b72d1_2 : decode cJ2_putCharSB_b72d1 2 = .ok (.invokestatic 67, 3) := by decide +kernel
theorem dJ2_putCharSB_b72d1_5 : decode cJ2_putCharSB_b72d1 5 = .ok (.aload_n 0, 1) := by decide +kernel
theorem dJ2_putCharSB_b72d1_6 : decode cJ2_putCharSB_b72d1 6 = .ok (.iload_n 1, 1) := by decide +kernel
theorem dJ2_putCharSB_b72d1_7 : decode cJ2_putCharSB_b72d1 7 = .ok (.iload_n 2, 1) := by decide +kernel
theorem dJ2_putCharSB_b72d1_8 : decode cJ2_putCharSB_b72d1 8 = .ok (.invokestatic 111, 3) := by decide +kernel
theorem dJ2_putCharSB_b72d1_11 : decode cJ2_putCharSB_b72d1 11 = .ok (.return_, 1) := by decide +kernel
theorem dJ2_getChars_46870_0 : decode cJ2_getChars_46870 0 = .ok (.iload_n 1, 1) := by decide +kernel
theorem dJ2_getChars_46870_1 : decode cJ2_getChars_46870 1 = .ok (.iload_n 2, 1) := by decide +kernel
theorem dJ2_getChars_46870_2 : decode cJ2_getChars_46870 2 = .ok (.aload_n 3, 1) := by decide +kernel
theorem dJ2_getChars_46870_3 : decode cJ2_getChars_46870 3 = .ok (.invokestatic 96, 3) := by decide +kernel
theorem dJ2_getChars_46870_6 : decode cJ2_getChars_46870 6 = .ok (.iload_n 0, 1) := by decide +kernel
theorem dJ2_getChars_46870_7 : decode cJ2_getChars_46870 7 = .ok (.iload_n 2, 1) := by decide +kernel
theorem dJ2_getChars_46870_8 : decode cJ2_getChars_46870 8 = .ok (.aload_n 3, 1) := by decide +kernel
theorem dJ2_getChars_46870_9 : decode cJ2_getChars_46870 9 = .ok (.invokestatic 393, 3) := by decide +kernel
theorem dJ2_getChars_46870_12 : decode cJ2_getChars_46870 12 = .ok (.istore 4, 2) := by decide +kernel
theorem dJ2_getChars_46870_14 : decode cJ2_getChars_46870 14 = .ok (.getstatic 44, 3) := by decide +kernel
theorem dJ2_getChars_46870_17 : decode cJ2_getChars_46870 17 = .ok (.ifCond .ne 17, 3) := by decide +kernel
theorem dJ2_getChars_46870_20 : decode cJ2_getChars_46870 20 = .ok (.iload_n 1, 1) := by decide +kernel
theorem dJ2_getChars_46870_21 : decode cJ2_getChars_46870 21 = .ok (.iload 4, 2) := by decide +kernel
theorem dJ2_getChars_46870_23 : decode cJ2_getChars_46870 23 = .ok (.if_icmp .eq 11, 3) := by decide +kernel
theorem dJ2_getChars_46870_26 : decode cJ2_getChars_46870 26 = .ok (.new 52, 3) := by decide +kernel
theorem dJ2_getChars_46870_29 : decode cJ2_getChars_46870 29 = .ok (.dup, 1) := by decide +kernel
theorem dJ2_getChars_46870_30 : decode cJ2_getChars_46870 30 = .ok (.invokespecial 66, 3) := by decide +kernel
theorem dJ2_getChars_46870_33 : decode cJ2_getChars_46870 33 = .ok (.athrow, 1) := by decide +kernel
theorem dJ2_getChars_46870_34 : decode cJ2_getChars_46870 34 = .ok (.iload 4, 2) := by decide +kernel
theorem dJ2_getChars_46870_36 : decode cJ2_getChars_46870 36 = .ok (.ireturn, 1) := by decide +kernel
theorem dJ2_putCharsAt_cd4e5_0 : decode cJ2_putCharsAt_cd4e5 0 = .ok (.iload_n 1, 1) := by decide +kernel
theorem dJ2_putCharsAt_cd4e5_1 : decode cJ2_putCharsAt_cd4e5 1 = .ok (.iconst 4, 1) := by decide +kernel
theorem dJ2_putCharsAt_cd4e5_2 : decode cJ2_putCharsAt_cd4e5 2 = .ok (.iadd, 1) := by decide +kernel
theorem dJ2_putCharsAt_cd4e5_3 : decode cJ2_putCharsAt_cd4e5 3 = .ok (.istore 6, 2) := by decide +kernel
theorem dJ2_putCharsAt_cd4e5_5 : decode cJ2_putCharsAt_cd4e5 5 = .ok (.iload_n 1, 1) := by decide +kernel
theorem dJ2_putCharsAt_cd4e5_6 : decode cJ2_putCharsAt_cd4e5 6 = .ok (.iload 6, 2) := by decide +kernel
theorem dJ2_putCharsAt_cd4e5_8 : decode cJ2_putCharsAt_cd4e5 8 = .ok (.aload_n 0, 1) := by decide +kernel
theorem dJ2_putCharsAt_cd4e5_9 : decode cJ2_putCharsAt_cd4e5 9 = .ok (.invokestatic 96, 3) := by decide +kernel
theorem dJ2_putCharsAt_cd4e5_12 : decode cJ2_putCharsAt_cd4e5 12 = .ok (.aload_n 0, 1) := by decide +kernel
theorem dJ2_putCharsAt_cd4e5_13 : decode cJ2_putCharsAt_cd4e5 13 = .ok (.iload_n 1, 1) := by decide +kernel
theorem dJ2_putCharsAt_cd4e5_14 : decode cJ2_putCharsAt_cd4e5 14 = .ok (.iinc 1 1, 3) := by decide +kernel
theorem dJ2_putCharsAt_cd4e5_17 : decode cJ2_putCharsAt_cd4e5 17 = .ok (.iload_n 2, 1) := by decide +kernel
theorem dJ2_putCharsAt_cd4e5_18 : decode cJ2_putCharsAt_cd4e5 18 = .ok (.invokestatic 111, 3) := by decide +kernel
theorem dJ2_putCharsAt_cd4e5_21 : decode cJ2_putCharsAt_cd4e5 21 = .ok (.aload_n 0, 1) := by decide +kernel
theorem dJ2_putCharsAt_cd4e5_22 : decode cJ2_putCharsAt_cd4e5 22 = .ok (.iload_n 1, 1) := by decide +kernel
theorem dJ2_putCharsAt_cd4e5_23 : decode cJ2_putCharsAt_cd4e5 23 = .ok (.iinc 1 1, 3) := by decide +kernel
theorem dJ2_putCharsAt_cd4e5_26 : decode cJ2_putCharsAt_cd4e5 26 = .ok (.iload_n 3, 1) := by decide +kernel
theorem dJ2_putCharsAt_cd4e5_27 : decode cJ2_putCharsAt_cd4e5 27 = .ok (.invokestatic 111, 3) := by decide +kernel
theorem dJ2_putCharsAt_cd4e5_30 : decode cJ2_putCharsAt_cd4e5 30 = .ok (.aload_n 0, 1) := by decide +kernel
theorem dJ2_putCharsAt_cd4e5_31 : decode cJ2_putCharsAt_cd4e5 31 = .ok (.iload_n 1, 1) := by decide +kernel
theorem dJ2_putCharsAt_cd4e5_32 : decode cJ2_putCharsAt_cd4e5 32 = .ok (.iinc 1 1, 3) := by decide +kernel
theorem dJ2_putCharsAt_cd4e5_35 : decode cJ2_putCharsAt_cd4e5 35 = .ok (.iload 4, 2) := by decide +kernel
theorem dJ2_putCharsAt_cd4e5_37 : decode cJ2_putCharsAt_cd4e5 37 = .ok (.invokestatic 111, 3) := by decide +kernel
theorem dJ2_putCharsAt_cd4e5_40 : decode cJ2_putCharsAt_cd4e5 40 = .ok (.aload_n 0, 1) := by decide +kernel
theorem dJ2_putCharsAt_cd4e5_41 : decode cJ2_putCharsAt_cd4e5 41 = .ok (.iload_n 1, 1) := by decide +kernel
theorem dJ2_putCharsAt_cd4e5_42 : decode cJ2_putCharsAt_cd4e5 42 = .ok (.iinc 1 1, 3) := by decide +kernel
theorem dJ2_putCharsAt_cd4e5_45 : decode cJ2_putCharsAt_cd4e5 45 = .ok (.iload 5, 2) := by decide +kernel
theorem dJ2_putCharsAt_cd4e5_47 : decode cJ2_putCharsAt_cd4e5 47 = .ok (.invokestatic 111, 3) := by decide +kernel
theorem dJ2_putCharsAt_cd4e5_50 : decode cJ2_putCharsAt_cd4e5 50 = .ok (.getstatic 44, 3) := by decide +kernel
theorem dJ2_putCharsAt_cd4e5_53 : decode cJ2_putCharsAt_cd4e5 53 = .ok (.ifCond .ne 17, 3) := by decide +kernel
theorem dJ2_putCharsAt_cd4e5_56 : decode cJ2_putCharsAt_cd4e5 56 = .ok (.iload_n 1, 1) := by decide +kernel
theorem dJ2_putCharsAt_cd4e5_57 : decode cJ2_putCharsAt_cd4e5 57 = .ok (.iload 6, 2) := by decide +kernel
theorem dJ2_putCharsAt_cd4e5_59 : decode cJ2_putCharsAt_cd4e5 59 = .ok (.if_icmp .eq 11, 3) := by decide +kernel
theorem dJ2_putCharsAt_cd4e5_62 : decode cJ2_putCharsAt_cd4e5 62 = .ok (.new 52, 3) := by decide +kernel
theorem dJ2_putCharsAt_cd4e5_65 : decode cJ2_putCharsAt_cd4e5 65 = .ok (.dup, 1) := by decide +kernel
theorem dJ2_putCharsAt_cd4e5_66 : decode cJ2_putCharsAt_cd4e5 66 = .ok (.invokespecial 66, 3) := by decide +kernel
theorem dJ2_putCharsAt_cd4e5_69 : decode cJ2_putCharsAt_cd4e5 69 = .ok (.athrow, 1) := by decide +kernel
theorem dJ2_putCharsAt_cd4e5_70 : decode cJ2_putCharsAt_cd4e5 70 = .ok (.iload 6, 2) := by decide +kernel
theorem dJ2_putCharsAt_cd4e5_72 : decode cJ2_putCharsAt_cd4e5 72 = .ok (.ireturn, 1) := by decide +kernel
theorem dJ2_charAt_3b067_0 : decode cJ2_charAt_3b067 0 = .ok (.iload_n 1, 1) := by decide +kernel
theorem dJ2_charAt_3b067_1 : decode cJ2_charAt_3b067 1 = .ok (.aload_n 0, 1) := by decide +kernel
theorem dJ2_charAt_3b067_2 : decode cJ2_charAt_3b067 2 = .ok (.invokestatic 67, 3) := by decide +kernel
theorem dJ2_charAt_3b067_5 : decode cJ2_charAt_3b067 5 = .ok (.aload_n 0, 1) := by decide +kernel
theorem dJ2_charAt_3b067_6 : decode cJ2_charAt_3b067 6 = .ok (.iload_n 1, 1) := by decide +kernel
theorem dJ2_charAt_3b067_7 : decode cJ2_charAt_3b067 7 = .ok (.invokestatic 71, 3) := by decide +kernel
theorem dJ2_charAt_3b067_10 : decode cJ2_charAt_3b067 10 = .ok (.ireturn, 1) := by decide +kernel
theorem dJ2_inflate_0e8fd_0 : decode cJ2_inflate_0e8fd 0 = .ok (.iload_n 3, 1) := by decide +kernel
theorem dJ2_inflate_0e8fd_1 : decode cJ2_inflate_0e8fd 1 = .ok (.iload 4, 2) := by decide +kernel
theorem dJ2_inflate_0e8fd_3 : decode cJ2_inflate_0e8fd 3 = .ok (.aload_n 2, 1) := by decide +kernel
theorem dJ2_inflate_0e8fd_4 : decode cJ2_inflate_0e8fd 4 = .ok (.invokestatic 173, 3) := by decide +kernel
theorem dJ2_inflate_0e8fd_7 : decode cJ2_inflate_0e8fd 7 = .ok (.iconst 0, 1) := by decide +kernel
theorem dJ2_inflate_0e8fd_8 : decode cJ2_inflate_0e8fd 8 = .ok (.istore 5, 2) := by decide +kernel
theorem dJ2_inflate_0e8fd_10 : decode cJ2_inflate_0e8fd 10 = .ok (.iload 5, 2) := by decide +kernel
theorem dJ2_inflate_0e8fd_12 : decode cJ2_inflate_0e8fd 12 = .ok (.iload 4, 2) := by decide +kernel
theorem dJ2_inflate_0e8fd_14 : decode cJ2_inflate_0e8fd 14 = .ok (.if_icmp .ge 27, 3) := by decide +kernel
theorem dJ2_inflate_0e8fd_17 : decode cJ2_inflate_0e8fd 17 = .ok (.aload_n 2, 1) := by decide +kernel
theorem dJ2_inflate_0e8fd_18 : decode cJ2_inflate_0e8fd 18 = .ok (.iload_n 3, 1) := by decide +kernel
theorem dJ2_inflate_0e8fd_19 : decode cJ2_inflate_0e8fd 19 = .ok (.iinc 3 1, 3) := by decide +kernel
theorem dJ2_inflate_0e8fd_22 : decode cJ2_inflate_0e8fd 22 = .ok (.aload_n 0, 1) := by decide +kernel
theorem dJ2_inflate_0e8fd_23 : decode cJ2_inflate_0e8fd 23 = .ok (.iload_n 1, 1) := by decide +kernel
theorem dJ2_inflate_0e8fd_24 : decode cJ2_inflate_0e8fd 24 = .ok (.iinc 1 1, 3) := by decide +kernel
theorem dJ2_inflate_0e8fd_27 : decode cJ2_inflate_0e8fd 27 = .ok (.baload, 1) := by decide +kernel
theorem dJ2_inflate_0e8fd_28 : decode cJ2_inflate_0e8fd 28 = .ok (.sipush 255, 3) := by decide +kernel
theorem dJ2_inflate_0e8fd_31 : decode cJ2_inflate_0e8fd 31 = .ok (.iand, 1) := by decide +kernel
theorem dJ2_inflate_0e8fd_32 : decode cJ2_inflate_0e8fd 32 = .ok (.invokestatic 111, 3) := by decide +kernel
theorem dJ2_inflate_0e8fd_35 : decode cJ2_inflate_0e8fd 35 = .ok (.iinc 5 1, 3) := by decide +kernel
theorem dJ2_inflate_0e8fd_38 : decode cJ2_inflate_0e8fd 38 = .ok (.goto (-28), 3) := by decide +kernel
theorem dJ2_inflate_0e8fd_41 : decode cJ2_inflate_0e8fd 41 = .ok (.return_, 1) := by decide +kernel
theorem dJ2_getChars_ba4f3_0 : decode cJ2_getChars_ba4f3 0 = .ok (.iload_n 1, 1) := by decide +kernel
theorem dJ2_getChars_ba4f3_1 : decode cJ2_getChars_ba4f3 1 = .ok (.istore 5, 2) := by decide +kernel
theorem dJ2_getChars_ba4f3_3 : decode cJ2_getChars_ba4f3 3 = .ok (.iload_n 0, 1) := by decide +kernel
theorem dJ2_getChars_ba4f3_4 : decode cJ2_getChars_ba4f3 4 = .ok (.ifCond .ge 7, 3) := by decide +kernel
theorem dJ2_getChars_ba4f3_7 : decode cJ2_getChars_ba4f3 7 = .ok (.iconst 1, 1) := by decide +kernel
theorem dJ2_getChars_ba4f3_8 : decode cJ2_getChars_ba4f3 8 = .ok (.goto 4, 3) := by decide +kernel
theorem dJ2_getChars_ba4f3_11 : decode cJ2_getChars_ba4f3 11 = .ok (.iconst 0, 1) := by decide +kernel
theorem dJ2_getChars_ba4f3_12 : decode cJ2_getChars_ba4f3 12 = .ok (.istore 6, 2) := by decide +kernel
theorem dJ2_getChars_ba4f3_14 : decode cJ2_getChars_ba4f3 14 = .ok (.iload 6, 2) := by decide +kernel
theorem dJ2_getChars_ba4f3_16 : decode cJ2_getChars_ba4f3 16 = .ok (.ifCond .ne 6, 3) := by decide +kernel
theorem dJ2_getChars_ba4f3_19 : decode cJ2_getChars_ba4f3 19 = .ok (.iload_n 0, 1) := by decide +kernel
theorem dJ2_getChars_ba4f3_20 : decode cJ2_getChars_ba4f3 20 = .ok (.ineg, 1) := by decide +kernel
theorem dJ2_getChars_ba4f3_21 : decode cJ2_getChars_ba4f3 21 = .ok (.istore_n 0, 1) := by decide +kernel
theorem dJ2_getChars_ba4f3_22 : decode cJ2_getChars_ba4f3 22 = .ok (.iload_n 0, 1) := by decide +kernel
theorem dJ2_getChars_ba4f3_23 : decode cJ2_getChars_ba4f3 23 = .ok (.bipush (-100), 2) := by decide +kernel
theorem dJ2_getChars_ba4f3_25 : decode cJ2_getChars_ba4f3 25 = .ok (.if_icmp .gt 51, 3) := by decide +kernel
theorem dJ2_getChars_ba4f3_28 : decode cJ2_getChars_ba4f3 28 = .ok (.iload_n 0, 1) := by decide +kernel
theorem dJ2_getChars_ba4f3_29 : decode cJ2_getChars_ba4f3 29 = .ok (.bipush 100, 2) := by decide +kernel
theorem dJ2_getChars_ba4f3_31 : decode cJ2_getChars_ba4f3 31 = .ok (.idiv, 1) := by decide +kernel
theorem dJ2_getChars_ba4f3_32 : decode cJ2_getChars_ba4f3 32 = .ok (.istore_n 3, 1) := by decide +kernel
theorem dJ2_getChars_ba4f3_33 : decode cJ2_getChars_ba4f3 33 = .ok (.iload_n 3, 1) := by decide +kernel
theorem dJ2_getChars_ba4f3_34 : decode cJ2_getChars_ba4f3 34 = .ok (.bipush 100, 2) := by decide +kernel
theorem dJ2_getChars_ba4f3_36 : decode cJ2_getChars_ba4f3 36 = .ok (.imul, 1) := by decide +kernel
theorem dJ2_getChars_ba4f3_37 : decode cJ2_getChars_ba4f3 37 = .ok (.iload_n 0, 1) := by decide +kernel
theorem dJ2_getChars_ba4f3_38 : decode cJ2_getChars_ba4f3 38 = .ok (.isub, 1) := by decide +kernel
theorem dJ2_getChars_ba4f3_39 : decode cJ2_getChars_ba4f3 39 = .ok (.istore 4, 2) := by decide +kernel
theorem dJ2_getChars_ba4f3_41 : decode cJ2_getChars_ba4f3 41 = .ok (.iload_n 3, 1) := by decide +kernel
theorem dJ2_getChars_ba4f3_42 : decode cJ2_getChars_ba4f3 42 = .ok (.istore_n 0, 1) := by decide +kernel
theorem dJ2_getChars_ba4f3_43 : decode cJ2_getChars_ba4f3 43 = .ok (.aload_n 2, 1) := by decide +kernel
theorem dJ2_getChars_ba4f3_44 : decode cJ2_getChars_ba4f3 44 = .ok (.iinc 5 (-1), 3) := by decide +kernel
theorem dJ2_getChars_ba4f3_47 : decode cJ2_getChars_ba4f3 47 = .ok (.iload 5, 2) := by decide +kernel
theorem dJ2_getChars_ba4f3_49 : decode cJ2_getChars_ba4f3 49 = .ok (.getstatic 403, 3) := by decide +kernel
theorem dJ2_getChars_ba4f3_52 : decode cJ2_getChars_ba4f3 52 = .ok (.iload 4, 2) := by decide +kernel
theorem dJ2_getChars_ba4f3_54 : decode cJ2_getChars_ba4f3 54 = .ok (.baload, 1) := by decide +kernel
theorem dJ2_getChars_ba4f3_55 : decode cJ2_getChars_ba4f3 55 = .ok (.invokestatic 111, 3) := by decide +kernel
theorem dJ2_getChars_ba4f3_58 : decode cJ2_getChars_ba4f3 58 = .ok (.aload_n 2, 1) := by decide +kernel
theorem dJ2_getChars_ba4f3_59 : decode cJ2_getChars_ba4f3 59 = .ok (.iinc 5 (-1), 3) := by decide +kernel
theorem dJ2_getChars_ba4f3_62 : decode cJ2_getChars_ba4f3 62 = .ok (.iload 5, 2) := by decide +kernel
theorem dJ2_getChars_ba4f3_64 : decode cJ2_getChars_ba4f3 64 = .ok (.getstatic 407, 3) := by decide +kernel
theorem dJ2_getChars_ba4f3_67 : decode cJ2_getChars_ba4f3 67 = .ok (.iload 4, 2) := by decide +kernel
theorem dJ2_getChars_ba4f3_69 : decode cJ2_getChars_ba4f3 69 = .ok (.baload, 1) := by decide +kernel
theorem dJ2_getChars_ba4f3_70 : decode cJ2_getChars_ba4f3 70 = .ok (.invokestatic 111, 3) := by decide +kernel
theorem dJ2_getChars_ba4f3_73 : decode cJ2_getChars_ba4f3 73 = .ok (.goto (-51), 3) := by decide +kernel
theorem dJ2_getChars_ba4f3_76 : decode cJ2_getChars_ba4f3 76 = .ok (.aload_n 2, 1) := by decide +kernel
theorem dJ2_getChars_ba4f3_77 : decode cJ2_getChars_ba4f3 77 = .ok (.iinc 5 (-1), 3) := by decide +kernel
theorem dJ2_getChars_ba4f3_80 : decode cJ2_getChars_ba4f3 80 = .ok (.iload 5, 2) := by decide +kernel
theorem dJ2_getChars_ba4f3_82 : decode cJ2_getChars_ba4f3 82 = .ok (.getstatic 403, 3) := by decide +kernel
theorem dJ2_getChars_ba4f3_85 : decode cJ2_getChars_ba4f3 85 = .ok (.iload_n 0, 1) := by decide +kernel
theorem dJ2_getChars_ba4f3_86 : decode cJ2_getChars_ba4f3 86 = .ok (.ineg, 1) := by decide +kernel
theorem dJ2_getChars_ba4f3_87 : decode cJ2_getChars_ba4f3 87 = .ok (.baload, 1) := by decide +kernel
theorem dJ2_getChars_ba4f3_88 : decode cJ2_getChars_ba4f3 88 = .ok (.invokestatic 111, 3) := by decide +kernel
theorem dJ2_getChars_ba4f3_91 : decode cJ2_getChars_ba4f3 91 = .ok (.iload_n 0, 1) := by decide +kernel
theorem dJ2_getChars_ba4f3_92 : decode cJ2_getChars_ba4f3 92 = .ok (.bipush (-9), 2) := by decide +kernel
theorem dJ2_getChars_ba4f3_94 : decode cJ2_getChars_ba4f3 94 = .ok (.if_icmp .ge 18, 3) := by decide +kernel
theorem dJ2_getChars_ba4f3_97 : decode cJ2_getChars_ba4f3 97 = .ok (.aload_n 2, 1) := by decide +kernel
theorem dJ2_getChars_ba4f3_98 : decode cJ2_getChars_ba4f3 98 = .ok (.iinc 5 (-1), 3) := by decide +kernel
theorem dJ2_getChars_ba4f3_101 : decode cJ2_getChars_ba4f3 101 = .ok (.iload 5, 2) := by decide +kernel
theorem dJ2_getChars_ba4f3_103 : decode cJ2_getChars_ba4f3 103 = .ok (.getstatic 407, 3) := by decide +kernel
theorem dJ2_getChars_ba4f3_106 : decode cJ2_getChars_ba4f3 106 = .ok (.iload_n 0, 1) := by decide +kernel
theorem dJ2_getChars_ba4f3_107 : decode cJ2_getChars_ba4f3 107 = .ok (.ineg, 1) := by decide +kernel
theorem dJ2_getChars_ba4f3_108 : decode cJ2_getChars_ba4f3 108 = .ok (.baload, 1) := by decide +kernel
theorem dJ2_getChars_ba4f3_109 : decode cJ2_getChars_ba4f3 109 = .ok (.invokestatic 111, 3) := by decide +kernel
theorem dJ2_getChars_ba4f3_112 : decode cJ2_getChars_ba4f3 112 = .ok (.iload 6, 2) := by decide +kernel
theorem dJ2_getChars_ba4f3_114 : decode cJ2_getChars_ba4f3 114 = .ok (.ifCond .eq 14, 3) := by decide +kernel
theorem dJ2_getChars_ba4f3_117 : decode cJ2_getChars_ba4f3 117 = .ok (.aload_n 2, 1) := by decide +kernel
theorem dJ2_getChars_ba4f3_118 : decode cJ2_getChars_ba4f3 118 = .ok (.iinc 5 (-1), 3) := by decide +kernel
theorem dJ2_getChars_ba4f3_121 : decode cJ2_getChars_ba4f3 121 = .ok (.iload 5, 2) := by decide +kernel
theorem dJ2_getChars_ba4f3_123 : decode cJ2_getChars_ba4f3 123 = .ok (.bipush 45, 2) := by decide +kernel
theorem dJ2_getChars_ba4f3_125 : decode cJ2_getChars_ba4f3 125 = .ok (.invokestatic 111, 3) := by decide +kernel
theorem dJ2_getChars_ba4f3_128 : decode cJ2_getChars_ba4f3 128 = .ok (.iload 5, 2) := by decide +kernel
theorem dJ2_getChars_ba4f3_130 : decode cJ2_getChars_ba4f3 130 = .ok (.ireturn, 1) := by decide +kernel
theorem dJ2_checkIndex_2214a_0 : decode cJ2_checkIndex_2214a 0 = .ok (.iload_n 0, 1) := by decide +kernel
theorem dJ2_checkIndex_2214a_1 : decode cJ2_checkIndex_2214a 1 = .ok (.aload_n 1, 1) := by decide +kernel
theorem dJ2_checkIndex_2214a_2 : decode cJ2_checkIndex_2214a 2 = .ok (.invokestatic 48, 3) := by decide +kernel
theorem dJ2_checkIndex_2214a_5 : decode cJ2_checkIndex_2214a 5 = .ok (.invokestatic 414, 3) := by decide +kernel
theorem dJ2_checkIndex_2214a_8 : decode cJ2_checkIndex_2214a 8 = .ok (.return_, 1) := by decide +kernel
theorem dJ2_checkBoundsBeginEnd_d044e_0 : decode cJ2_checkBoundsBeginEnd_d044e 0 = .ok (.iload_n 0, 1) := by decide +kernel
theorem dJ2_checkBoundsBeginEnd_d044e_1 : decode cJ2_checkBoundsBeginEnd_d044e 1 = .ok (.iload_n 1, 1) := by decide +kernel
theorem dJ2_checkBoundsBeginEnd_d044e_2 : decode cJ2_checkBoundsBeginEnd_d044e 2 = .ok (.aload_n 2, 1) := by decide +kernel
theorem dJ2_checkBoundsBeginEnd_d044e_3 : decode cJ2_checkBoundsBeginEnd_d044e 3 = .ok (.invokestatic 48, 3) := by decide +kernel
theorem dJ2_checkBoundsBeginEnd_d044e_6 : decode cJ2_checkBoundsBeginEnd_d044e 6 = .ok (.invokestatic 241, 3) := by decide +kernel
theorem dJ2_checkBoundsBeginEnd_d044e_9 : decode cJ2_checkBoundsBeginEnd_d044e 9 = .ok (.return_, 1) := by decide +kernel
theorem dJ2_checkBoundsOffCount_d044e_0 : decode cJ2_checkBoundsOffCount_d044e 0 = .ok (.iload_n 0, 1) := by decide +kernel
theorem dJ2_checkBoundsOffCount_d044e_1 : decode cJ2_checkBoundsOffCount_d044e 1 = .ok (.iload_n 1, 1) := by decide +kernel
theorem dJ2_checkBoundsOffCount_d044e_2 : decode cJ2_checkBoundsOffCount_d044e 2 = .ok (.aload_n 2, 1) := by decide +kernel
theorem dJ2_checkBoundsOffCount_d044e_3 : decode cJ2_checkBoundsOffCount_d044e 3 = .ok (.invokestatic 48, 3) := by decide +kernel
theorem dJ2_checkBoundsOffCount_d044e_6 : decode cJ2_checkBoundsOffCount_d044e 6 = .ok (.invokestatic 419, 3) := by decide +kernel
theorem dJ2_checkBoundsOffCount_d044e_9 : decode cJ2_checkBoundsOffCount_d044e 9 = .ok (.pop, 1) := by decide +kernel
theorem dJ2_checkBoundsOffCount_d044e_10 : decode cJ2_checkBoundsOffCount_d044e 10 = .ok (.return_, 1) := by decide +kernel
theorem dJ7_rangeCheck_23922_0 : decode cJ7_rangeCheck_23922 0 = .ok (.iload_n 1, 1) := by decide +kernel
theorem dJ7_rangeCheck_23922_1 : decode cJ7_rangeCheck_23922 1 = .ok (.iload_n 2, 1) := by decide +kernel
theorem dJ7_rangeCheck_23922_2 : decode cJ7_rangeCheck_23922 2 = .ok (.if_icmp .le 44, 3) := by decide +kernel
theorem dJ7_rangeCheck_23922_5 : decode cJ7_rangeCheck_23922 5 = .ok (.new 43, 3) := by decide +kernel
theorem dJ7_rangeCheck_23922_8 : decode cJ7_rangeCheck_23922 8 = .ok (.dup, 1) := by decide +kernel
theorem dJ7_rangeCheck_23922_9 : decode cJ7_rangeCheck_23922 9 = .ok (.new 45, 3) := by decide +kernel
theorem dJ7_rangeCheck_23922_12 : decode cJ7_rangeCheck_23922 12 = .ok (.dup, 1) := by decide +kernel
theorem dJ7_rangeCheck_23922_13 : decode cJ7_rangeCheck_23922 13 = .ok (.invokespecial 47, 3) := by decide +kernel
theorem dJ7_rangeCheck_23922_16 : decode cJ7_rangeCheck_23922 16 = .ok (.ldc 48, 2) := by decide +kernel
theorem dJ7_rangeCheck_23922_18 : decode cJ7_rangeCheck_23922 18 = .ok (.invokevirtual 50, 3) := by decide +kernel
theorem dJ7_rangeCheck_23922_21 : decode cJ7_rangeCheck_23922 21 = .ok (.iload_n 1, 1) := by decide +kernel
theorem dJ7_rangeCheck_23922_22 : decode cJ7_rangeCheck_23922 22 = .ok (.invokevirtual 54, 3) := by decide +kernel
theorem dJ7_rangeCheck_23922_25 : decode cJ7_rangeCheck_23922 25 = .ok (.ldc 57, 2) := by decide +kernel
theorem dJ7_rangeCheck_23922_27 : decode cJ7_rangeCheck_23922 27 = .ok (.invokevirtual 50, 3) := by decide +kernel
theorem dJ7_rangeCheck_23922_30 : decode cJ7_rangeCheck_23922 30 = .ok (.iload_n 2, 1) := by decide +kernel
theorem dJ7_rangeCheck_23922_31 : decode cJ7_rangeCheck_23922 31 = .ok (.invokevirtual 54, 3) := by decide +kernel
theorem dJ7_rangeCheck_23922_34 : decode cJ7_rangeCheck_23922 34 = .ok (.ldc 59, 2) := by decide +kernel
theorem dJ7_rangeCheck_23922_36 : decode cJ7_rangeCheck_23922 36 = .ok (.invokevirtual 50, 3) := by decide +kernel
theorem dJ7_rangeCheck_23922_39 : decode cJ7_rangeCheck_23922 39 = .ok (.invokevirtual 61, 3) := by decide +kernel
theorem dJ7_rangeCheck_23922_42 : decode cJ7_rangeCheck_23922 42 = .ok (.invokespecial 65, 3) := by decide +kernel
theorem dJ7_rangeCheck_23922_45 : decode cJ7_rangeCheck_23922 45 = .ok (.athrow, 1) := by decide +kernel
theorem dJ7_rangeCheck_23922_46 : decode cJ7_rangeCheck_23922 46 = .ok (.iload_n 1, 1) := by decide +kernel
theorem dJ7_rangeCheck_23922_47 : decode cJ7_rangeCheck_23922 47 = .ok (.ifCond .ge 12, 3) := by decide +kernel
theorem dJ7_rangeCheck_23922_50 : decode cJ7_rangeCheck_23922 50 = .ok (.new 68, 3) := by decide +kernel
theorem dJ7_rangeCheck_23922_53 : decode cJ7_rangeCheck_23922 53 = .ok (.dup, 1) := by decide +kernel
theorem dJ7_rangeCheck_23922_54 : decode cJ7_rangeCheck_23922 54 = .ok (.iload_n 1, 1) := by decide +kernel
theorem dJ7_rangeCheck_23922_55 : decode cJ7_rangeCheck_23922 55 = .ok (.invokespecial 70, 3) := by decide +kernel
theorem dJ7_rangeCheck_23922_58 : decode cJ7_rangeCheck_23922 58 = .ok (.athrow, 1) := by decide +kernel
theorem dJ7_rangeCheck_23922_59 : decode cJ7_rangeCheck_23922 59 = .ok (.iload_n 2, 1) := by decide +kernel
theorem dJ7_rangeCheck_23922_60 : decode cJ7_rangeCheck_23922 60 = .ok (.iload_n 0, 1) := by decide +kernel
theorem dJ7_rangeCheck_23922_61 : decode cJ7_rangeCheck_23922 61 = .ok (.if_icmp .le 12, 3) := by decide +kernel
theorem dJ7_rangeCheck_23922_64 : decode cJ7_rangeCheck_23922 64 = .ok (.new 68, 3) := by decide +kernel
theorem dJ7_rangeCheck_23922_67 : decode cJ7_rangeCheck_23922 67 = .ok (.dup, 1) := by decide +kernel
theorem dJ7_rangeCheck_23922_68 : decode cJ7_rangeCheck_23922 68 = .ok (.iload_n 2, 1) := by decide +kernel
theorem dJ7_rangeCheck_23922_69 : decode cJ7_rangeCheck_23922 69 = .ok (.invokespecial 70, 3) := by decide +kernel
theorem dJ7_rangeCheck_23922_72 : decode cJ7_rangeCheck_23922 72 = .ok (.athrow, 1) := by decide +kernel
theorem dJ7_rangeCheck_23922_73 : decode cJ7_rangeCheck_23922 73 = .ok (.return_, 1) := by decide +kernel
theorem dJ7_fill_d0a16_0 : decode cJ7_fill_d0a16 0 = .ok (.iconst 0, 1) := by decide +kernel
theorem dJ7_fill_d0a16_1 : decode cJ7_fill_d0a16 1 = .ok (.istore_n 3, 1) := by decide +kernel
theorem dJ7_fill_d0a16_2 : decode cJ7_fill_d0a16 2 = .ok (.aload_n 0, 1) := by decide +kernel
theorem dJ7_fill_d0a16_3 : decode cJ7_fill_d0a16 3 = .ok (.arraylength, 1) := by decide +kernel
theorem dJ7_fill_d0a16_4 : decode cJ7_fill_d0a16 4 = .ok (.istore 4, 2) := by decide +kernel
theorem dJ7_fill_d0a16_6 : decode cJ7_fill_d0a16 6 = .ok (.iload_n 3, 1) := by decide +kernel
theorem dJ7_fill_d0a16_7 : decode cJ7_fill_d0a16 7 = .ok (.iload 4, 2) := by decide +kernel
theorem dJ7_fill_d0a16_9 : decode cJ7_fill_d0a16 9 = .ok (.if_icmp .ge 13, 3) := by decide +kernel
theorem dJ7_fill_d0a16_12 : decode cJ7_fill_d0a16 12 = .ok (.aload_n 0, 1) := by decide +kernel
theorem dJ7_fill_d0a16_13 : decode cJ7_fill_d0a16 13 = .ok (.iload_n 3, 1) := by decide +kernel
theorem dJ7_fill_d0a16_14 : decode cJ7_fill_d0a16 14 = .ok (.lload_n 1, 1) := by decide +kernel
theorem dJ7_fill_d0a16_15 : decode cJ7_fill_d0a16 15 = .ok (.lastore, 1) := by decide +kernel
theorem dJ7_fill_d0a16_16 : decode cJ7_fill_d0a16 16 = .ok (.iinc 3 1, 3) := by decide +kernel
theorem dJ7_fill_d0a16_19 : decode cJ7_fill_d0a16 19 = .ok (.goto (-13), 3) := by decide +kernel
theorem dJ7_fill_d0a16_22 : decode cJ7_fill_d0a16 22 = .ok (.return_, 1) := by decide +kernel
theorem dJ7_fill_53178_0 : decode cJ7_fill_53178 0 = .ok (.iconst 0, 1) := by decide +kernel
theorem dJ7_fill_53178_1 : decode cJ7_fill_53178 1 = .ok (.istore_n 2, 1) := by decide +kernel
theorem dJ7_fill_53178_2 : decode cJ7_fill_53178 2 = .ok (.aload_n 0, 1) := by decide +kernel
theorem dJ7_fill_53178_3 : decode cJ7_fill_53178 3 = .ok (.arraylength, 1) := by decide +kernel
theorem dJ7_fill_53178_4 : decode cJ7_fill_53178 4 = .ok (.istore_n 3, 1) := by decide +kernel
theorem dJ7_fill_53178_5 : decode cJ7_fill_53178 5 = .ok (.iload_n 2, 1) := by decide +kernel
theorem dJ7_fill_53178_6 : decode cJ7_fill_53178 6 = .ok (.iload_n 3, 1) := by decide +kernel
theorem dJ7_fill_53178_7 : decode cJ7_fill_53178 7 = .ok (.if_icmp .ge 13, 3) := by decide +kernel
theorem dJ7_fill_53178_10 : decode cJ7_fill_53178 10 = .ok (.aload_n 0, 1) := by decide +kernel
theorem dJ7_fill_53178_11 : decode cJ7_fill_53178 11 = .ok (.iload_n 2, 1) := by decide +kernel
theorem dJ7_fill_53178_12 : decode cJ7_fill_53178 12 = .ok (.iload_n 1, 1) := by decide +kernel
theorem dJ7_fill_53178_13 : decode cJ7_fill_53178 13 = .ok (.iastore, 1) := by decide +kernel
theorem dJ7_fill_53178_14 : decode cJ7_fill_53178 14 = .ok (.iinc 2 1, 3) := by decide +kernel
theorem dJ7_fill_53178_17 : decode cJ7_fill_53178 17 = .ok (.goto (-12), 3) := by decide +kernel
theorem dJ7_fill_53178_20 : decode cJ7_fill_53178 20 = .ok (.return_, 1) := by decide +kernel
theorem dJ7_fill_eb02e_0 : decode cJ7_fill_eb02e 0 = .ok (.aload_n 0, 1) := by decide +kernel
theorem dJ7_fill_eb02e_1 : decode cJ7_fill_eb02e 1 = .ok (.arraylength, 1) := by decide +kernel
theorem dJ7_fill_eb02e_2 : decode cJ7_fill_eb02e 2 = .ok (.iload_n 1, 1) := by decide +kernel
theorem dJ7_fill_eb02e_3 : decode cJ7_fill_eb02e 3 = .ok (.iload_n 2, 1) := by decide +kernel
theorem dJ7_fill_eb02e_4 : decode cJ7_fill_eb02e 4 = .ok (.invokestatic 13, 3) := by decide +kernel
theorem dJ7_fill_eb02e_7 : decode cJ7_fill_eb02e 7 = .ok (.iload_n 1, 1) := by decide +kernel
theorem dJ7_fill_eb02e_8 : decode cJ7_fill_eb02e 8 = .ok (.istore 4, 2) := by decide +kernel
theorem dJ7_fill_eb02e_10 : decode cJ7_fill_eb02e 10 = .ok (.iload 4, 2) := by decide +kernel
theorem dJ7_fill_eb02e_12 : decode cJ7_fill_eb02e 12 = .ok (.iload_n 2, 1) := by decide +kernel
theorem dJ7_fill_eb02e_13 : decode cJ7_fill_eb02e 13 = .ok (.if_icmp .ge 14, 3) := by decide +kernel
theorem dJ7_fill_eb02e_16 : decode cJ7_fill_eb02e 16 = .ok (.aload_n 0, 1) := by decide +kernel
theorem dJ7_fill_eb02e_17 : decode cJ7_fill_eb02e 17 = .ok (.iload 4, 2) := by decide +kernel
theorem dJ7_fill_eb02e_19 : decode cJ7_fill_eb02e 19 = .ok (.iload_n 3, 1) := by decide +kernel
theorem dJ7_fill_eb02e_20 : decode cJ7_fill_eb02e 20 = .ok (.bastore, 1) := by decide +kernel
theorem dJ7_fill_eb02e_21 : decode cJ7_fill_eb02e 21 = .ok (.iinc 4 1, 3) := by decide +kernel
theorem dJ7_fill_eb02e_24 : decode cJ7_fill_eb02e 24 = .ok (.goto (-14), 3) := by decide +kernel
theorem dJ7_fill_eb02e_27 : decode cJ7_fill_eb02e 27 = .ok (.return_, 1) := by decide +kernel
theorem dJ7_copyOf_9075b_0 : decode cJ7_copyOf_9075b 0 = .ok (.iload_n 1, 1) := by decide +kernel
theorem dJ7_copyOf_9075b_1 : decode cJ7_copyOf_9075b 1 = .ok (.aload_n 0, 1) := by decide +kernel
theorem dJ7_copyOf_9075b_2 : decode cJ7_copyOf_9075b 2 = .ok (.arraylength, 1) := by decide +kernel
theorem dJ7_copyOf_9075b_3 : decode cJ7_copyOf_9075b 3 = .ok (.if_icmp .ne 11, 3) := by decide +kernel
theorem dJ7_copyOf_9075b_6 : decode cJ7_copyOf_9075b 6 = .ok (.aload_n 0, 1) := by decide +kernel
theorem dJ7_copyOf_9075b_7 : decode cJ7_copyOf_9075b 7 = .ok (.invokevirtual 310, 3) := by decide +kernel
theorem dJ7_copyOf_9075b_10 : decode cJ7_copyOf_9075b 10 = .ok (.checkcast 311, 3) := by decide +kernel
theorem dJ7_copyOf_9075b_13 : decode cJ7_copyOf_9075b 13 = .ok (.areturn, 1) := by decide +kernel
theorem dJ7_copyOf_9075b_14 : decode cJ7_copyOf_9075b 14 = .ok (.iload_n 1, 1) := by decide +kernel
theorem dJ7_copyOf_9075b_15 : decode cJ7_copyOf_9075b 15 = .ok (.newarray .byte, 2) := by decide +kernel
theorem dJ7_copyOf_9075b_17 : decode cJ7_copyOf_9075b 17 = .ok (.astore_n 2, 1) := by decide +kernel
theorem dJ7_copyOf_9075b_18 : decode cJ7_copyOf_9075b 18 = .ok (.aload_n 0, 1) := by decide +kernel
theorem dJ7_copyOf_9075b_19 : decode cJ7_copyOf_9075b 19 = .ok (.iconst 0, 1) := by decide +kernel
theorem dJ7_copyOf_9075b_20 : decode cJ7_copyOf_9075b 20 = .ok (.aload_n 2, 1) := by decide +kernel
theorem dJ7_copyOf_9075b_21 : decode cJ7_copyOf_9075b 21 = .ok (.iconst 0, 1) := by decide +kernel
theorem dJ7_copyOf_9075b_22 : decode cJ7_copyOf_9075b 22 = .ok (.aload_n 0, 1) := by decide +kernel
theorem dJ7_copyOf_9075b_23 : decode cJ7_copyOf_9075b 23 = .ok (.arraylength, 1) := by decide +kernel
theorem dJ7_copyOf_9075b_24 : decode cJ7_copyOf_9075b 24 = .ok (.iload_n 1, 1) := by decide +kernel
theorem dJ7_copyOf_9075b_25 : decode cJ7_copyOf_9075b 25 = .ok (.invokestatic 304, 3) := by decide +kernel
theorem dJ7_copyOf_9075b_28 : decode cJ7_copyOf_9075b 28 = .ok (.invokestatic 150, 3) := by decide +kernel
theorem dJ7_copyOf_9075b_31 : decode cJ7_copyOf_9075b 31 = .ok (.aload_n 2, 1) := by decide +kernel
theorem dJ7_copyOf_9075b_32 : decode cJ7_copyOf_9075b 32 = .ok (.areturn, 1) := by decide +kernel
theorem dJ7_checkLength_df160_0 : decode cJ7_checkLength_df160 0 = .ok (.iload_n 1, 1) := by decide +kernel
theorem dJ7_checkLength_df160_1 : decode cJ7_checkLength_df160 1 = .ok (.iload_n 0, 1) := by decide +kernel
theorem dJ7_checkLength_df160_2 : decode cJ7_checkLength_df160 2 = .ok (.if_icmp .ge 35, 3) := by decide +kernel
theorem dJ7_checkLength_df160_5 : decode cJ7_checkLength_df160 5 = .ok (.new 43, 3) := by decide +kernel
theorem dJ7_checkLength_df160_8 : decode cJ7_checkLength_df160 8 = .ok (.dup, 1) := by decide +kernel
theorem dJ7_checkLength_df160_9 : decode cJ7_checkLength_df160 9 = .ok (.new 45, 3) := by decide +kernel
theorem dJ7_checkLength_df160_12 : decode cJ7_checkLength_df160 12 = .ok (.dup, 1) := by decide +kernel
theorem dJ7_checkLength_df160_13 : decode cJ7_checkLength_df160 13 = .ok (.invokespecial 47, 3) := by decide +kernel
theorem dJ7_checkLength_df160_16 : decode cJ7_checkLength_df160 16 = .ok (.iload_n 0, 1) := by decide +kernel
theorem dJ7_checkLength_df160_17 : decode cJ7_checkLength_df160 17 = .ok (.invokevirtual 54, 3) := by decide +kernel
theorem dJ7_checkLength_df160_20 : decode cJ7_checkLength_df160 20 = .ok (.ldc_w 337, 3) := by decide +kernel
theorem dJ7_checkLength_df160_23 : decode cJ7_checkLength_df160 23 = .ok (.invokevirtual 50, 3) := by decide +kernel
theorem dJ7_checkLength_df160_26 : decode cJ7_checkLength_df160 26 = .ok (.iload_n 1, 1) := by decide +kernel
theorem dJ7_checkLength_df160_27 : decode cJ7_checkLength_df160 27 = .ok (.invokevirtual 54, 3) := by decide +kernel
theorem dJ7_checkLength_df160_30 : decode cJ7_checkLength_df160 30 = .ok (.invokevirtual 61, 3) := by decide +kernel
theorem dJ7_checkLength_df160_33 : decode cJ7_checkLength_df160 33 = .ok (.invokespecial 65, 3) := by decide +kernel
theorem dJ7_checkLength_df160_36 : decode cJ7_checkLength_df160 36 = .ok (.athrow, 1) := by decide +kernel
theorem dJ7_checkLength_df160_37 : decode cJ7_checkLength_df160 37 = .ok (.return_, 1) := by decide +kernel
theorem dJ7_copyOfRange_39247_0 : decode cJ7_copyOfRange_39247 0 = .ok (.iload_n 1, 1) := by decide +kernel
theorem dJ7_copyOfRange_39247_1 : decode cJ7_copyOfRange_39247 1 = .ok (.ifCond .ne 9, 3) := by decide +kernel
theorem dJ7_copyOfRange_39247_4 : decode cJ7_copyOfRange_39247 4 = .ok (.iload_n 2, 1) := by decide +kernel
theorem dJ7_copyOfRange_39247_5 : decode cJ7_copyOfRange_39247 5 = .ok (.aload_n 0, 1) := by decide +kernel
theorem dJ7_copyOfRange_39247_6 : decode cJ7_copyOfRange_39247 6 = .ok (.arraylength, 1) := by decide +kernel
theorem dJ7_copyOfRange_39247_7 : decode cJ7_copyOfRange_39247 7 = .ok (.if_icmp .eq 10, 3) := by decide +kernel
theorem dJ7_copyOfRange_39247_10 : decode cJ7_copyOfRange_39247 10 = .ok (.aload_n 0, 1) := by decide +kernel
theorem dJ7_copyOfRange_39247_11 : decode cJ7_copyOfRange_39247 11 = .ok (.iload_n 1, 1) := by decide +kernel
theorem dJ7_copyOfRange_39247_12 : decode cJ7_copyOfRange_39247 12 = .ok (.iload_n 2, 1) := by decide +kernel
theorem dJ7_copyOfRange_39247_13 : decode cJ7_copyOfRange_39247 13 = .ok (.invokestatic 339, 3) := by decide +kernel
theorem dJ7_copyOfRange_39247_16 : decode cJ7_copyOfRange_39247 16 = .ok (.areturn, 1) := by decide +kernel
theorem dJ7_copyOfRange_39247_17 : decode cJ7_copyOfRange_39247 17 = .ok (.aload_n 0, 1) := by decide +kernel
theorem dJ7_copyOfRange_39247_18 : decode cJ7_copyOfRange_39247 18 = .ok (.invokevirtual 310, 3) := by decide +kernel
theorem dJ7_copyOfRange_39247_21 : decode cJ7_copyOfRange_39247 21 = .ok (.checkcast 311, 3) := by decide +kernel
theorem dJ7_copyOfRange_39247_24 : decode cJ7_copyOfRange_39247 24 = .ok (.areturn, 1) := by decide +kernel
theorem dJ7_copyOfRangeByte_39247_0 : decode cJ7_copyOfRangeByte_39247 0 = .ok (.iload_n 1, 1) := by decide +kernel
theorem dJ7_copyOfRangeByte_39247_1 : decode cJ7_copyOfRangeByte_39247 1 = .ok (.iload_n 2, 1) := by decide +kernel
theorem dJ7_copyOfRangeByte_39247_2 : decode cJ7_copyOfRangeByte_39247 2 = .ok (.invokestatic 343, 3) := by decide +kernel
theorem dJ7_copyOfRangeByte_39247_5 : decode cJ7_copyOfRangeByte_39247 5 = .ok (.iload_n 2, 1) := by decide +kernel
theorem dJ7_copyOfRangeByte_39247_6 : decode cJ7_copyOfRangeByte_39247 6 = .ok (.iload_n 1, 1) := by decide +kernel
theorem dJ7_copyOfRangeByte_39247_7 : decode cJ7_copyOfRangeByte_39247 7 = .ok (.isub, 1) := by decide +kernel
theorem dJ7_copyOfRangeByte_39247_8 : decode cJ7_copyOfRangeByte_39247 8 = .ok (.istore_n 3, 1) := by decide +kernel
theorem dJ7_copyOfRangeByte_39247_9 : decode cJ7_copyOfRangeByte_39247 9 = .ok (.iload_n 3, 1) := by decide +kernel
theorem dJ7_copyOfRangeByte_39247_10 : decode cJ7_copyOfRangeByte_39247 10 = .ok (.newarray .byte, 2) := by decide +kernel
theorem dJ7_copyOfRangeByte_39247_12 : decode cJ7_copyOfRangeByte_39247 12 = .ok (.astore 4, 2) := by decide +kernel
theorem dJ7_copyOfRangeByte_39247_14 : decode cJ7_copyOfRangeByte_39247 14 = .ok (.aload_n 0, 1) := by decide +kernel
theorem dJ7_copyOfRangeByte_39247_15 : decode cJ7_copyOfRangeByte_39247 15 = .ok (.iload_n 1, 1) := by decide +kernel
theorem dJ7_copyOfRangeByte_39247_16 : decode cJ7_copyOfRangeByte_39247 16 = .ok (.aload 4, 2) := by decide +kernel
theorem dJ7_copyOfRangeByte_39247_18 : decode cJ7_copyOfRangeByte_39247 18 = .ok (.iconst 0, 1) := by decide +kernel
theorem dJ7_copyOfRangeByte_39247_19 : decode cJ7_copyOfRangeByte_39247 19 = .ok (.aload_n 0, 1) := by decide +kernel
theorem dJ7_copyOfRangeByte_39247_20 : decode cJ7_copyOfRangeByte_39247 20 = .ok (.arraylength, 1) := by decide +kernel
theorem dJ7_copyOfRangeByte_39247_21 : decode cJ7_copyOfRangeByte_39247 21 = .ok (.iload_n 1, 1) := by decide +kernel
theorem dJ7_copyOfRangeByte_39247_22 : decode cJ7_copyOfRangeByte_39247 22 = .ok (.isub, 1) := by decide +kernel
theorem dJ7_copyOfRangeByte_39247_23 : decode cJ7_copyOfRangeByte_39247 23 = .ok (.iload_n 3, 1) := by decide +kernel
theorem dJ7_copyOfRangeByte_39247_24 : decode cJ7_copyOfRangeByte_39247 24 = .ok (.invokestatic 304, 3) := by decide +kernel
theorem dJ7_copyOfRangeByte_39247_27 : decode cJ7_copyOfRangeByte_39247 27 = .ok (.invokestatic 150, 3) := by decide +kernel
theorem dJ7_copyOfRangeByte_39247_30 : decode cJ7_copyOfRangeByte_39247 30 = .ok (.aload 4, 2) := by decide +kernel
theorem dJ7_copyOfRangeByte_39247_32 : decode cJ7_copyOfRangeByte_39247 32 = .ok (.areturn, 1) := by decide +kernel
theorem dJ8_newLength_cabcc_0 : decode cJ8_newLength_cabcc 0 = .ok (.iload_n 0, 1) := by decide +kernel
theorem dJ8_newLength_cabcc_1 : decode cJ8_newLength_cabcc 1 = .ok (.iload_n 1, 1) := by decide +kernel
theorem dJ8_newLength_cabcc_2 : decode cJ8_newLength_cabcc 2 = .ok (.iload_n 2, 1) := by decide +kernel
theorem dJ8_newLength_cabcc_3 : decode cJ8_newLength_cabcc 3 = .ok (.invokestatic 194, 3) := by decide +kernel
theorem dJ8_newLength_cabcc_6 : decode cJ8_newLength_cabcc 6 = .ok (.iadd, 1) := by decide +kernel
theorem dJ8_newLength_cabcc_7 : decode cJ8_newLength_cabcc 7 = .ok (.istore_n 3, 1) := by decide +kernel
theorem dJ8_newLength_cabcc_8 : decode cJ8_newLength_cabcc 8 = .ok (.iconst 0, 1) := by decide +kernel
theorem dJ8_newLength_cabcc_9 : decode cJ8_newLength_cabcc 9 = .ok (.iload_n 3, 1) := by decide +kernel
theorem dJ8_newLength_cabcc_10 : decode cJ8_newLength_cabcc 10 = .ok (.if_icmp .ge 11, 3) := by decide +kernel
theorem dJ8_newLength_cabcc_13 : decode cJ8_newLength_cabcc 13 = .ok (.iload_n 3, 1) := by decide +kernel
theorem dJ8_newLength_cabcc_14 : decode cJ8_newLength_cabcc 14 = .ok (.ldc 200, 2) := by decide +kernel
theorem dJ8_newLength_cabcc_16 : decode cJ8_newLength_cabcc 16 = .ok (.if_icmp .gt 5, 3) := by decide +kernel
theorem dJ8_newLength_cabcc_19 : decode cJ8_newLength_cabcc 19 = .ok (.iload_n 3, 1) := by decide +kernel
theorem dJ8_newLength_cabcc_20 : decode cJ8_newLength_cabcc 20 = .ok (.ireturn, 1) := by decide +kernel
theorem dJ8_newLength_cabcc_21 : decode cJ8_newLength_cabcc 21 = .ok (.iload_n 0, 1) := by decide +kernel
theorem dJ8_newLength_cabcc_22 : decode cJ8_newLength_cabcc 22 = .ok (.iload_n 1, 1) := by decide +kernel
theorem dJ8_newLength_cabcc_23 : decode cJ8_newLength_cabcc 23 = .ok (.invokestatic 201, 3) := by decide +kernel
theorem dJ8_newLength_cabcc_26 : decode cJ8_newLength_cabcc 26 = .ok (.ireturn, 1) := by decide +kernel
theorem dJ8_hugeLength_7cf53_0 : decode cJ8_hugeLength_7cf53 0 = .ok (.iload_n 0, 1) := by decide +kernel
theorem dJ8_hugeLength_7cf53_1 : decode cJ8_hugeLength_7cf53 1 = .ok (.iload_n 1, 1) := by decide +kernel
theorem dJ8_hugeLength_7cf53_2 : decode cJ8_hugeLength_7cf53 2 = .ok (.iadd, 1) := by decide +kernel
theorem dJ8_hugeLength_7cf53_3 : decode cJ8_hugeLength_7cf53 3 = .ok (.istore_n 2, 1) := by decide +kernel
theorem dJ8_hugeLength_7cf53_4 : decode cJ8_hugeLength_7cf53 4 = .ok (.iload_n 2, 1) := by decide +kernel
theorem dJ8_hugeLength_7cf53_5 : decode cJ8_hugeLength_7cf53 5 = .ok (.ifCond .ge 44, 3) := by decide +kernel
theorem dJ8_hugeLength_7cf53_8 : decode cJ8_hugeLength_7cf53 8 = .ok (.new 204, 3) := by decide +kernel
theorem dJ8_hugeLength_7cf53_11 : decode cJ8_hugeLength_7cf53 11 = .ok (.dup, 1) := by decide +kernel
theorem dJ8_hugeLength_7cf53_12 : decode cJ8_hugeLength_7cf53 12 = .ok (.new 89, 3) := by decide +kernel
theorem dJ8_hugeLength_7cf53_15 : decode cJ8_hugeLength_7cf53 15 = .ok (.dup, 1) := by decide +kernel
theorem dJ8_hugeLength_7cf53_16 : decode cJ8_hugeLength_7cf53 16 = .ok (.invokespecial 91, 3) := by decide +kernel
theorem dJ8_hugeLength_7cf53_19 : decode cJ8_hugeLength_7cf53 19 = .ok (.ldc 206, 2) := by decide +kernel
theorem dJ8_hugeLength_7cf53_21 : decode cJ8_hugeLength_7cf53 21 = .ok (.invokevirtual 94, 3) := by decide +kernel
theorem dJ8_hugeLength_7cf53_24 : decode cJ8_hugeLength_7cf53 24 = .ok (.iload_n 0, 1) := by decide +kernel
theorem dJ8_hugeLength_7cf53_25 : decode cJ8_hugeLength_7cf53 25 = .ok (.invokevirtual 98, 3) := by decide +kernel
theorem dJ8_hugeLength_7cf53_28 : decode cJ8_hugeLength_7cf53 28 = .ok (.ldc 208, 2) := by decide +kernel
theorem dJ8_hugeLength_7cf53_30 : decode cJ8_hugeLength_7cf53 30 = .ok (.invokevirtual 94, 3) := by decide +kernel
theorem dJ8_hugeLength_7cf53_33 : decode cJ8_hugeLength_7cf53 33 = .ok (.iload_n 1, 1) := by decide +kernel
theorem dJ8_hugeLength_7cf53_34 : decode cJ8_hugeLength_7cf53 34 = .ok (.invokevirtual 98, 3) := by decide +kernel
theorem dJ8_hugeLength_7cf53_37 : decode cJ8_hugeLength_7cf53 37 = .ok (.ldc 210, 2) := by decide +kernel
theorem dJ8_hugeLength_7cf53_39 : decode cJ8_hugeLength_7cf53 39 = .ok (.invokevirtual 94, 3) := by decide +kernel
theorem dJ8_hugeLength_7cf53_42 : decode cJ8_hugeLength_7cf53 42 = .ok (.invokevirtual 101, 3) := by decide +kernel
theorem dJ8_hugeLength_7cf53_45 : decode cJ8_hugeLength_7cf53 45 = .ok (.invokespecial 212, 3) := by decide +kernel
theorem dJ8_hugeLength_7cf53_48 : decode cJ8_hugeLength_7cf53 48 = .ok (.athrow, 1) := by decide +kernel
theorem dJ8_hugeLength_7cf53_49 : decode cJ8_hugeLength_7cf53 49 = .ok (.iload_n 2, 1) := by decide +kernel
theorem dJ8_hugeLength_7cf53_50 : decode cJ8_hugeLength_7cf53 50 = .ok (.ldc 200, 2) := by decide +kernel
theorem dJ8_hugeLength_7cf53_52 : decode cJ8_hugeLength_7cf53 52 = .ok (.if_icmp .gt 6, 3) := by decide +kernel
theorem dJ8_hugeLength_7cf53_55 : decode cJ8_hugeLength_7cf53 55 = .ok (.ldc 200, 2) := by decide +kernel
theorem dJ8_hugeLength_7cf53_57 : decode cJ8_hugeLength_7cf53 57 = .ok (.ireturn, 1) := by decide +kernel
theorem dJ8_hugeLength_7cf53_58 : decode cJ8_hugeLength_7cf53 58 = .ok (.iload_n 2, 1) := by decide +kernel
theorem dJ8_hugeLength_7cf53_59 : decode cJ8_hugeLength_7cf53 59 = .ok (.ireturn, 1) := by decide +kernel
theorem dJ3_checkIndex_8e157_0 : decode cJ3_checkIndex_8e157 0 = .ok (.iload_n 0, 1) := by decide +kernel
theorem dJ3_checkIndex_8e157_1 : decode cJ3_checkIndex_8e157 1 = .ok (.ifCond .lt 8, 3) := by decide +kernel
theorem dJ3_checkIndex_8e157_4 : decode cJ3_checkIndex_8e157 4 = .ok (.iload_n 0, 1) := by decide +kernel
theorem dJ3_checkIndex_8e157_5 : decode cJ3_checkIndex_8e157 5 = .ok (.iload_n 1, 1) := by decide +kernel
theorem dJ3_checkIndex_8e157_6 : decode cJ3_checkIndex_8e157 6 = .ok (.if_icmp .lt 10, 3) := by decide +kernel
theorem dJ3_checkIndex_8e157_9 : decode cJ3_checkIndex_8e157 9 = .ok (.aload_n 2, 1) := by decide +kernel
theorem dJ3_checkIndex_8e157_10 : decode cJ3_checkIndex_8e157 10 = .ok (.iload_n 0, 1) := by decide +kernel
theorem dJ3_checkIndex_8e157_11 : decode cJ3_checkIndex_8e157 11 = .ok (.iload_n 1, 1) := by decide +kernel
theorem dJ3_checkIndex_8e157_12 : decode cJ3_checkIndex_8e157 12 = .ok (.invokestatic 95, 3) := by decide +kernel
theorem dJ3_checkIndex_8e157_15 : decode cJ3_checkIndex_8e157 15 = .ok (.athrow, 1) := by decide +kernel
theorem dJ3_checkIndex_8e157_16 : decode cJ3_checkIndex_8e157 16 = .ok (.iload_n 0, 1) := by decide +kernel
theorem dJ3_checkIndex_8e157_17 : decode cJ3_checkIndex_8e157 17 = .ok (.ireturn, 1) := by decide +kernel
theorem dJ3_checkFromToIndex_8c36e_0 : decode cJ3_checkFromToIndex_8c36e 0 = .ok (.iload_n 0, 1) := by decide +kernel
theorem dJ3_checkFromToIndex_8c36e_1 : decode cJ3_checkFromToIndex_8c36e 1 = .ok (.ifCond .lt 13, 3) := by decide +kernel
theorem dJ3_checkFromToIndex_8c36e_4 : decode cJ3_checkFromToIndex_8c36e 4 = .ok (.iload_n 0, 1) := by decide +kernel
theorem dJ3_checkFromToIndex_8c36e_5 : decode cJ3_checkFromToIndex_8c36e 5 = .ok (.iload_n 1, 1) := by decide +kernel
theorem dJ3_checkFromToIndex_8c36e_6 : decode cJ3_checkFromToIndex_8c36e 6 = .ok (.if_icmp .gt 8, 3) := by decide +kernel
theorem dJ3_checkFromToIndex_8c36e_9 : decode cJ3_checkFromToIndex_8c36e 9 = .ok (.iload_n 1, 1) := by decide +kernel
theorem dJ3_checkFromToIndex_8c36e_10 : decode cJ3_checkFromToIndex_8c36e 10 = .ok (.iload_n 2, 1) := by decide +kernel
theorem dJ3_checkFromToIndex_8c36e_11 : decode cJ3_checkFromToIndex_8c36e 11 = .ok (.if_icmp .le 11, 3) := by decide +kernel
theorem dJ3_checkFromToIndex_8c36e_14 : decode cJ3_checkFromToIndex_8c36e 14 = .ok (.aload_n 3, 1) := by decide +kernel
theorem dJ3_checkFromToIndex_8c36e_15 : decode cJ3_checkFromToIndex_8c36e 15 = .ok (.iload_n 0, 1) := by decide +kernel
theorem dJ3_checkFromToIndex_8c36e_16 : decode cJ3_checkFromToIndex_8c36e 16 = .ok (.iload_n 1, 1) := by decide +kernel
theorem dJ3_checkFromToIndex_8c36e_17 : decode cJ3_checkFromToIndex_8c36e 17 = .ok (.iload_n 2, 1) := by decide +kernel
theorem dJ3_checkFromToIndex_8c36e_18 : decode cJ3_checkFromToIndex_8c36e 18 = .ok (.invokestatic 99, 3) := by decide +kernel
theorem dJ3_checkFromToIndex_8c36e_21 : decode cJ3_checkFromToIndex_8c36e 21 = .ok (.athrow, 1) := by decide +kernel
theorem dJ3_checkFromToIndex_8c36e_22 : decode cJ3_checkFromToIndex_8c36e 22 = .ok (.iload_n 0, 1) := by decide +kernel
theorem dJ3_checkFromToIndex_8c36e_23 : decode cJ3_checkFromToIndex_8c36e 23 = .ok (.ireturn, 1) := by decide +kernel
theorem dJ3_checkFromIndexSize_8c36e_0 : decode cJ3_checkFromIndexSize_8c36e 0 = .ok (.iload_n 2, 1) := by decide +kernel
theorem dJ3_checkFromIndexSize_8c36e_1 : decode cJ3_checkFromIndexSize_8c36e 1 = .ok (.iload_n 0, 1) := by decide +kernel
theorem dJ3_checkFromIndexSize_8c36e_2 : decode cJ3_checkFromIndexSize_8c36e 2 = .ok (.ior, 1) := by decide +kernel
theorem dJ3_checkFromIndexSize_8c36e_3 : decode cJ3_checkFromIndexSize_8c36e 3 = .ok (.iload_n 1, 1) := by decide +kernel
theorem dJ3_checkFromIndexSize_8c36e_4 : decode cJ3_checkFromIndexSize_8c36e 4 = .ok (.ior, 1) := by decide +kernel
theorem dJ3_checkFromIndexSize_8c36e_5 : decode cJ3_checkFromIndexSize_8c36e 5 = .ok (.ifCond .lt 10, 3) := by decide +kernel
theorem dJ3_checkFromIndexSize_8c36e_8 : decode cJ3_checkFromIndexSize_8c36e 8 = .ok (.iload_n 1, 1) := by decide +kernel
theorem dJ3_checkFromIndexSize_8c36e_9 : decode cJ3_checkFromIndexSize_8c36e 9 = .ok (.iload_n 2, 1) := by decide +kernel
theorem dJ3_checkFromIndexSize_8c36e_10 : decode cJ3_checkFromIndexSize_8c36e 10 = .ok (.iload_n 0, 1) := by decide +kernel
theorem dJ3_checkFromIndexSize_8c36e_11 : decode cJ3_checkFromIndexSize_8c36e 11 = .ok (.isub, 1) := by decide +kernel
theorem dJ3_checkFromIndexSize_8c36e_12 : decode cJ3_checkFromIndexSize_8c36e 12 = .ok (.if_icmp .le 11, 3) := by decide +kernel
theorem dJ3_checkFromIndexSize_8c36e_15 : decode cJ3_checkFromIndexSize_8c36e 15 = .ok (.aload_n 3, 1) := by decide +kernel
theorem dJ3_checkFromIndexSize_8c36e_16 : decode cJ3_checkFromIndexSize_8c36e 16 = .ok (.iload_n 0, 1) := by decide +kernel
theorem dJ3_checkFromIndexSize_8c36e_17 : decode cJ3_checkFromIndexSize_8c36e 17 = .ok (.iload_n 1, 1) := by decide +kernel
theorem dJ3_checkFromIndexSize_8c36e_18 : decode cJ3_checkFromIndexSize_8c36e 18 = .ok (.iload_n 2, 1) := by decide +kernel
theorem dJ3_checkFromIndexSize_8c36e_19 : decode cJ3_checkFromIndexSize_8c36e 19 = .ok (.invokestatic 103, 3) := by decide +kernel
theorem dJ3_checkFromIndexSize_8c36e_22 : decode cJ3_checkFromIndexSize_8c36e 22 = .ok (.athrow, 1) := by decide +kernel
theorem dJ3_checkFromIndexSize_8c36e_23 : decode cJ3_checkFromIndexSize_8c36e 23 = .ok (.iload_n 0, 1) := by decide +kernel
theorem dJ3_checkFromIndexSize_8c36e_24 : decode cJ3_checkFromIndexSize_8c36e 24 = .ok (.ireturn, 1) := by decide +kernel
theorem dL_addDie_0 : decode cL_addDie 0 = .ok (.aload_n 3, 1) := by decide +kernel
theorem dL_addDie_1 : decode cL_addDie 1 = .ok (.iconst 0, 1) := by decide +kernel
theorem dL_addDie_2 : decode cL_addDie 2 = .ok (.aload_n 0, 1) := by decide +kernel
theorem dL_addDie_3 : decode cL_addDie 3 = .ok (.iload_n 1, 1) := by decide +kernel
theorem dL_addDie_4 : decode cL_addDie 4 = .ok (.iload_n 2, 1) := by decide +kernel
theorem dL_addDie_5 : decode cL_addDie 5 = .ok (.invokevirtual 7, 3) := by decide +kernel
theorem dL_addDie_8 : decode cL_addDie 8 = .ok (.i2l, 1) := by decide +kernel
theorem dL_addDie_9 : decode cL_addDie 9 = .ok (.lastore, 1) := by decide +kernel
theorem dL_addDie_10 : decode cL_addDie 10 = .ok (.goto 15, 3) := by decide +kernel
theorem dL_addDie_13 : decode cL_addDie 13 = .ok (.astore 4, 2) := by decide +kernel
theorem dL_addDie_15 : decode cL_addDie 15 = .ok (.iconst 1, 1) := by decide +kernel
theorem dL_addDie_16 : decode cL_addDie 16 = .ok (.ireturn, 1) := by decide +kernel
theorem dL_addDie_17 : decode cL_addDie 17 = .ok (.astore 4, 2) := by decide +kernel
theorem dL_addDie_19 : decode cL_addDie 19 = .ok (.iconst 2, 1) := by decide +kernel
theorem dL_addDie_20 : decode cL_addDie 20 = .ok (.ireturn, 1) := by decide +kernel
theorem dL_addDie_21 : decode cL_addDie 21 = .ok (.astore 4, 2) := by decide +kernel
theorem dL_addDie_23 : decode cL_addDie 23 = .ok (.iconst 3, 1) := by decide +kernel
theorem dL_addDie_24 : decode cL_addDie 24 = .ok (.ireturn, 1) := by decide +kernel
theorem dL_addDie_25 : decode cL_addDie 25 = .ok (.iconst 0, 1) := by decide +kernel
theorem dL_addDie_26 : decode cL_addDie 26 = .ok (.ireturn, 1) := by decide +kernel
theorem dL_sharpen_0 : decode cL_sharpen 0 = .ok (.aload_n 2, 1) := by decide +kernel
theorem dL_sharpen_1 : decode cL_sharpen 1 = .ok (.iconst 0, 1) := by decide +kernel
theorem dL_sharpen_2 : decode cL_sharpen 2 = .ok (.aload_n 0, 1) := by decide +kernel
theorem dL_sharpen_3 : decode cL_sharpen 3 = .ok (.iload_n 1, 1) := by decide +kernel
theorem dL_sharpen_4 : decode cL_sharpen 4 = .ok (.invokevirtual 19, 3) := by decide +kernel
theorem dL_sharpen_7 : decode cL_sharpen 7 = .ok (.i2l, 1) := by decide +kernel
theorem dL_sharpen_8 : decode cL_sharpen 8 = .ok (.lastore, 1) := by decide +kernel
theorem dL_sharpen_9 : decode cL_sharpen 9 = .ok (.goto 9, 3) := by decide +kernel
theorem dL_sharpen_12 : decode cL_sharpen 12 = .ok (.astore_n 3, 1) := by decide +kernel
theorem dL_sharpen_13 : decode cL_sharpen 13 = .ok (.iconst 1, 1) := by decide +kernel
theorem dL_sharpen_14 : decode cL_sharpen 14 = .ok (.ireturn, 1) := by decide +kernel
theorem dL_sharpen_15 : decode cL_sharpen 15 = .ok (.astore_n 3, 1) := by decide +kernel
theorem dL_sharpen_16 : decode cL_sharpen 16 = .ok (.iconst 2, 1) := by decide +kernel
theorem dL_sharpen_17 : decode cL_sharpen 17 = .ok (.ireturn, 1) := by decide +kernel
theorem dL_sharpen_18 : decode cL_sharpen 18 = .ok (.iconst 0, 1) := by decide +kernel
theorem dL_sharpen_19 : decode cL_sharpen 19 = .ok (.ireturn, 1) := by decide +kernel
theorem dL_addLeaves_0 : decode cL_addLeaves 0 = .ok (.aload_n 2, 1) := by decide +kernel
theorem dL_addLeaves_1 : decode cL_addLeaves 1 = .ok (.iconst 0, 1) := by decide +kernel
theorem dL_addLeaves_2 : decode cL_addLeaves 2 = .ok (.aload_n 0, 1) := by decide +kernel
theorem dL_addLeaves_3 : decode cL_addLeaves 3 = .ok (.iload_n 1, 1) := by decide +kernel
theorem dL_addLeaves_4 : decode cL_addLeaves 4 = .ok (.invokevirtual 25, 3) := by decide +kernel
theorem dL_addLeaves_7 : decode cL_addLeaves 7 = .ok (.i2l, 1) := by decide +kernel
theorem dL_addLeaves_8 : decode cL_addLeaves 8 = .ok (.lastore, 1) := by decide +kernel
theorem dL_addLeaves_9 : decode cL_addLeaves 9 = .ok (.goto 9, 3) := by decide +kernel
theorem dL_addLeaves_12 : decode cL_addLeaves 12 = .ok (.astore_n 3, 1) := by decide +kernel
theorem dL_addLeaves_13 : decode cL_addLeaves 13 = .ok (.iconst 1, 1) := by decide +kernel
theorem dL_addLeaves_14 : decode cL_addLeaves 14 = .ok (.ireturn, 1) := by decide +kernel
theorem dL_addLeaves_15 : decode cL_addLeaves 15 = .ok (.astore_n 3, 1) := by decide +kernel
theorem dL_addLeaves_16 : decode cL_addLeaves 16 = .ok (.iconst 2, 1) := by decide +kernel
theorem dL_addLeaves_17 : decode cL_addLeaves 17 = .ok (.ireturn, 1) := by decide +kernel
theorem dL_addLeaves_18 : decode cL_addLeaves 18 = .ok (.iconst 0, 1) := by decide +kernel
theorem dL_addLeaves_19 : decode cL_addLeaves 19 = .ok (.ireturn, 1) := by decide +kernel
theorem dL_strike_0 : decode cL_strike 0 = .ok (.aload_n 3, 1) := by decide +kernel
theorem dL_strike_1 : decode cL_strike 1 = .ok (.iconst 0, 1) := by decide +kernel
theorem dL_strike_2 : decode cL_strike 2 = .ok (.aload_n 0, 1) := by decide +kernel
theorem dL_strike_3 : decode cL_strike 3 = .ok (.iload_n 1, 1) := by decide +kernel
theorem dL_strike_4 : decode cL_strike 4 = .ok (.iload_n 2, 1) := by decide +kernel
theorem dL_strike_5 : decode cL_strike 5 = .ok (.invokevirtual 28, 3) := by decide +kernel
theorem dL_strike_8 : decode cL_strike 8 = .ok (.i2l, 1) := by decide +kernel
theorem dL_strike_9 : decode cL_strike 9 = .ok (.lastore, 1) := by decide +kernel
theorem dL_strike_10 : decode cL_strike 10 = .ok (.goto 19, 3) := by decide +kernel
theorem dL_strike_13 : decode cL_strike 13 = .ok (.astore 4, 2) := by decide +kernel
theorem dL_strike_15 : decode cL_strike 15 = .ok (.iconst 1, 1) := by decide +kernel
theorem dL_strike_16 : decode cL_strike 16 = .ok (.ireturn, 1) := by decide +kernel
theorem dL_strike_17 : decode cL_strike 17 = .ok (.astore 4, 2) := by decide +kernel
theorem dL_strike_19 : decode cL_strike 19 = .ok (.iconst 2, 1) := by decide +kernel
theorem dL_strike_20 : decode cL_strike 20 = .ok (.ireturn, 1) := by decide +kernel
theorem dL_strike_21 : decode cL_strike 21 = .ok (.astore 4, 2) := by decide +kernel
theorem dL_strike_23 : decode cL_strike 23 = .ok (.iconst 3, 1) := by decide +kernel
theorem dL_strike_24 : decode cL_strike 24 = .ok (.ireturn, 1) := by decide +kernel
theorem dL_strike_25 : decode cL_strike 25 = .ok (.astore 4, 2) := by decide +kernel
theorem dL_strike_27 : decode cL_strike 27 = .ok (.iconst 4, 1) := by decide +kernel
theorem dL_strike_28 : decode cL_strike 28 = .ok (.ireturn, 1) := by decide +kernel
theorem dL_strike_29 : decode cL_strike 29 = .ok (.iconst 0, 1) := by decide +kernel
theorem dL_strike_30 : decode cL_strike 30 = .ok (.ireturn, 1) := by decide +kernel
theorem dL_passYears_0 : decode cL_passYears 0 = .ok (.aload_n 2, 1) := by decide +kernel
theorem dL_passYears_1 : decode cL_passYears 1 = .ok (.iconst 0, 1) := by decide +kernel
theorem dL_passYears_2 : decode cL_passYears 2 = .ok (.aload_n 0, 1) := by decide +kernel
theorem dL_passYears_3 : decode cL_passYears 3 = .ok (.iload_n 1, 1) := by decide +kernel
theorem dL_passYears_4 : decode cL_passYears 4 = .ok (.invokevirtual 31, 3) := by decide +kernel
theorem dL_passYears_7 : decode cL_passYears 7 = .ok (.i2l, 1) := by decide +kernel
theorem dL_passYears_8 : decode cL_passYears 8 = .ok (.lastore, 1) := by decide +kernel
theorem dL_passYears_9 : decode cL_passYears 9 = .ok (.goto 6, 3) := by decide +kernel
theorem dL_passYears_12 : decode cL_passYears 12 = .ok (.astore_n 3, 1) := by decide +kernel
theorem dL_passYears_13 : decode cL_passYears 13 = .ok (.iconst 1, 1) := by decide +kernel
theorem dL_passYears_14 : decode cL_passYears 14 = .ok (.ireturn, 1) := by decide +kernel
theorem dL_passYears_15 : decode cL_passYears 15 = .ok (.iconst 0, 1) := by decide +kernel
theorem dL_passYears_16 : decode cL_passYears 16 = .ok (.ireturn, 1) := by decide +kernel
theorem dL_recall_0 : decode cL_recall 0 = .ok (.aload_n 2, 1) := by decide +kernel
theorem dL_recall_1 : decode cL_recall 1 = .ok (.iconst 0, 1) := by decide +kernel
theorem dL_recall_2 : decode cL_recall 2 = .ok (.aload_n 0, 1) := by decide +kernel
theorem dL_recall_3 : decode cL_recall 3 = .ok (.iload_n 1, 1) := by decide +kernel
theorem dL_recall_4 : decode cL_recall 4 = .ok (.invokevirtual 34, 3) := by decide +kernel
theorem dL_recall_7 : decode cL_recall 7 = .ok (.i2l, 1) := by decide +kernel
theorem dL_recall_8 : decode cL_recall 8 = .ok (.lastore, 1) := by decide +kernel
theorem dL_recall_9 : decode cL_recall 9 = .ok (.goto 9, 3) := by decide +kernel
theorem dL_recall_12 : decode cL_recall 12 = .ok (.astore_n 3, 1) := by decide +kernel
theorem dL_recall_13 : decode cL_recall 13 = .ok (.iconst 1, 1) := by decide +kernel
theorem dL_recall_14 : decode cL_recall 14 = .ok (.ireturn, 1) := by decide +kernel
theorem dL_recall_15 : decode cL_recall 15 = .ok (.astore_n 3, 1) := by decide +kernel
theorem dL_recall_16 : decode cL_recall 16 = .ok (.iconst 2, 1) := by decide +kernel
theorem dL_recall_17 : decode cL_recall 17 = .ok (.ireturn, 1) := by decide +kernel
theorem dL_recall_18 : decode cL_recall 18 = .ok (.iconst 0, 1) := by decide +kernel
theorem dL_recall_19 : decode cL_recall 19 = .ok (.ireturn, 1) := by decide +kernel
theorem dL_pay_0 : decode cL_pay 0 = .ok (.aload_n 2, 1) := by decide +kernel
theorem dL_pay_1 : decode cL_pay 1 = .ok (.iconst 0, 1) := by decide +kernel
theorem dL_pay_2 : decode cL_pay 2 = .ok (.aload_n 0, 1) := by decide +kernel
theorem dL_pay_3 : decode cL_pay 3 = .ok (.iload_n 1, 1) := by decide +kernel
theorem dL_pay_4 : decode cL_pay 4 = .ok (.invokevirtual 39, 3) := by decide +kernel
theorem dL_pay_7 : decode cL_pay 7 = .ok (.i2l, 1) := by decide +kernel
theorem dL_pay_8 : decode cL_pay 8 = .ok (.lastore, 1) := by decide +kernel
theorem dL_pay_9 : decode cL_pay 9 = .ok (.goto 9, 3) := by decide +kernel
theorem dL_pay_12 : decode cL_pay 12 = .ok (.astore_n 3, 1) := by decide +kernel
theorem dL_pay_13 : decode cL_pay 13 = .ok (.iconst 1, 1) := by decide +kernel
theorem dL_pay_14 : decode cL_pay 14 = .ok (.ireturn, 1) := by decide +kernel
theorem dL_pay_15 : decode cL_pay 15 = .ok (.astore_n 3, 1) := by decide +kernel
theorem dL_pay_16 : decode cL_pay 16 = .ok (.iconst 2, 1) := by decide +kernel
theorem dL_pay_17 : decode cL_pay 17 = .ok (.ireturn, 1) := by decide +kernel
theorem dL_pay_18 : decode cL_pay 18 = .ok (.iconst 0, 1) := by decide +kernel
theorem dL_pay_19 : decode cL_pay 19 = .ok (.ireturn, 1) := by decide +kernel
theorem dL_dieValue_0 : decode cL_dieValue 0 = .ok (.aload_n 2, 1) := by decide +kernel
theorem dL_dieValue_1 : decode cL_dieValue 1 = .ok (.iconst 0, 1) := by decide +kernel
theorem dL_dieValue_2 : decode cL_dieValue 2 = .ok (.aload_n 0, 1) := by decide +kernel
theorem dL_dieValue_3 : decode cL_dieValue 3 = .ok (.iload_n 1, 1) := by decide +kernel
theorem dL_dieValue_4 : decode cL_dieValue 4 = .ok (.invokevirtual 42, 3) := by decide +kernel
theorem dL_dieValue_7 : decode cL_dieValue 7 = .ok (.i2l, 1) := by decide +kernel
theorem dL_dieValue_8 : decode cL_dieValue 8 = .ok (.lastore, 1) := by decide +kernel
theorem dL_dieValue_9 : decode cL_dieValue 9 = .ok (.goto 6, 3) := by decide +kernel
theorem dL_dieValue_12 : decode cL_dieValue 12 = .ok (.astore_n 3, 1) := by decide +kernel
theorem dL_dieValue_13 : decode cL_dieValue 13 = .ok (.iconst 1, 1) := by decide +kernel
theorem dL_dieValue_14 : decode cL_dieValue 14 = .ok (.ireturn, 1) := by decide +kernel
theorem dL_dieValue_15 : decode cL_dieValue 15 = .ok (.iconst 0, 1) := by decide +kernel
theorem dL_dieValue_16 : decode cL_dieValue 16 = .ok (.ireturn, 1) := by decide +kernel
theorem dL_coinWeight_0 : decode cL_coinWeight 0 = .ok (.aload_n 2, 1) := by decide +kernel
theorem dL_coinWeight_1 : decode cL_coinWeight 1 = .ok (.iconst 0, 1) := by decide +kernel
theorem dL_coinWeight_2 : decode cL_coinWeight 2 = .ok (.aload_n 0, 1) := by decide +kernel
theorem dL_coinWeight_3 : decode cL_coinWeight 3 = .ok (.iload_n 1, 1) := by decide +kernel
theorem dL_coinWeight_4 : decode cL_coinWeight 4 = .ok (.invokevirtual 45, 3) := by decide +kernel
theorem dL_coinWeight_7 : decode cL_coinWeight 7 = .ok (.i2l, 1) := by decide +kernel
theorem dL_coinWeight_8 : decode cL_coinWeight 8 = .ok (.lastore, 1) := by decide +kernel
theorem dL_coinWeight_9 : decode cL_coinWeight 9 = .ok (.goto 6, 3) := by decide +kernel
theorem dL_coinWeight_12 : decode cL_coinWeight 12 = .ok (.astore_n 3, 1) := by decide +kernel
theorem dL_coinWeight_13 : decode cL_coinWeight 13 = .ok (.iconst 1, 1) := by decide +kernel
theorem dL_coinWeight_14 : decode cL_coinWeight 14 = .ok (.ireturn, 1) := by decide +kernel
theorem dL_coinWeight_15 : decode cL_coinWeight 15 = .ok (.iconst 0, 1) := by decide +kernel
theorem dL_coinWeight_16 : decode cL_coinWeight 16 = .ok (.ireturn, 1) := by decide +kernel
theorem dL_wear_0 : decode cL_wear 0 = .ok (.aload_n 2, 1) := by decide +kernel
theorem dL_wear_1 : decode cL_wear 1 = .ok (.iconst 0, 1) := by decide +kernel
theorem dL_wear_2 : decode cL_wear 2 = .ok (.aload_n 0, 1) := by decide +kernel
theorem dL_wear_3 : decode cL_wear 3 = .ok (.iload_n 1, 1) := by decide +kernel
theorem dL_wear_4 : decode cL_wear 4 = .ok (.invokevirtual 48, 3) := by decide +kernel
theorem dL_wear_7 : decode cL_wear 7 = .ok (.i2l, 1) := by decide +kernel
theorem dL_wear_8 : decode cL_wear 8 = .ok (.lastore, 1) := by decide +kernel
theorem dL_wear_9 : decode cL_wear 9 = .ok (.goto 6, 3) := by decide +kernel
theorem dL_wear_12 : decode cL_wear 12 = .ok (.astore_n 3, 1) := by decide +kernel
theorem dL_wear_13 : decode cL_wear 13 = .ok (.iconst 1, 1) := by decide +kernel
theorem dL_wear_14 : decode cL_wear 14 = .ok (.ireturn, 1) := by decide +kernel
theorem dL_wear_15 : decode cL_wear 15 = .ok (.iconst 0, 1) := by decide +kernel
theorem dL_wear_16 : decode cL_wear 16 = .ok (.ireturn, 1) := by decide +kernel
theorem dL_nextGrade_0 : decode cL_nextGrade 0 = .ok (.aload_n 2, 1) := by decide +kernel
theorem dL_nextGrade_1 : decode cL_nextGrade 1 = .ok (.iconst 0, 1) := by decide +kernel
theorem dL_nextGrade_2 : decode cL_nextGrade 2 = .ok (.aload_n 0, 1) := by decide +kernel
theorem dL_nextGrade_3 : decode cL_nextGrade 3 = .ok (.iload_n 1, 1) := by decide +kernel
theorem dL_nextGrade_4 : decode cL_nextGrade 4 = .ok (.invokevirtual 51, 3) := by decide +kernel
theorem dL_nextGrade_7 : decode cL_nextGrade 7 = .ok (.i2l, 1) := by decide +kernel
theorem dL_nextGrade_8 : decode cL_nextGrade 8 = .ok (.lastore, 1) := by decide +kernel
theorem dL_nextGrade_9 : decode cL_nextGrade 9 = .ok (.goto 9, 3) := by decide +kernel
theorem dL_nextGrade_12 : decode cL_nextGrade 12 = .ok (.astore_n 3, 1) := by decide +kernel
theorem dL_nextGrade_13 : decode cL_nextGrade 13 = .ok (.iconst 1, 1) := by decide +kernel
theorem dL_nextGrade_14 : decode cL_nextGrade 14 = .ok (.ireturn, 1) := by decide +kernel
theorem dL_nextGrade_15 : decode cL_nextGrade 15 = .ok (.astore_n 3, 1) := by decide +kernel
theorem dL_nextGrade_16 : decode cL_nextGrade 16 = .ok (.iconst 2, 1) := by decide +kernel
theorem dL_nextGrade_17 : decode cL_nextGrade 17 = .ok (.ireturn, 1) := by decide +kernel
theorem dL_nextGrade_18 : decode cL_nextGrade 18 = .ok (.iconst 0, 1) := by decide +kernel
theorem dL_nextGrade_19 : decode cL_nextGrade 19 = .ok (.ireturn, 1) := by decide +kernel
theorem dL_dieByWear_0 : decode cL_dieByWear 0 = .ok (.aload_n 2, 1) := by decide +kernel
theorem dL_dieByWear_1 : decode cL_dieByWear 1 = .ok (.iconst 0, 1) := by decide +kernel
theorem dL_dieByWear_2 : decode cL_dieByWear 2 = .ok (.aload_n 0, 1) := by decide +kernel
theorem dL_dieByWear_3 : decode cL_dieByWear 3 = .ok (.iload_n 1, 1) := by decide +kernel
theorem dL_dieByWear_4 : decode cL_dieByWear 4 = .ok (.invokevirtual 55, 3) := by decide +kernel
theorem dL_dieByWear_7 : decode cL_dieByWear 7 = .ok (.i2l, 1) := by decide +kernel
theorem dL_dieByWear_8 : decode cL_dieByWear 8 = .ok (.lastore, 1) := by decide +kernel
theorem dL_dieByWear_9 : decode cL_dieByWear 9 = .ok (.goto 6, 3) := by decide +kernel
theorem dL_dieByWear_12 : decode cL_dieByWear 12 = .ok (.astore_n 3, 1) := by decide +kernel
theorem dL_dieByWear_13 : decode cL_dieByWear 13 = .ok (.iconst 1, 1) := by decide +kernel
theorem dL_dieByWear_14 : decode cL_dieByWear 14 = .ok (.ireturn, 1) := by decide +kernel
theorem dL_dieByWear_15 : decode cL_dieByWear 15 = .ok (.iconst 0, 1) := by decide +kernel
theorem dL_dieByWear_16 : decode cL_dieByWear 16 = .ok (.ireturn, 1) := by decide +kernel
theorem dL_coinsOfValue_0 : decode cL_coinsOfValue 0 = .ok (.aload_n 2, 1) := by decide +kernel
theorem dL_coinsOfValue_1 : decode cL_coinsOfValue 1 = .ok (.iconst 0, 1) := by decide +kernel
theorem dL_coinsOfValue_2 : decode cL_coinsOfValue 2 = .ok (.aload_n 0, 1) := by decide +kernel
theorem dL_coinsOfValue_3 : decode cL_coinsOfValue 3 = .ok (.iload_n 1, 1) := by decide +kernel
theorem dL_coinsOfValue_4 : decode cL_coinsOfValue 4 = .ok (.invokevirtual 58, 3) := by decide +kernel
theorem dL_coinsOfValue_7 : decode cL_coinsOfValue 7 = .ok (.i2l, 1) := by decide +kernel
theorem dL_coinsOfValue_8 : decode cL_coinsOfValue 8 = .ok (.lastore, 1) := by decide +kernel
theorem dL_coinsOfValue_9 : decode cL_coinsOfValue 9 = .ok (.goto 6, 3) := by decide +kernel
theorem dL_coinsOfValue_12 : decode cL_coinsOfValue 12 = .ok (.astore_n 3, 1) := by decide +kernel
theorem dL_coinsOfValue_13 : decode cL_coinsOfValue 13 = .ok (.iconst 1, 1) := by decide +kernel
theorem dL_coinsOfValue_14 : decode cL_coinsOfValue 14 = .ok (.ireturn, 1) := by decide +kernel
theorem dL_coinsOfValue_15 : decode cL_coinsOfValue 15 = .ok (.iconst 0, 1) := by decide +kernel
theorem dL_coinsOfValue_16 : decode cL_coinsOfValue 16 = .ok (.ireturn, 1) := by decide +kernel
theorem dL_coinsOfGrade_0 : decode cL_coinsOfGrade 0 = .ok (.aload_n 2, 1) := by decide +kernel
theorem dL_coinsOfGrade_1 : decode cL_coinsOfGrade 1 = .ok (.iconst 0, 1) := by decide +kernel
theorem dL_coinsOfGrade_2 : decode cL_coinsOfGrade 2 = .ok (.aload_n 0, 1) := by decide +kernel
theorem dL_coinsOfGrade_3 : decode cL_coinsOfGrade 3 = .ok (.iload_n 1, 1) := by decide +kernel
theorem dL_coinsOfGrade_4 : decode cL_coinsOfGrade 4 = .ok (.invokevirtual 61, 3) := by decide +kernel
theorem dL_coinsOfGrade_7 : decode cL_coinsOfGrade 7 = .ok (.i2l, 1) := by decide +kernel
theorem dL_coinsOfGrade_8 : decode cL_coinsOfGrade 8 = .ok (.lastore, 1) := by decide +kernel
theorem dL_coinsOfGrade_9 : decode cL_coinsOfGrade 9 = .ok (.goto 6, 3) := by decide +kernel
theorem dL_coinsOfGrade_12 : decode cL_coinsOfGrade 12 = .ok (.astore_n 3, 1) := by decide +kernel
theorem dL_coinsOfGrade_13 : decode cL_coinsOfGrade 13 = .ok (.iconst 1, 1) := by decide +kernel
theorem dL_coinsOfGrade_14 : decode cL_coinsOfGrade 14 = .ok (.ireturn, 1) := by decide +kernel
theorem dL_coinsOfGrade_15 : decode cL_coinsOfGrade 15 = .ok (.iconst 0, 1) := by decide +kernel
theorem dL_coinsOfGrade_16 : decode cL_coinsOfGrade 16 = .ok (.ireturn, 1) := by decide +kernel
theorem dL_canPay_0 : decode cL_canPay 0 = .ok (.aload_n 2, 1) := by decide +kernel
theorem dL_canPay_1 : decode cL_canPay 1 = .ok (.iconst 0, 1) := by decide +kernel
theorem dL_canPay_2 : decode cL_canPay 2 = .ok (.aload_n 0, 1) := by decide +kernel
theorem dL_canPay_3 : decode cL_canPay 3 = .ok (.iload_n 1, 1) := by decide +kernel
theorem dL_canPay_4 : decode cL_canPay 4 = .ok (.invokevirtual 65, 3) := by decide +kernel
theorem dL_canPay_7 : decode cL_canPay 7 = .ok (.ifCond .eq 7, 3) := by decide +kernel
theorem dL_canPay_10 : decode cL_canPay 10 = .ok (.lconst 1, 1) := by decide +kernel
theorem dL_canPay_11 : decode cL_canPay 11 = .ok (.goto 4, 3) := by decide +kernel
theorem dL_canPay_14 : decode cL_canPay 14 = .ok (.lconst 0, 1) := by decide +kernel
theorem dL_canPay_15 : decode cL_canPay 15 = .ok (.lastore, 1) := by decide +kernel
theorem dL_canPay_16 : decode cL_canPay 16 = .ok (.goto 6, 3) := by decide +kernel
theorem dL_canPay_19 : decode cL_canPay 19 = .ok (.astore_n 3, 1) := by decide +kernel
theorem dL_canPay_20 : decode cL_canPay 20 = .ok (.iconst 1, 1) := by decide +kernel
theorem dL_canPay_21 : decode cL_canPay 21 = .ok (.ireturn, 1) := by decide +kernel
theorem dL_canPay_22 : decode cL_canPay 22 = .ok (.iconst 0, 1) := by decide +kernel
theorem dL_canPay_23 : decode cL_canPay 23 = .ok (.ireturn, 1) := by decide +kernel
theorem dL_fewestCoins_0 : decode cL_fewestCoins 0 = .ok (.aload_n 2, 1) := by decide +kernel
theorem dL_fewestCoins_1 : decode cL_fewestCoins 1 = .ok (.iconst 0, 1) := by decide +kernel
theorem dL_fewestCoins_2 : decode cL_fewestCoins 2 = .ok (.aload_n 0, 1) := by decide +kernel
theorem dL_fewestCoins_3 : decode cL_fewestCoins 3 = .ok (.iload_n 1, 1) := by decide +kernel
theorem dL_fewestCoins_4 : decode cL_fewestCoins 4 = .ok (.invokevirtual 69, 3) := by decide +kernel
theorem dL_fewestCoins_7 : decode cL_fewestCoins 7 = .ok (.i2l, 1) := by decide +kernel
theorem dL_fewestCoins_8 : decode cL_fewestCoins 8 = .ok (.lastore, 1) := by decide +kernel
theorem dL_fewestCoins_9 : decode cL_fewestCoins 9 = .ok (.goto 9, 3) := by decide +kernel
theorem dL_fewestCoins_12 : decode cL_fewestCoins 12 = .ok (.astore_n 3, 1) := by decide +kernel
theorem dL_fewestCoins_13 : decode cL_fewestCoins 13 = .ok (.iconst 1, 1) := by decide +kernel
theorem dL_fewestCoins_14 : decode cL_fewestCoins 14 = .ok (.ireturn, 1) := by decide +kernel
theorem dL_fewestCoins_15 : decode cL_fewestCoins 15 = .ok (.astore_n 3, 1) := by decide +kernel
theorem dL_fewestCoins_16 : decode cL_fewestCoins 16 = .ok (.iconst 2, 1) := by decide +kernel
theorem dL_fewestCoins_17 : decode cL_fewestCoins 17 = .ok (.ireturn, 1) := by decide +kernel
theorem dL_fewestCoins_18 : decode cL_fewestCoins 18 = .ok (.iconst 0, 1) := by decide +kernel
theorem dL_fewestCoins_19 : decode cL_fewestCoins 19 = .ok (.ireturn, 1) := by decide +kernel
theorem dL_fewestCoinsBySets_0 : decode cL_fewestCoinsBySets 0 = .ok (.aload_n 2, 1) := by decide +kernel
theorem dL_fewestCoinsBySets_1 : decode cL_fewestCoinsBySets 1 = .ok (.iconst 0, 1) := by decide +kernel
theorem dL_fewestCoinsBySets_2 : decode cL_fewestCoinsBySets 2 = .ok (.aload_n 0, 1) := by decide +kernel
theorem dL_fewestCoinsBySets_3 : decode cL_fewestCoinsBySets 3 = .ok (.iload_n 1, 1) := by decide +kernel
theorem dL_fewestCoinsBySets_4 : decode cL_fewestCoinsBySets 4 = .ok (.invokevirtual 72, 3) := by decide +kernel
theorem dL_fewestCoinsBySets_7 : decode cL_fewestCoinsBySets 7 = .ok (.i2l, 1) := by decide +kernel
theorem dL_fewestCoinsBySets_8 : decode cL_fewestCoinsBySets 8 = .ok (.lastore, 1) := by decide +kernel
theorem dL_fewestCoinsBySets_9 : decode cL_fewestCoinsBySets 9 = .ok (.goto 9, 3) := by decide +kernel
theorem dL_fewestCoinsBySets_12 : decode cL_fewestCoinsBySets 12 = .ok (.astore_n 3, 1) := by decide +kernel
theorem dL_fewestCoinsBySets_13 : decode cL_fewestCoinsBySets 13 = .ok (.iconst 1, 1) := by decide +kernel
theorem dL_fewestCoinsBySets_14 : decode cL_fewestCoinsBySets 14 = .ok (.ireturn, 1) := by decide +kernel
theorem dL_fewestCoinsBySets_15 : decode cL_fewestCoinsBySets 15 = .ok (.astore_n 3, 1) := by decide +kernel
theorem dL_fewestCoinsBySets_16 : decode cL_fewestCoinsBySets 16 = .ok (.iconst 2, 1) := by decide +kernel
theorem dL_fewestCoinsBySets_17 : decode cL_fewestCoinsBySets 17 = .ok (.ireturn, 1) := by decide +kernel
theorem dL_fewestCoinsBySets_18 : decode cL_fewestCoinsBySets 18 = .ok (.iconst 0, 1) := by decide +kernel
theorem dL_fewestCoinsBySets_19 : decode cL_fewestCoinsBySets 19 = .ok (.ireturn, 1) := by decide +kernel
theorem dL_greedyCoins_0 : decode cL_greedyCoins 0 = .ok (.aload_n 2, 1) := by decide +kernel
theorem dL_greedyCoins_1 : decode cL_greedyCoins 1 = .ok (.iconst 0, 1) := by decide +kernel
theorem dL_greedyCoins_2 : decode cL_greedyCoins 2 = .ok (.aload_n 0, 1) := by decide +kernel
theorem dL_greedyCoins_3 : decode cL_greedyCoins 3 = .ok (.iload_n 1, 1) := by decide +kernel
theorem dL_greedyCoins_4 : decode cL_greedyCoins 4 = .ok (.invokevirtual 75, 3) := by decide +kernel
theorem dL_greedyCoins_7 : decode cL_greedyCoins 7 = .ok (.i2l, 1) := by decide +kernel
theorem dL_greedyCoins_8 : decode cL_greedyCoins 8 = .ok (.lastore, 1) := by decide +kernel
theorem dL_greedyCoins_9 : decode cL_greedyCoins 9 = .ok (.goto 9, 3) := by decide +kernel
theorem dL_greedyCoins_12 : decode cL_greedyCoins 12 = .ok (.astore_n 3, 1) := by decide +kernel
theorem dL_greedyCoins_13 : decode cL_greedyCoins 13 = .ok (.iconst 1, 1) := by decide +kernel
theorem dL_greedyCoins_14 : decode cL_greedyCoins 14 = .ok (.ireturn, 1) := by decide +kernel
theorem dL_greedyCoins_15 : decode cL_greedyCoins 15 = .ok (.astore_n 3, 1) := by decide +kernel
theorem dL_greedyCoins_16 : decode cL_greedyCoins 16 = .ok (.iconst 2, 1) := by decide +kernel
theorem dL_greedyCoins_17 : decode cL_greedyCoins 17 = .ok (.ireturn, 1) := by decide +kernel
theorem dL_greedyCoins_18 : decode cL_greedyCoins 18 = .ok (.iconst 0, 1) := by decide +kernel
theorem dL_greedyCoins_19 : decode cL_greedyCoins 19 = .ok (.ireturn, 1) := by decide +kernel
theorem dL_coinsUsed_0 : decode cL_coinsUsed 0 = .ok (.aload_n 3, 1) := by decide +kernel
theorem dL_coinsUsed_1 : decode cL_coinsUsed 1 = .ok (.iconst 0, 1) := by decide +kernel
theorem dL_coinsUsed_2 : decode cL_coinsUsed 2 = .ok (.aload_n 0, 1) := by decide +kernel
theorem dL_coinsUsed_3 : decode cL_coinsUsed 3 = .ok (.iload_n 1, 1) := by decide +kernel
theorem dL_coinsUsed_4 : decode cL_coinsUsed 4 = .ok (.iload_n 2, 1) := by decide +kernel
theorem dL_coinsUsed_5 : decode cL_coinsUsed 5 = .ok (.invokevirtual 78, 3) := by decide +kernel
theorem dL_coinsUsed_8 : decode cL_coinsUsed 8 = .ok (.i2l, 1) := by decide +kernel
theorem dL_coinsUsed_9 : decode cL_coinsUsed 9 = .ok (.lastore, 1) := by decide +kernel
theorem dL_coinsUsed_10 : decode cL_coinsUsed 10 = .ok (.goto 15, 3) := by decide +kernel
theorem dL_coinsUsed_13 : decode cL_coinsUsed 13 = .ok (.astore 4, 2) := by decide +kernel
theorem dL_coinsUsed_15 : decode cL_coinsUsed 15 = .ok (.iconst 1, 1) := by decide +kernel
theorem dL_coinsUsed_16 : decode cL_coinsUsed 16 = .ok (.ireturn, 1) := by decide +kernel
theorem dL_coinsUsed_17 : decode cL_coinsUsed 17 = .ok (.astore 4, 2) := by decide +kernel
theorem dL_coinsUsed_19 : decode cL_coinsUsed 19 = .ok (.iconst 2, 1) := by decide +kernel
theorem dL_coinsUsed_20 : decode cL_coinsUsed 20 = .ok (.ireturn, 1) := by decide +kernel
theorem dL_coinsUsed_21 : decode cL_coinsUsed 21 = .ok (.astore 4, 2) := by decide +kernel
theorem dL_coinsUsed_23 : decode cL_coinsUsed 23 = .ok (.iconst 3, 1) := by decide +kernel
theorem dL_coinsUsed_24 : decode cL_coinsUsed 24 = .ok (.ireturn, 1) := by decide +kernel
theorem dL_coinsUsed_25 : decode cL_coinsUsed 25 = .ok (.iconst 0, 1) := by decide +kernel
theorem dL_coinsUsed_26 : decode cL_coinsUsed 26 = .ok (.ireturn, 1) := by decide +kernel
theorem dL_meanWear_0 : decode cL_meanWear 0 = .ok (.aload_n 1, 1) := by decide +kernel
theorem dL_meanWear_1 : decode cL_meanWear 1 = .ok (.iconst 0, 1) := by decide +kernel
theorem dL_meanWear_2 : decode cL_meanWear 2 = .ok (.aload_n 0, 1) := by decide +kernel
theorem dL_meanWear_3 : decode cL_meanWear 3 = .ok (.invokevirtual 81, 3) := by decide +kernel
theorem dL_meanWear_6 : decode cL_meanWear 6 = .ok (.dastore, 1) := by decide +kernel
theorem dL_meanWear_7 : decode cL_meanWear 7 = .ok (.goto 6, 3) := by decide +kernel
theorem dL_meanWear_10 : decode cL_meanWear 10 = .ok (.astore_n 2, 1) := by decide +kernel
theorem dL_meanWear_11 : decode cL_meanWear 11 = .ok (.iconst 1, 1) := by decide +kernel
theorem dL_meanWear_12 : decode cL_meanWear 12 = .ok (.ireturn, 1) := by decide +kernel
theorem dL_meanWear_13 : decode cL_meanWear 13 = .ok (.iconst 0, 1) := by decide +kernel
theorem dL_meanWear_14 : decode cL_meanWear 14 = .ok (.ireturn, 1) := by decide +kernel
theorem dL_gradeShare_0 : decode cL_gradeShare 0 = .ok (.aload_n 2, 1) := by decide +kernel
theorem dL_gradeShare_1 : decode cL_gradeShare 1 = .ok (.iconst 0, 1) := by decide +kernel
theorem dL_gradeShare_2 : decode cL_gradeShare 2 = .ok (.aload_n 0, 1) := by decide +kernel
theorem dL_gradeShare_3 : decode cL_gradeShare 3 = .ok (.iload_n 1, 1) := by decide +kernel
theorem dL_gradeShare_4 : decode cL_gradeShare 4 = .ok (.invokevirtual 87, 3) := by decide +kernel
theorem dL_gradeShare_7 : decode cL_gradeShare 7 = .ok (.f2d, 1) := by decide +kernel
theorem dL_gradeShare_8 : decode cL_gradeShare 8 = .ok (.dastore, 1) := by decide +kernel
theorem dL_gradeShare_9 : decode cL_gradeShare 9 = .ok (.goto 9, 3) := by decide +kernel
theorem dL_gradeShare_12 : decode cL_gradeShare 12 = .ok (.astore_n 3, 1) := by decide +kernel
theorem dL_gradeShare_13 : decode cL_gradeShare 13 = .ok (.iconst 1, 1) := by decide +kernel
theorem dL_gradeShare_14 : decode cL_gradeShare 14 = .ok (.ireturn, 1) := by decide +kernel
theorem dL_gradeShare_15 : decode cL_gradeShare 15 = .ok (.astore_n 3, 1) := by decide +kernel
theorem dL_gradeShare_16 : decode cL_gradeShare 16 = .ok (.iconst 2, 1) := by decide +kernel
theorem dL_gradeShare_17 : decode cL_gradeShare 17 = .ok (.ireturn, 1) := by decide +kernel
theorem dL_gradeShare_18 : decode cL_gradeShare 18 = .ok (.iconst 0, 1) := by decide +kernel
theorem dL_gradeShare_19 : decode cL_gradeShare 19 = .ok (.ireturn, 1) := by decide +kernel
theorem dL_renderDie_0 : decode cL_renderDie 0 = .ok (.aload_n 2, 1) := by decide +kernel
theorem dL_renderDie_1 : decode cL_renderDie 1 = .ok (.iconst 0, 1) := by decide +kernel
theorem dL_renderDie_2 : decode cL_renderDie 2 = .ok (.aload_n 0, 1) := by decide +kernel
theorem dL_renderDie_3 : decode cL_renderDie 3 = .ok (.iload_n 1, 1) := by decide +kernel
theorem dL_renderDie_4 : decode cL_renderDie 4 = .ok (.invokevirtual 91, 3) := by decide +kernel
theorem dL_renderDie_7 : decode cL_renderDie 7 = .ok (.i2l, 1) := by decide +kernel
theorem dL_renderDie_8 : decode cL_renderDie 8 = .ok (.lastore, 1) := by decide +kernel
theorem dL_renderDie_9 : decode cL_renderDie 9 = .ok (.goto 6, 3) := by decide +kernel
theorem dL_renderDie_12 : decode cL_renderDie 12 = .ok (.astore_n 3, 1) := by decide +kernel
theorem dL_renderDie_13 : decode cL_renderDie 13 = .ok (.iconst 1, 1) := by decide +kernel
theorem dL_renderDie_14 : decode cL_renderDie 14 = .ok (.ireturn, 1) := by decide +kernel
theorem dL_renderDie_15 : decode cL_renderDie 15 = .ok (.iconst 0, 1) := by decide +kernel
theorem dL_renderDie_16 : decode cL_renderDie 16 = .ok (.ireturn, 1) := by decide +kernel
theorem dL_outputAt_0 : decode cL_outputAt 0 = .ok (.aload_n 2, 1) := by decide +kernel
theorem dL_outputAt_1 : decode cL_outputAt 1 = .ok (.iconst 0, 1) := by decide +kernel
theorem dL_outputAt_2 : decode cL_outputAt 2 = .ok (.aload_n 0, 1) := by decide +kernel
theorem dL_outputAt_3 : decode cL_outputAt 3 = .ok (.iload_n 1, 1) := by decide +kernel
theorem dL_outputAt_4 : decode cL_outputAt 4 = .ok (.invokevirtual 94, 3) := by decide +kernel
theorem dL_outputAt_7 : decode cL_outputAt 7 = .ok (.i2l, 1) := by decide +kernel
theorem dL_outputAt_8 : decode cL_outputAt 8 = .ok (.lastore, 1) := by decide +kernel
theorem dL_outputAt_9 : decode cL_outputAt 9 = .ok (.goto 6, 3) := by decide +kernel
theorem dL_outputAt_12 : decode cL_outputAt 12 = .ok (.astore_n 3, 1) := by decide +kernel
theorem dL_outputAt_13 : decode cL_outputAt 13 = .ok (.iconst 1, 1) := by decide +kernel
theorem dL_outputAt_14 : decode cL_outputAt 14 = .ok (.ireturn, 1) := by decide +kernel
theorem dL_outputAt_15 : decode cL_outputAt 15 = .ok (.iconst 0, 1) := by decide +kernel
theorem dL_outputAt_16 : decode cL_outputAt 16 = .ok (.ireturn, 1) := by decide +kernel
theorem dL_type_0 : decode cL_type 0 = .ok (.aload_n 2, 1) := by decide +kernel
theorem dL_type_1 : decode cL_type 1 = .ok (.iconst 0, 1) := by decide +kernel
theorem dL_type_2 : decode cL_type 2 = .ok (.aload_n 0, 1) := by decide +kernel
theorem dL_type_3 : decode cL_type 3 = .ok (.iload_n 1, 1) := by decide +kernel
theorem dL_type_4 : decode cL_type 4 = .ok (.invokevirtual 97, 3) := by decide +kernel
theorem dL_type_7 : decode cL_type 7 = .ok (.i2l, 1) := by decide +kernel
theorem dL_type_8 : decode cL_type 8 = .ok (.lastore, 1) := by decide +kernel
theorem dL_type_9 : decode cL_type 9 = .ok (.goto 9, 3) := by decide +kernel
theorem dL_type_12 : decode cL_type 12 = .ok (.astore_n 3, 1) := by decide +kernel
theorem dL_type_13 : decode cL_type 13 = .ok (.iconst 1, 1) := by decide +kernel
theorem dL_type_14 : decode cL_type 14 = .ok (.ireturn, 1) := by decide +kernel
theorem dL_type_15 : decode cL_type 15 = .ok (.astore_n 3, 1) := by decide +kernel
theorem dL_type_16 : decode cL_type 16 = .ok (.iconst 2, 1) := by decide +kernel
theorem dL_type_17 : decode cL_type 17 = .ok (.ireturn, 1) := by decide +kernel
theorem dL_type_18 : decode cL_type 18 = .ok (.iconst 0, 1) := by decide +kernel
theorem dL_type_19 : decode cL_type 19 = .ok (.ireturn, 1) := by decide +kernel
theorem dL_runScript_0 : decode cL_runScript 0 = .ok (.aload_n 1, 1) := by decide +kernel
theorem dL_runScript_1 : decode cL_runScript 1 = .ok (.iconst 0, 1) := by decide +kernel
theorem dL_runScript_2 : decode cL_runScript 2 = .ok (.aload_n 0, 1) := by decide +kernel
theorem dL_runScript_3 : decode cL_runScript 3 = .ok (.invokevirtual 100, 3) := by decide +kernel
theorem dL_runScript_6 : decode cL_runScript 6 = .ok (.i2l, 1) := by decide +kernel
theorem dL_runScript_7 : decode cL_runScript 7 = .ok (.lastore, 1) := by decide +kernel
theorem dL_runScript_8 : decode cL_runScript 8 = .ok (.goto 9, 3) := by decide +kernel
theorem dL_runScript_11 : decode cL_runScript 11 = .ok (.astore_n 2, 1) := by decide +kernel
theorem dL_runScript_12 : decode cL_runScript 12 = .ok (.iconst 1, 1) := by decide +kernel
theorem dL_runScript_13 : decode cL_runScript 13 = .ok (.ireturn, 1) := by decide +kernel
theorem dL_runScript_14 : decode cL_runScript 14 = .ok (.astore_n 2, 1) := by decide +kernel
theorem dL_runScript_15 : decode cL_runScript 15 = .ok (.iconst 2, 1) := by decide +kernel
theorem dL_runScript_16 : decode cL_runScript 16 = .ok (.ireturn, 1) := by decide +kernel
theorem dL_runScript_17 : decode cL_runScript 17 = .ok (.iconst 0, 1) := by decide +kernel
theorem dL_runScript_18 : decode cL_runScript 18 = .ok (.ireturn, 1) := by decide +kernel
theorem dL_errorPosition_0 : decode cL_errorPosition 0 = .ok (.aload_n 1, 1) := by decide +kernel
theorem dL_errorPosition_1 : decode cL_errorPosition 1 = .ok (.iconst 0, 1) := by decide +kernel
theorem dL_errorPosition_2 : decode cL_errorPosition 2 = .ok (.aload_n 0, 1) := by decide +kernel
theorem dL_errorPosition_3 : decode cL_errorPosition 3 = .ok (.invokevirtual 104, 3) := by decide +kernel
theorem dL_errorPosition_6 : decode cL_errorPosition 6 = .ok (.i2l, 1) := by decide +kernel
theorem dL_errorPosition_7 : decode cL_errorPosition 7 = .ok (.lastore, 1) := by decide +kernel
theorem dL_errorPosition_8 : decode cL_errorPosition 8 = .ok (.goto 6, 3) := by decide +kernel
theorem dL_errorPosition_11 : decode cL_errorPosition 11 = .ok (.astore_n 2, 1) := by decide +kernel
theorem dL_errorPosition_12 : decode cL_errorPosition 12 = .ok (.iconst 1, 1) := by decide +kernel
theorem dL_errorPosition_13 : decode cL_errorPosition 13 = .ok (.ireturn, 1) := by decide +kernel
theorem dL_errorPosition_14 : decode cL_errorPosition 14 = .ok (.iconst 0, 1) := by decide +kernel
theorem dL_errorPosition_15 : decode cL_errorPosition 15 = .ok (.ireturn, 1) := by decide +kernel
theorem dL_failedCommand_0 : decode cL_failedCommand 0 = .ok (.aload_n 1, 1) := by decide +kernel
theorem dL_failedCommand_1 : decode cL_failedCommand 1 = .ok (.iconst 0, 1) := by decide +kernel
theorem dL_failedCommand_2 : decode cL_failedCommand 2 = .ok (.aload_n 0, 1) := by decide +kernel
theorem dL_failedCommand_3 : decode cL_failedCommand 3 = .ok (.invokevirtual 107, 3) := by decide +kernel
theorem dL_failedCommand_6 : decode cL_failedCommand 6 = .ok (.i2l, 1) := by decide +kernel
theorem dL_failedCommand_7 : decode cL_failedCommand 7 = .ok (.lastore, 1) := by decide +kernel
theorem dL_failedCommand_8 : decode cL_failedCommand 8 = .ok (.goto 6, 3) := by decide +kernel
theorem dL_failedCommand_11 : decode cL_failedCommand 11 = .ok (.astore_n 2, 1) := by decide +kernel
theorem dL_failedCommand_12 : decode cL_failedCommand 12 = .ok (.iconst 1, 1) := by decide +kernel
theorem dL_failedCommand_13 : decode cL_failedCommand 13 = .ok (.ireturn, 1) := by decide +kernel
theorem dL_failedCommand_14 : decode cL_failedCommand 14 = .ok (.iconst 0, 1) := by decide +kernel
theorem dL_failedCommand_15 : decode cL_failedCommand 15 = .ok (.ireturn, 1) := by decide +kernel
theorem dL_undo_0 : decode cL_undo 0 = .ok (.aload_n 1, 1) := by decide +kernel
theorem dL_undo_1 : decode cL_undo 1 = .ok (.iconst 0, 1) := by decide +kernel
theorem dL_undo_2 : decode cL_undo 2 = .ok (.aload_n 0, 1) := by decide +kernel
theorem dL_undo_3 : decode cL_undo 3 = .ok (.invokevirtual 110, 3) := by decide +kernel
theorem dL_undo_6 : decode cL_undo 6 = .ok (.i2l, 1) := by decide +kernel
theorem dL_undo_7 : decode cL_undo 7 = .ok (.lastore, 1) := by decide +kernel
theorem dL_undo_8 : decode cL_undo 8 = .ok (.goto 6, 3) := by decide +kernel
theorem dL_undo_11 : decode cL_undo 11 = .ok (.astore_n 2, 1) := by decide +kernel
theorem dL_undo_12 : decode cL_undo 12 = .ok (.iconst 1, 1) := by decide +kernel
theorem dL_undo_13 : decode cL_undo 13 = .ok (.ireturn, 1) := by decide +kernel
theorem dL_undo_14 : decode cL_undo 14 = .ok (.iconst 0, 1) := by decide +kernel
theorem dL_undo_15 : decode cL_undo 15 = .ok (.ireturn, 1) := by decide +kernel
theorem dL_restore_0 : decode cL_restore 0 = .ok (.aload_n 1, 1) := by decide +kernel
theorem dL_restore_1 : decode cL_restore 1 = .ok (.iconst 0, 1) := by decide +kernel
theorem dL_restore_2 : decode cL_restore 2 = .ok (.aload_n 0, 1) := by decide +kernel
theorem dL_restore_3 : decode cL_restore 3 = .ok (.invokevirtual 113, 3) := by decide +kernel
theorem dL_restore_6 : decode cL_restore 6 = .ok (.i2l, 1) := by decide +kernel
theorem dL_restore_7 : decode cL_restore 7 = .ok (.lastore, 1) := by decide +kernel
theorem dL_restore_8 : decode cL_restore 8 = .ok (.goto 6, 3) := by decide +kernel
theorem dL_restore_11 : decode cL_restore 11 = .ok (.astore_n 2, 1) := by decide +kernel
theorem dL_restore_12 : decode cL_restore 12 = .ok (.iconst 1, 1) := by decide +kernel
theorem dL_restore_13 : decode cL_restore 13 = .ok (.ireturn, 1) := by decide +kernel
theorem dL_restore_14 : decode cL_restore 14 = .ok (.iconst 0, 1) := by decide +kernel
theorem dL_restore_15 : decode cL_restore 15 = .ok (.ireturn, 1) := by decide +kernel
theorem dL_law_0 : decode cL_law 0 = .ok (.new 8, 3) := by decide +kernel
theorem dL_law_3 : decode cL_law 3 = .ok (.dup, 1) := by decide +kernel
theorem dL_law_4 : decode cL_law 4 = .ok (.invokespecial 116, 3) := by decide +kernel
theorem dL_law_7 : decode cL_law 7 = .ok (.astore_n 1, 1) := by decide +kernel
theorem dL_law_8 : decode cL_law 8 = .ok (.new 117, 3) := by decide +kernel
theorem dL_law_11 : decode cL_law 11 = .ok (.dup, 1) := by decide +kernel
theorem dL_law_12 : decode cL_law 12 = .ok (.invokespecial 119, 3) := by decide +kernel
theorem dL_law_15 : decode cL_law 15 = .ok (.astore_n 2, 1) := by decide +kernel
theorem dL_law_16 : decode cL_law 16 = .ok (.iconst 1, 1) := by decide +kernel
theorem dL_law_17 : decode cL_law 17 = .ok (.newarray .long, 2) := by decide +kernel
theorem dL_law_19 : decode cL_law 19 = .ok (.astore_n 3, 1) := by decide +kernel
theorem dL_law_20 : decode cL_law 20 = .ok (.iconst 1, 1) := by decide +kernel
theorem dL_law_21 : decode cL_law 21 = .ok (.newarray .double, 2) := by decide +kernel
theorem dL_law_23 : decode cL_law 23 = .ok (.astore 4, 2) := by decide +kernel
theorem dL_law_25 : decode cL_law 25 = .ok (.iconst 0, 1) := by decide +kernel
theorem dL_law_26 : decode cL_law 26 = .ok (.istore 5, 2) := by decide +kernel
theorem dL_law_28 : decode cL_law 28 = .ok (.iload 5, 2) := by decide +kernel
theorem dL_law_30 : decode cL_law 30 = .ok (.aload_n 0, 1) := by decide +kernel
theorem dL_law_31 : decode cL_law 31 = .ok (.arraylength, 1) := by decide +kernel
theorem dL_law_32 : decode cL_law 32 = .ok (.iconst 3, 1) := by decide +kernel
theorem dL_law_33 : decode cL_law 33 = .ok (.isub, 1) := by decide +kernel
theorem dL_law_34 : decode cL_law 34 = .ok (.if_icmp .gt 2139, 3) := by decide +kernel
theorem dL_law_37 : decode cL_law 37 = .ok (.aload_n 0, 1) := by decide +kernel
theorem dL_law_38 : decode cL_law 38 = .ok (.iload 5, 2) := by decide +kernel
theorem dL_law_40 : decode cL_law 40 = .ok (.iaload, 1) := by decide +kernel
theorem dL_law_41 : decode cL_law 41 = .ok (.bipush 63, 2) := by decide +kernel
theorem dL_law_43 : decode cL_law 43 = .ok (.iand, 1) := by decide +kernel
theorem dL_law_44 : decode cL_law 44 = .ok (.tableswitch 2123 0 47 #[208, 276, 332, 388, 456, 512, 568, 624, 637, 693, 749, 805, 861, 917, 930, 943, 956, 969, 982, 995, 1051, 1076, 1134, 1147, 1210, 1266, 1322, 1378, 1446, 1459, 1484, 1497, 1510, 1523, 1536, 1549, 1614, 1694, 1707, 1763, 1776, 1832, 1890, 1934, 1978, 2022, 2066, 2079], 208) := by decide +kernel
theorem dL_law_252 : decode cL_law 252 = .ok (.aload_n 1, 1) := by decide +kernel
theorem dL_law_253 : decode cL_law 253 = .ok (.aload_n 0, 1) := by decide +kernel
theorem dL_law_254 : decode cL_law 254 = .ok (.iload 5, 2) := by decide +kernel
theorem dL_law_256 : decode cL_law 256 = .ok (.iconst 1, 1) := by decide +kernel
theorem dL_law_257 : decode cL_law 257 = .ok (.iadd, 1) := by decide +kernel
theorem dL_law_258 : decode cL_law 258 = .ok (.iaload, 1) := by decide +kernel
theorem dL_law_259 : decode cL_law 259 = .ok (.aload_n 0, 1) := by decide +kernel
theorem dL_law_260 : decode cL_law 260 = .ok (.iload 5, 2) := by decide +kernel
theorem dL_law_262 : decode cL_law 262 = .ok (.iconst 2, 1) := by decide +kernel
theorem dL_law_263 : decode cL_law 263 = .ok (.iadd, 1) := by decide +kernel
theorem dL_law_264 : decode cL_law 264 = .ok (.iaload, 1) := by decide +kernel
theorem dL_law_265 : decode cL_law 265 = .ok (.aload_n 3, 1) := by decide +kernel
theorem dL_law_266 : decode cL_law 266 = .ok (.invokestatic 120, 3) := by decide +kernel
theorem dL_law_269 : decode cL_law 269 = .ok (.istore 6, 2) := by decide +kernel
theorem dL_law_271 : decode cL_law 271 = .ok (.aload_n 2, 1) := by decide +kernel
theorem dL_law_272 : decode cL_law 272 = .ok (.aload_n 0, 1) := by decide +kernel
theorem dL_law_273 : decode cL_law 273 = .ok (.iload 5, 2) := by decide +kernel
theorem dL_law_275 : decode cL_law 275 = .ok (.iconst 1, 1) := by decide +kernel
theorem dL_law_276 : decode cL_law 276 = .ok (.iadd, 1) := by decide +kernel
theorem dL_law_277 : decode cL_law 277 = .ok (.iaload, 1) := by decide +kernel
theorem dL_law_278 : decode cL_law 278 = .ok (.aload_n 0, 1) := by decide +kernel
theorem dL_law_279 : decode cL_law 279 = .ok (.iload 5, 2) := by decide +kernel
theorem dL_law_281 : decode cL_law 281 = .ok (.iconst 2, 1) := by decide +kernel
theorem dL_law_282 : decode cL_law 282 = .ok (.iadd, 1) := by decide +kernel
theorem dL_law_283 : decode cL_law 283 = .ok (.iaload, 1) := by decide +kernel
theorem dL_law_284 : decode cL_law 284 = .ok (.invokevirtual 125, 3) := by decide +kernel
theorem dL_law_287 : decode cL_law 287 = .ok (.istore 7, 2) := by decide +kernel
theorem dL_law_289 : decode cL_law 289 = .ok (.aload_n 2, 1) := by decide +kernel
theorem dL_law_290 : decode cL_law 290 = .ok (.invokevirtual 126, 3) := by decide +kernel
theorem dL_law_293 : decode cL_law 293 = .ok (.iload 6, 2) := by decide +kernel
theorem dL_law_295 : decode cL_law 295 = .ok (.if_icmp .eq 5, 3) := by decide +kernel
theorem dL_law_298 : decode cL_law 298 = .ok (.iconst 0, 1) := by decide +kernel
theorem dL_law_299 : decode cL_law 299 = .ok (.ireturn, 1) := by decide +kernel
theorem dL_law_300 : decode cL_law 300 = .ok (.iload 6, 2) := by decide +kernel
theorem dL_law_302 : decode cL_law 302 = .ok (.ifCond .ne 15, 3) := by decide +kernel
theorem dL_law_305 : decode cL_law 305 = .ok (.aload_n 3, 1) := by decide +kernel
theorem dL_law_306 : decode cL_law 306 = .ok (.iconst 0, 1) := by decide +kernel
theorem dL_law_307 : decode cL_law 307 = .ok (.laload, 1) := by decide +kernel
theorem dL_law_308 : decode cL_law 308 = .ok (.iload 7, 2) := by decide +kernel
theorem dL_law_310 : decode cL_law 310 = .ok (.i2l, 1) := by decide +kernel
theorem dL_law_311 : decode cL_law 311 = .ok (.lcmp, 1) := by decide +kernel
theorem dL_law_312 : decode cL_law 312 = .ok (.ifCond .eq 5, 3) := by decide +kernel
theorem dL_law_315 : decode cL_law 315 = .ok (.iconst 0, 1) := by decide +kernel
theorem dL_law_316 : decode cL_law 316 = .ok (.ireturn, 1) := by decide +kernel
theorem dL_law_317 : decode cL_law 317 = .ok (.goto 1850, 3) := by decide +kernel
theorem dL_law_320 : decode cL_law 320 = .ok (.aload_n 1, 1) := by decide +kernel
theorem dL_law_321 : decode cL_law 321 = .ok (.aload_n 0, 1) := by decide +kernel
theorem dL_law_322 : decode cL_law 322 = .ok (.iload 5, 2) := by decide +kernel
theorem dL_law_324 : decode cL_law 324 = .ok (.iconst 1, 1) := by decide +kernel
theorem dL_law_325 : decode cL_law 325 = .ok (.iadd, 1) := by decide +kernel
theorem dL_law_326 : decode cL_law 326 = .ok (.iaload, 1) := by decide +kernel
theorem dL_law_327 : decode cL_law 327 = .ok (.aload_n 3, 1) := by decide +kernel
theorem dL_law_328 : decode cL_law 328 = .ok (.invokestatic 129, 3) := by decide +kernel
theorem dL_law_331 : decode cL_law 331 = .ok (.istore 6, 2) := by decide +kernel
theorem dL_law_333 : decode cL_law 333 = .ok (.aload_n 2, 1) := by decide +kernel
theorem dL_law_334 : decode cL_law 334 = .ok (.aload_n 0, 1) := by decide +kernel
theorem dL_law_335 : decode cL_law 335 = .ok (.iload 5, 2) := by decide +kernel
theorem dL_law_337 : decode cL_law 337 = .ok (.iconst 1, 1) := by decide +kernel
theorem dL_law_338 : decode cL_law 338 = .ok (.iadd, 1) := by decide +kernel
theorem dL_law_339 : decode cL_law 339 = .ok (.iaload, 1) := by decide +kernel
theorem dL_law_340 : decode cL_law 340 = .ok (.invokevirtual 132, 3) := by decide +kernel
theorem dL_law_343 : decode cL_law 343 = .ok (.istore 7, 2) := by decide +kernel
theorem dL_law_345 : decode cL_law 345 = .ok (.aload_n 2, 1) := by decide +kernel
theorem dL_law_346 : decode cL_law 346 = .ok (.invokevirtual 126, 3) := by decide +kernel
theorem dL_law_349 : decode cL_law 349 = .ok (.iload 6, 2) := by decide +kernel
theorem dL_law_351 : decode cL_law 351 = .ok (.if_icmp .eq 5, 3) := by decide +kernel
theorem dL_law_354 : decode cL_law 354 = .ok (.iconst 0, 1) := by decide +kernel
theorem dL_law_355 : decode cL_law 355 = .ok (.ireturn, 1) := by decide +kernel
theorem dL_law_356 : decode cL_law 356 = .ok (.iload 6, 2) := by decide +kernel
theorem dL_law_358 : decode cL_law 358 = .ok (.ifCond .ne 15, 3) := by decide +kernel
theorem dL_law_361 : decode cL_law 361 = .ok (.aload_n 3, 1) := by decide +kernel
theorem dL_law_362 : decode cL_law 362 = .ok (.iconst 0, 1) := by decide +kernel
theorem dL_law_363 : decode cL_law 363 = .ok (.laload, 1) := by decide +kernel
theorem dL_law_364 : decode cL_law 364 = .ok (.iload 7, 2) := by decide +kernel
theorem dL_law_366 : decode cL_law 366 = .ok (.i2l, 1) := by decide +kernel
theorem dL_law_367 : decode cL_law 367 = .ok (.lcmp, 1) := by decide +kernel
theorem dL_law_368 : decode cL_law 368 = .ok (.ifCond .eq 5, 3) := by decide +kernel
theorem dL_law_371 : decode cL_law 371 = .ok (.iconst 0, 1) := by decide +kernel
theorem dL_law_372 : decode cL_law 372 = .ok (.ireturn, 1) := by decide +kernel
theorem dL_law_373 : decode cL_law 373 = .ok (.goto 1794, 3) := by decide +kernel
theorem dL_law_376 : decode cL_law 376 = .ok (.aload_n 1, 1) := by decide +kernel
theorem dL_law_377 : decode cL_law 377 = .ok (.aload_n 0, 1) := by decide +kernel
theorem dL_law_378 : decode cL_law 378 = .ok (.iload 5, 2) := by decide +kernel
theorem dL_law_380 : decode cL_law 380 = .ok (.iconst 1, 1) := by decide +kernel
theorem dL_law_381 : decode cL_law 381 = .ok (.iadd, 1) := by decide +kernel
theorem dL_law_382 : decode cL_law 382 = .ok (.iaload, 1) := by decide +kernel
theorem dL_law_383 : decode cL_law 383 = .ok (.aload_n 3, 1) := by decide +kernel
theorem dL_law_384 : decode cL_law 384 = .ok (.invokestatic 133, 3) := by decide +kernel
theorem dL_law_387 : decode cL_law 387 = .ok (.istore 6, 2) := by decide +kernel
theorem dL_law_389 : decode cL_law 389 = .ok (.aload_n 2, 1) := by decide +kernel
theorem dL_law_390 : decode cL_law 390 = .ok (.aload_n 0, 1) := by decide +kernel
theorem dL_law_391 : decode cL_law 391 = .ok (.iload 5, 2) := by decide +kernel
theorem dL_law_393 : decode cL_law 393 = .ok (.iconst 1, 1) := by decide +kernel
theorem dL_law_394 : decode cL_law 394 = .ok (.iadd, 1) := by decide +kernel
theorem dL_law_395 : decode cL_law 395 = .ok (.iaload, 1) := by decide +kernel
theorem dL_law_396 : decode cL_law 396 = .ok (.invokevirtual 135, 3) := by decide +kernel
theorem dL_law_399 : decode cL_law 399 = .ok (.istore 7, 2) := by decide +kernel
theorem dL_law_401 : decode cL_law 401 = .ok (.aload_n 2, 1) := by decide +kernel
theorem dL_law_402 : decode cL_law 402 = .ok (.invokevirtual 126, 3) := by decide +kernel
theorem dL_law_405 : decode cL_law 405 = .ok (.iload 6, 2) := by decide +kernel
theorem dL_law_407 : decode cL_law 407 = .ok (.if_icmp .eq 5, 3) := by decide +kernel
theorem dL_law_410 : decode cL_law 410 = .ok (.iconst 0, 1) := by decide +kernel
theorem dL_law_411 : decode cL_law 411 = .ok (.ireturn, 1) := by decide +kernel
theorem dL_law_412 : decode cL_law 412 = .ok (.iload 6, 2) := by decide +kernel
theorem dL_law_414 : decode cL_law 414 = .ok (.ifCond .ne 15, 3) := by decide +kernel
theorem dL_law_417 : decode cL_law 417 = .ok (.aload_n 3, 1) := by decide +kernel
theorem dL_law_418 : decode cL_law 418 = .ok (.iconst 0, 1) := by decide +kernel
theorem dL_law_419 : decode cL_law 419 = .ok (.laload, 1) := by decide +kernel
theorem dL_law_420 : decode cL_law 420 = .ok (.iload 7, 2) := by decide +kernel
theorem dL_law_422 : decode cL_law 422 = .ok (.i2l, 1) := by decide +kernel
theorem dL_law_423 : decode cL_law 423 = .ok (.lcmp, 1) := by decide +kernel
theorem dL_law_424 : decode cL_law 424 = .ok (.ifCond .eq 5, 3) := by decide +kernel
theorem dL_law_427 : decode cL_law 427 = .ok (.iconst 0, 1) := by decide +kernel
theorem dL_law_428 : decode cL_law 428 = .ok (.ireturn, 1) := by decide +kernel
theorem dL_law_429 : decode cL_law 429 = .ok (.goto 1738, 3) := by decide +kernel
theorem dL_law_432 : decode cL_law 432 = .ok (.aload_n 1, 1) := by decide +kernel
theorem dL_law_433 : decode cL_law 433 = .ok (.aload_n 0, 1) := by decide +kernel
theorem dL_law_434 : decode cL_law 434 = .ok (.iload 5, 2) := by decide +kernel
theorem dL_law_436 : decode cL_law 436 = .ok (.iconst 1, 1) := by decide +kernel
theorem dL_law_437 : decode cL_law 437 = .ok (.iadd, 1) := by decide +kernel
theorem dL_law_438 : decode cL_law 438 = .ok (.iaload, 1) := by decide +kernel
theorem dL_law_439 : decode cL_law 439 = .ok (.aload_n 0, 1) := by decide +kernel
theorem dL_law_440 : decode cL_law 440 = .ok (.iload 5, 2) := by decide +kernel
theorem dL_law_442 : decode cL_law 442 = .ok (.iconst 2, 1) := by decide +kernel
theorem dL_law_443 : decode cL_law 443 = .ok (.iadd, 1) := by decide +kernel
theorem dL_law_444 : decode cL_law 444 = .ok (.iaload, 1) := by decide +kernel
theorem dL_law_445 : decode cL_law 445 = .ok (.aload_n 3, 1) := by decide +kernel
theorem dL_law_446 : decode cL_law 446 = .ok (.invokestatic 136, 3) := by decide +kernel
theorem dL_law_449 : decode cL_law 449 = .ok (.istore 6, 2) := by decide +kernel
theorem dL_law_451 : decode cL_law 451 = .ok (.aload_n 2, 1) := by decide +kernel
theorem dL_law_452 : decode cL_law 452 = .ok (.aload_n 0, 1) := by decide +kernel
theorem dL_law_453 : decode cL_law 453 = .ok (.iload 5, 2) := by decide +kernel
theorem dL_law_455 : decode cL_law 455 = .ok (.iconst 1, 1) := by decide +kernel
theorem dL_law_456 : decode cL_law 456 = .ok (.iadd, 1) := by decide +kernel
theorem dL_law_457 : decode cL_law 457 = .ok (.iaload, 1) := by decide +kernel
theorem dL_law_458 : decode cL_law 458 = .ok (.aload_n 0, 1) := by decide +kernel
theorem dL_law_459 : decode cL_law 459 = .ok (.iload 5, 2) := by decide +kernel
theorem dL_law_461 : decode cL_law 461 = .ok (.iconst 2, 1) := by decide +kernel
theorem dL_law_462 : decode cL_law 462 = .ok (.iadd, 1) := by decide +kernel
theorem dL_law_463 : decode cL_law 463 = .ok (.iaload, 1) := by decide +kernel
theorem dL_law_464 : decode cL_law 464 = .ok (.invokevirtual 138, 3) := by decide +kernel
theorem dL_law_467 : decode cL_law 467 = .ok (.istore 7, 2) := by decide +kernel
theorem dL_law_469 : decode cL_law 469 = .ok (.aload_n 2, 1) := by decide +kernel
theorem dL_law_470 : decode cL_law 470 = .ok (.invokevirtual 126, 3) := by decide +kernel
theorem dL_law_473 : decode cL_law 473 = .ok (.iload 6, 2) := by decide +kernel
theorem dL_law_475 : decode cL_law 475 = .ok (.if_icmp .eq 5, 3) := by decide +kernel
theorem dL_law_478 : decode cL_law 478 = .ok (.iconst 0, 1) := by decide +kernel
theorem dL_law_479 : decode cL_law 479 = .ok (.ireturn, 1) := by decide +kernel
theorem dL_law_480 : decode cL_law 480 = .ok (.iload 6, 2) := by decide +kernel
theorem dL_law_482 : decode cL_law 482 = .ok (.ifCond .ne 15, 3) := by decide +kernel
theorem dL_law_485 : decode cL_law 485 = .ok (.aload_n 3, 1) := by decide +kernel
theorem dL_law_486 : decode cL_law 486 = .ok (.iconst 0, 1) := by decide +kernel
theorem dL_law_487 : decode cL_law 487 = .ok (.laload, 1) := by decide +kernel
theorem dL_law_488 : decode cL_law 488 = .ok (.iload 7, 2) := by decide +kernel
theorem dL_law_490 : decode cL_law 490 = .ok (.i2l, 1) := by decide +kernel
theorem dL_law_491 : decode cL_law 491 = .ok (.lcmp, 1) := by decide +kernel
theorem dL_law_492 : decode cL_law 492 = .ok (.ifCond .eq 5, 3) := by decide +kernel
theorem dL_law_495 : decode cL_law 495 = .ok (.iconst 0, 1) := by decide +kernel
theorem dL_law_496 : decode cL_law 496 = .ok (.ireturn, 1) := by decide +kernel
theorem dL_law_497 : decode cL_law 497 = .ok (.goto 1670, 3) := by decide +kernel
theorem dL_law_500 : decode cL_law 500 = .ok (.aload_n 1, 1) := by decide +kernel
theorem dL_law_501 : decode cL_law 501 = .ok (.aload_n 0, 1) := by decide +kernel
theorem dL_law_502 : decode cL_law 502 = .ok (.iload 5, 2) := by decide +kernel
theorem dL_law_504 : decode cL_law 504 = .ok (.iconst 1, 1) := by decide +kernel
theorem dL_law_505 : decode cL_law 505 = .ok (.iadd, 1) := by decide +kernel
theorem dL_law_506 : decode cL_law 506 = .ok (.iaload, 1) := by decide +kernel
theorem dL_law_507 : decode cL_law 507 = .ok (.aload_n 3, 1) := by decide +kernel
theorem dL_law_508 : decode cL_law 508 = .ok (.invokestatic 139, 3) := by decide +kernel
theorem dL_law_511 : decode cL_law 511 = .ok (.istore 6, 2) := by decide +kernel
theorem dL_law_513 : decode cL_law 513 = .ok (.aload_n 2, 1) := by decide +kernel
theorem dL_law_514 : decode cL_law 514 = .ok (.aload_n 0, 1) := by decide +kernel
theorem dL_law_515 : decode cL_law 515 = .ok (.iload 5, 2) := by decide +kernel
theorem dL_law_517 : decode cL_law 517 = .ok (.iconst 1, 1) := by decide +kernel
theorem dL_law_518 : decode cL_law 518 = .ok (.iadd, 1) := by decide +kernel
theorem dL_law_519 : decode cL_law 519 = .ok (.iaload, 1) := by decide +kernel
theorem dL_law_520 : decode cL_law 520 = .ok (.invokevirtual 141, 3) := by decide +kernel
theorem dL_law_523 : decode cL_law 523 = .ok (.istore 7, 2) := by decide +kernel
theorem dL_law_525 : decode cL_law 525 = .ok (.aload_n 2, 1) := by decide +kernel
theorem dL_law_526 : decode cL_law 526 = .ok (.invokevirtual 126, 3) := by decide +kernel
theorem dL_law_529 : decode cL_law 529 = .ok (.iload 6, 2) := by decide +kernel
theorem dL_law_531 : decode cL_law 531 = .ok (.if_icmp .eq 5, 3) := by decide +kernel
theorem dL_law_534 : decode cL_law 534 = .ok (.iconst 0, 1) := by decide +kernel
theorem dL_law_535 : decode cL_law 535 = .ok (.ireturn, 1) := by decide +kernel
theorem dL_law_536 : decode cL_law 536 = .ok (.iload 6, 2) := by decide +kernel
theorem dL_law_538 : decode cL_law 538 = .ok (.ifCond .ne 15, 3) := by decide +kernel
theorem dL_law_541 : decode cL_law 541 = .ok (.aload_n 3, 1) := by decide +kernel
theorem dL_law_542 : decode cL_law 542 = .ok (.iconst 0, 1) := by decide +kernel
theorem dL_law_543 : decode cL_law 543 = .ok (.laload, 1) := by decide +kernel
theorem dL_law_544 : decode cL_law 544 = .ok (.iload 7, 2) := by decide +kernel
theorem dL_law_546 : decode cL_law 546 = .ok (.i2l, 1) := by decide +kernel
theorem dL_law_547 : decode cL_law 547 = .ok (.lcmp, 1) := by decide +kernel
theorem dL_law_548 : decode cL_law 548 = .ok (.ifCond .eq 5, 3) := by decide +kernel
theorem dL_law_551 : decode cL_law 551 = .ok (.iconst 0, 1) := by decide +kernel
theorem dL_law_552 : decode cL_law 552 = .ok (.ireturn, 1) := by decide +kernel
theorem dL_law_553 : decode cL_law 553 = .ok (.goto 1614, 3) := by decide +kernel
theorem dL_law_556 : decode cL_law 556 = .ok (.aload_n 1, 1) := by decide +kernel
theorem dL_law_557 : decode cL_law 557 = .ok (.aload_n 0, 1) := by decide +kernel
theorem dL_law_558 : decode cL_law 558 = .ok (.iload 5, 2) := by decide +kernel
theorem dL_law_560 : decode cL_law 560 = .ok (.iconst 1, 1) := by decide +kernel
theorem dL_law_561 : decode cL_law 561 = .ok (.iadd, 1) := by decide +kernel
theorem dL_law_562 : decode cL_law 562 = .ok (.iaload, 1) := by decide +kernel
theorem dL_law_563 : decode cL_law 563 = .ok (.aload_n 3, 1) := by decide +kernel
theorem dL_law_564 : decode cL_law 564 = .ok (.invokestatic 142, 3) := by decide +kernel
theorem dL_law_567 : decode cL_law 567 = .ok (.istore 6, 2) := by decide +kernel
theorem dL_law_569 : decode cL_law 569 = .ok (.aload_n 2, 1) := by decide +kernel
theorem dL_law_570 : decode cL_law 570 = .ok (.aload_n 0, 1) := by decide +kernel
theorem dL_law_571 : decode cL_law 571 = .ok (.iload 5, 2) := by decide +kernel
theorem dL_law_573 : decode cL_law 573 = .ok (.iconst 1, 1) := by decide +kernel
theorem dL_law_574 : decode cL_law 574 = .ok (.iadd, 1) := by decide +kernel
theorem dL_law_575 : decode cL_law 575 = .ok (.iaload, 1) := by decide +kernel
theorem dL_law_576 : decode cL_law 576 = .ok (.invokevirtual 144, 3) := by decide +kernel
theorem dL_law_579 : decode cL_law 579 = .ok (.istore 7, 2) := by decide +kernel
theorem dL_law_581 : decode cL_law 581 = .ok (.aload_n 2, 1) := by decide +kernel
theorem dL_law_582 : decode cL_law 582 = .ok (.invokevirtual 126, 3) := by decide +kernel
theorem dL_law_585 : decode cL_law 585 = .ok (.iload 6, 2) := by decide +kernel
theorem dL_law_587 : decode cL_law 587 = .ok (.if_icmp .eq 5, 3) := by decide +kernel
theorem dL_law_590 : decode cL_law 590 = .ok (.iconst 0, 1) := by decide +kernel
theorem dL_law_591 : decode cL_law 591 = .ok (.ireturn, 1) := by decide +kernel
theorem dL_law_592 : decode cL_law 592 = .ok (.iload 6, 2) := by decide +kernel
theorem dL_law_594 : decode cL_law 594 = .ok (.ifCond .ne 15, 3) := by decide +kernel
theorem dL_law_597 : decode cL_law 597 = .ok (.aload_n 3, 1) := by decide +kernel
theorem dL_law_598 : decode cL_law 598 = .ok (.iconst 0, 1) := by decide +kernel
theorem dL_law_599 : decode cL_law 599 = .ok (.laload, 1) := by decide +kernel
theorem dL_law_600 : decode cL_law 600 = .ok (.iload 7, 2) := by decide +kernel
theorem dL_law_602 : decode cL_law 602 = .ok (.i2l, 1) := by decide +kernel
theorem dL_law_603 : decode cL_law 603 = .ok (.lcmp, 1) := by decide +kernel
theorem dL_law_604 : decode cL_law 604 = .ok (.ifCond .eq 5, 3) := by decide +kernel
theorem dL_law_607 : decode cL_law 607 = .ok (.iconst 0, 1) := by decide +kernel
theorem dL_law_608 : decode cL_law 608 = .ok (.ireturn, 1) := by decide +kernel
theorem dL_law_609 : decode cL_law 609 = .ok (.goto 1558, 3) := by decide +kernel
theorem dL_law_612 : decode cL_law 612 = .ok (.aload_n 1, 1) := by decide +kernel
theorem dL_law_613 : decode cL_law 613 = .ok (.aload_n 0, 1) := by decide +kernel
theorem dL_law_614 : decode cL_law 614 = .ok (.iload 5, 2) := by decide +kernel
theorem dL_law_616 : decode cL_law 616 = .ok (.iconst 1, 1) := by decide +kernel
theorem dL_law_617 : decode cL_law 617 = .ok (.iadd, 1) := by decide +kernel
theorem dL_law_618 : decode cL_law 618 = .ok (.iaload, 1) := by decide +kernel
theorem dL_law_619 : decode cL_law 619 = .ok (.aload_n 3, 1) := by decide +kernel
theorem dL_law_620 : decode cL_law 620 = .ok (.invokestatic 145, 3) := by decide +kernel
theorem dL_law_623 : decode cL_law 623 = .ok (.istore 6, 2) := by decide +kernel
theorem dL_law_625 : decode cL_law 625 = .ok (.aload_n 2, 1) := by decide +kernel
theorem dL_law_626 : decode cL_law 626 = .ok (.aload_n 0, 1) := by decide +kernel
theorem dL_law_627 : decode cL_law 627 = .ok (.iload 5, 2) := by decide +kernel
theorem dL_law_629 : decode cL_law 629 = .ok (.iconst 1, 1) := by decide +kernel
theorem dL_law_630 : decode cL_law 630 = .ok (.iadd, 1) := by decide +kernel
theorem dL_law_631 : decode cL_law 631 = .ok (.iaload, 1) := by decide +kernel
theorem dL_law_632 : decode cL_law 632 = .ok (.invokevirtual 147, 3) := by decide +kernel
theorem dL_law_635 : decode cL_law 635 = .ok (.istore 7, 2) := by decide +kernel
theorem dL_law_637 : decode cL_law 637 = .ok (.aload_n 2, 1) := by decide +kernel
theorem dL_law_638 : decode cL_law 638 = .ok (.invokevirtual 126, 3) := by decide +kernel
theorem dL_law_641 : decode cL_law 641 = .ok (.iload 6, 2) := by decide +kernel
theorem dL_law_643 : decode cL_law 643 = .ok (.if_icmp .eq 5, 3) := by decide +kernel
theorem dL_law_646 : decode cL_law 646 = .ok (.iconst 0, 1) := by decide +kernel
theorem dL_law_647 : decode cL_law 647 = .ok (.ireturn, 1) := by decide +kernel
theorem dL_law_648 : decode cL_law 648 = .ok (.iload 6, 2) := by decide +kernel
theorem dL_law_650 : decode cL_law 650 = .ok (.ifCond .ne 15, 3) := by decide +kernel
theorem dL_law_653 : decode cL_law 653 = .ok (.aload_n 3, 1) := by decide +kernel
theorem dL_law_654 : decode cL_law 654 = .ok (.iconst 0, 1) := by decide +kernel
theorem dL_law_655 : decode cL_law 655 = .ok (.laload, 1) := by decide +kernel
theorem dL_law_656 : decode cL_law 656 = .ok (.iload 7, 2) := by decide +kernel
theorem dL_law_658 : decode cL_law 658 = .ok (.i2l, 1) := by decide +kernel
theorem dL_law_659 : decode cL_law 659 = .ok (.lcmp, 1) := by decide +kernel
theorem dL_law_660 : decode cL_law 660 = .ok (.ifCond .eq 5, 3) := by decide +kernel
theorem dL_law_663 : decode cL_law 663 = .ok (.iconst 0, 1) := by decide +kernel
theorem dL_law_664 : decode cL_law 664 = .ok (.ireturn, 1) := by decide +kernel
theorem dL_law_665 : decode cL_law 665 = .ok (.goto 1502, 3) := by decide +kernel
theorem dL_law_668 : decode cL_law 668 = .ok (.aload_n 1, 1) := by decide +kernel
theorem dL_law_669 : decode cL_law 669 = .ok (.invokevirtual 148, 3) := by decide +kernel
theorem dL_law_672 : decode cL_law 672 = .ok (.aload_n 2, 1) := by decide +kernel
theorem dL_law_673 : decode cL_law 673 = .ok (.invokevirtual 151, 3) := by decide +kernel
theorem dL_law_676 : decode cL_law 676 = .ok (.if_icmp .eq 1491, 3) := by decide +kernel
theorem dL_law_679 : decode cL_law 679 = .ok (.iconst 0, 1) := by decide +kernel
theorem dL_law_680 : decode cL_law 680 = .ok (.ireturn, 1) := by decide +kernel
theorem dL_law_681 : decode cL_law 681 = .ok (.aload_n 1, 1) := by decide +kernel
theorem dL_law_682 : decode cL_law 682 = .ok (.aload_n 0, 1) := by decide +kernel
theorem dL_law_683 : decode cL_law 683 = .ok (.iload 5, 2) := by decide +kernel
theorem dL_law_685 : decode cL_law 685 = .ok (.iconst 1, 1) := by decide +kernel
theorem dL_law_686 : decode cL_law 686 = .ok (.iadd, 1) := by decide +kernel
theorem dL_law_687 : decode cL_law 687 = .ok (.iaload, 1) := by decide +kernel
theorem dL_law_688 : decode cL_law 688 = .ok (.aload_n 3, 1) := by decide +kernel
theorem dL_law_689 : decode cL_law 689 = .ok (.invokestatic 152, 3) := by decide +kernel
theorem dL_law_692 : decode cL_law 692 = .ok (.istore 6, 2) := by decide +kernel
theorem dL_law_694 : decode cL_law 694 = .ok (.aload_n 2, 1) := by decide +kernel
theorem dL_law_695 : decode cL_law 695 = .ok (.aload_n 0, 1) := by decide +kernel
theorem dL_law_696 : decode cL_law 696 = .ok (.iload 5, 2) := by decide +kernel
theorem dL_law_698 : decode cL_law 698 = .ok (.iconst 1, 1) := by decide +kernel
theorem dL_law_699 : decode cL_law 699 = .ok (.iadd, 1) := by decide +kernel
theorem dL_law_700 : decode cL_law 700 = .ok (.iaload, 1) := by decide +kernel
theorem dL_law_701 : decode cL_law 701 = .ok (.invokevirtual 154, 3) := by decide +kernel
theorem dL_law_704 : decode cL_law 704 = .ok (.istore 7, 2) := by decide +kernel
theorem dL_law_706 : decode cL_law 706 = .ok (.aload_n 2, 1) := by decide +kernel
theorem dL_law_707 : decode cL_law 707 = .ok (.invokevirtual 126, 3) := by decide +kernel
theorem dL_law_710 : decode cL_law 710 = .ok (.iload 6, 2) := by decide +kernel
theorem dL_law_712 : decode cL_law 712 = .ok (.if_icmp .eq 5, 3) := by decide +kernel
theorem dL_law_715 : decode cL_law 715 = .ok (.iconst 0, 1) := by decide +kernel
theorem dL_law_716 : decode cL_law 716 = .ok (.ireturn, 1) := by decide +kernel
theorem dL_law_717 : decode cL_law 717 = .ok (.iload 6, 2) := by decide +kernel
theorem dL_law_719 : decode cL_law 719 = .ok (.ifCond .ne 15, 3) := by decide +kernel
theorem dL_law_722 : decode cL_law 722 = .ok (.aload_n 3, 1) := by decide +kernel
theorem dL_law_723 : decode cL_law 723 = .ok (.iconst 0, 1) := by decide +kernel
theorem dL_law_724 : decode cL_law 724 = .ok (.laload, 1) := by decide +kernel
theorem dL_law_725 : decode cL_law 725 = .ok (.iload 7, 2) := by decide +kernel
theorem dL_law_727 : decode cL_law 727 = .ok (.i2l, 1) := by decide +kernel
theorem dL_law_728 : decode cL_law 728 = .ok (.lcmp, 1) := by decide +kernel
theorem dL_law_729 : decode cL_law 729 = .ok (.ifCond .eq 5, 3) := by decide +kernel
theorem dL_law_732 : decode cL_law 732 = .ok (.iconst 0, 1) := by decide +kernel
theorem dL_law_733 : decode cL_law 733 = .ok (.ireturn, 1) := by decide +kernel
theorem dL_law_734 : decode cL_law 734 = .ok (.goto 1433, 3) := by decide +kernel
theorem dL_law_737 : decode cL_law 737 = .ok (.aload_n 1, 1) := by decide +kernel
theorem dL_law_738 : decode cL_law 738 = .ok (.aload_n 0, 1) := by decide +kernel
theorem dL_law_739 : decode cL_law 739 = .ok (.iload 5, 2) := by decide +kernel
theorem dL_law_741 : decode cL_law 741 = .ok (.iconst 1, 1) := by decide +kernel
theorem dL_law_742 : decode cL_law 742 = .ok (.iadd, 1) := by decide +kernel
theorem dL_law_743 : decode cL_law 743 = .ok (.iaload, 1) := by decide +kernel
theorem dL_law_744 : decode cL_law 744 = .ok (.aload_n 3, 1) := by decide +kernel
theorem dL_law_745 : decode cL_law 745 = .ok (.invokestatic 155, 3) := by decide +kernel
theorem dL_law_748 : decode cL_law 748 = .ok (.istore 6, 2) := by decide +kernel
theorem dL_law_750 : decode cL_law 750 = .ok (.aload_n 2, 1) := by decide +kernel
theorem dL_law_751 : decode cL_law 751 = .ok (.aload_n 0, 1) := by decide +kernel
theorem dL_law_752 : decode cL_law 752 = .ok (.iload 5, 2) := by decide +kernel
theorem dL_law_754 : decode cL_law 754 = .ok (.iconst 1, 1) := by decide +kernel
theorem dL_law_755 : decode cL_law 755 = .ok (.iadd, 1) := by decide +kernel
theorem dL_law_756 : decode cL_law 756 = .ok (.iaload, 1) := by decide +kernel
theorem dL_law_757 : decode cL_law 757 = .ok (.invokevirtual 157, 3) := by decide +kernel
theorem dL_law_760 : decode cL_law 760 = .ok (.istore 7, 2) := by decide +kernel
theorem dL_law_762 : decode cL_law 762 = .ok (.aload_n 2, 1) := by decide +kernel
theorem dL_law_763 : decode cL_law 763 = .ok (.invokevirtual 126, 3) := by decide +kernel
theorem dL_law_766 : decode cL_law 766 = .ok (.iload 6, 2) := by decide +kernel
theorem dL_law_768 : decode cL_law 768 = .ok (.if_icmp .eq 5, 3) := by decide +kernel
theorem dL_law_771 : decode cL_law 771 = .ok (.iconst 0, 1) := by decide +kernel
theorem dL_law_772 : decode cL_law 772 = .ok (.ireturn, 1) := by decide +kernel
theorem dL_law_773 : decode cL_law 773 = .ok (.iload 6, 2) := by decide +kernel
theorem dL_law_775 : decode cL_law 775 = .ok (.ifCond .ne 15, 3) := by decide +kernel
theorem dL_law_778 : decode cL_law 778 = .ok (.aload_n 3, 1) := by decide +kernel
theorem dL_law_779 : decode cL_law 779 = .ok (.iconst 0, 1) := by decide +kernel
theorem dL_law_780 : decode cL_law 780 = .ok (.laload, 1) := by decide +kernel
theorem dL_law_781 : decode cL_law 781 = .ok (.iload 7, 2) := by decide +kernel
theorem dL_law_783 : decode cL_law 783 = .ok (.i2l, 1) := by decide +kernel
theorem dL_law_784 : decode cL_law 784 = .ok (.lcmp, 1) := by decide +kernel
theorem dL_law_785 : decode cL_law 785 = .ok (.ifCond .eq 5, 3) := by decide +kernel
theorem dL_law_788 : decode cL_law 788 = .ok (.iconst 0, 1) := by decide +kernel
theorem dL_law_789 : decode cL_law 789 = .ok (.ireturn, 1) := by decide +kernel
theorem dL_law_790 : decode cL_law 790 = .ok (.goto 1377, 3) := by decide +kernel
theorem dL_law_793 : decode cL_law 793 = .ok (.aload_n 1, 1) := by decide +kernel
theorem dL_law_794 : decode cL_law 794 = .ok (.aload_n 0, 1) := by decide +kernel
theorem dL_law_795 : decode cL_law 795 = .ok (.iload 5, 2) := by decide +kernel
theorem dL_law_797 : decode cL_law 797 = .ok (.iconst 1, 1) := by decide +kernel
theorem dL_law_798 : decode cL_law 798 = .ok (.iadd, 1) := by decide +kernel
theorem dL_law_799 : decode cL_law 799 = .ok (.iaload, 1) := by decide +kernel
theorem dL_law_800 : decode cL_law 800 = .ok (.aload_n 3, 1) := by decide +kernel
theorem dL_law_801 : decode cL_law 801 = .ok (.invokestatic 158, 3) := by decide +kernel
theorem dL_law_804 : decode cL_law 804 = .ok (.istore 6, 2) := by decide +kernel
theorem dL_law_806 : decode cL_law 806 = .ok (.aload_n 2, 1) := by decide +kernel
theorem dL_law_807 : decode cL_law 807 = .ok (.aload_n 0, 1) := by decide +kernel
theorem dL_law_808 : decode cL_law 808 = .ok (.iload 5, 2) := by decide +kernel
theorem dL_law_810 : decode cL_law 810 = .ok (.iconst 1, 1) := by decide +kernel
theorem dL_law_811 : decode cL_law 811 = .ok (.iadd, 1) := by decide +kernel
theorem dL_law_812 : decode cL_law 812 = .ok (.iaload, 1) := by decide +kernel
theorem dL_law_813 : decode cL_law 813 = .ok (.invokevirtual 160, 3) := by decide +kernel
theorem dL_law_816 : decode cL_law 816 = .ok (.istore 7, 2) := by decide +kernel
theorem dL_law_818 : decode cL_law 818 = .ok (.aload_n 2, 1) := by decide +kernel
theorem dL_law_819 : decode cL_law 819 = .ok (.invokevirtual 126, 3) := by decide +kernel
theorem dL_law_822 : decode cL_law 822 = .ok (.iload 6, 2) := by decide +kernel
theorem dL_law_824 : decode cL_law 824 = .ok (.if_icmp .eq 5, 3) := by decide +kernel
theorem dL_law_827 : decode cL_law 827 = .ok (.iconst 0, 1) := by decide +kernel
theorem dL_law_828 : decode cL_law 828 = .ok (.ireturn, 1) := by decide +kernel
theorem dL_law_829 : decode cL_law 829 = .ok (.iload 6, 2) := by decide +kernel
theorem dL_law_831 : decode cL_law 831 = .ok (.ifCond .ne 15, 3) := by decide +kernel
theorem dL_law_834 : decode cL_law 834 = .ok (.aload_n 3, 1) := by decide +kernel
theorem dL_law_835 : decode cL_law 835 = .ok (.iconst 0, 1) := by decide +kernel
theorem dL_law_836 : decode cL_law 836 = .ok (.laload, 1) := by decide +kernel
theorem dL_law_837 : decode cL_law 837 = .ok (.iload 7, 2) := by decide +kernel
theorem dL_law_839 : decode cL_law 839 = .ok (.i2l, 1) := by decide +kernel
theorem dL_law_840 : decode cL_law 840 = .ok (.lcmp, 1) := by decide +kernel
theorem dL_law_841 : decode cL_law 841 = .ok (.ifCond .eq 5, 3) := by decide +kernel
theorem dL_law_844 : decode cL_law 844 = .ok (.iconst 0, 1) := by decide +kernel
theorem dL_law_845 : decode cL_law 845 = .ok (.ireturn, 1) := by decide +kernel
theorem dL_law_846 : decode cL_law 846 = .ok (.goto 1321, 3) := by decide +kernel
theorem dL_law_849 : decode cL_law 849 = .ok (.aload_n 1, 1) := by decide +kernel
theorem dL_law_850 : decode cL_law 850 = .ok (.aload_n 0, 1) := by decide +kernel
theorem dL_law_851 : decode cL_law 851 = .ok (.iload 5, 2) := by decide +kernel
theorem dL_law_853 : decode cL_law 853 = .ok (.iconst 1, 1) := by decide +kernel
theorem dL_law_854 : decode cL_law 854 = .ok (.iadd, 1) := by decide +kernel
theorem dL_law_855 : decode cL_law 855 = .ok (.iaload, 1) := by decide +kernel
theorem dL_law_856 : decode cL_law 856 = .ok (.aload_n 3, 1) := by decide +kernel
theorem dL_law_857 : decode cL_law 857 = .ok (.invokestatic 161, 3) := by decide +kernel
theorem dL_law_860 : decode cL_law 860 = .ok (.istore 6, 2) := by decide +kernel
theorem dL_law_862 : decode cL_law 862 = .ok (.aload_n 2, 1) := by decide +kernel
theorem dL_law_863 : decode cL_law 863 = .ok (.aload_n 0, 1) := by decide +kernel
theorem dL_law_864 : decode cL_law 864 = .ok (.iload 5, 2) := by decide +kernel
theorem dL_law_866 : decode cL_law 866 = .ok (.iconst 1, 1) := by decide +kernel
theorem dL_law_867 : decode cL_law 867 = .ok (.iadd, 1) := by decide +kernel
theorem dL_law_868 : decode cL_law 868 = .ok (.iaload, 1) := by decide +kernel
theorem dL_law_869 : decode cL_law 869 = .ok (.invokevirtual 163, 3) := by decide +kernel
theorem dL_law_872 : decode cL_law 872 = .ok (.istore 7, 2) := by decide +kernel
theorem dL_law_874 : decode cL_law 874 = .ok (.aload_n 2, 1) := by decide +kernel
theorem dL_law_875 : decode cL_law 875 = .ok (.invokevirtual 126, 3) := by decide +kernel
theorem dL_law_878 : decode cL_law 878 = .ok (.iload 6, 2) := by decide +kernel
theorem dL_law_880 : decode cL_law 880 = .ok (.if_icmp .eq 5, 3) := by decide +kernel
theorem dL_law_883 : decode cL_law 883 = .ok (.iconst 0, 1) := by decide +kernel
theorem dL_law_884 : decode cL_law 884 = .ok (.ireturn, 1) := by decide +kernel
theorem dL_law_885 : decode cL_law 885 = .ok (.iload 6, 2) := by decide +kernel
theorem dL_law_887 : decode cL_law 887 = .ok (.ifCond .ne 15, 3) := by decide +kernel
theorem dL_law_890 : decode cL_law 890 = .ok (.aload_n 3, 1) := by decide +kernel
theorem dL_law_891 : decode cL_law 891 = .ok (.iconst 0, 1) := by decide +kernel
theorem dL_law_892 : decode cL_law 892 = .ok (.laload, 1) := by decide +kernel
theorem dL_law_893 : decode cL_law 893 = .ok (.iload 7, 2) := by decide +kernel
theorem dL_law_895 : decode cL_law 895 = .ok (.i2l, 1) := by decide +kernel
theorem dL_law_896 : decode cL_law 896 = .ok (.lcmp, 1) := by decide +kernel
theorem dL_law_897 : decode cL_law 897 = .ok (.ifCond .eq 5, 3) := by decide +kernel
theorem dL_law_900 : decode cL_law 900 = .ok (.iconst 0, 1) := by decide +kernel
theorem dL_law_901 : decode cL_law 901 = .ok (.ireturn, 1) := by decide +kernel
theorem dL_law_902 : decode cL_law 902 = .ok (.goto 1265, 3) := by decide +kernel
theorem dL_law_905 : decode cL_law 905 = .ok (.aload_n 1, 1) := by decide +kernel
theorem dL_law_906 : decode cL_law 906 = .ok (.aload_n 0, 1) := by decide +kernel
theorem dL_law_907 : decode cL_law 907 = .ok (.iload 5, 2) := by decide +kernel
theorem dL_law_909 : decode cL_law 909 = .ok (.iconst 1, 1) := by decide +kernel
theorem dL_law_910 : decode cL_law 910 = .ok (.iadd, 1) := by decide +kernel
theorem dL_law_911 : decode cL_law 911 = .ok (.iaload, 1) := by decide +kernel
theorem dL_law_912 : decode cL_law 912 = .ok (.aload_n 3, 1) := by decide +kernel
theorem dL_law_913 : decode cL_law 913 = .ok (.invokestatic 164, 3) := by decide +kernel
theorem dL_law_916 : decode cL_law 916 = .ok (.istore 6, 2) := by decide +kernel
theorem dL_law_918 : decode cL_law 918 = .ok (.aload_n 2, 1) := by decide +kernel
theorem dL_law_919 : decode cL_law 919 = .ok (.aload_n 0, 1) := by decide +kernel
theorem dL_law_920 : decode cL_law 920 = .ok (.iload 5, 2) := by decide +kernel
theorem dL_law_922 : decode cL_law 922 = .ok (.iconst 1, 1) := by decide +kernel
theorem dL_law_923 : decode cL_law 923 = .ok (.iadd, 1) := by decide +kernel
theorem dL_law_924 : decode cL_law 924 = .ok (.iaload, 1) := by decide +kernel
theorem dL_law_925 : decode cL_law 925 = .ok (.invokevirtual 166, 3) := by decide +kernel
theorem dL_law_928 : decode cL_law 928 = .ok (.istore 7, 2) := by decide +kernel
theorem dL_law_930 : decode cL_law 930 = .ok (.aload_n 2, 1) := by decide +kernel
theorem dL_law_931 : decode cL_law 931 = .ok (.invokevirtual 126, 3) := by decide +kernel
theorem dL_law_934 : decode cL_law 934 = .ok (.iload 6, 2) := by decide +kernel
theorem dL_law_936 : decode cL_law 936 = .ok (.if_icmp .eq 5, 3) := by decide +kernel
theorem dL_law_939 : decode cL_law 939 = .ok (.iconst 0, 1) := by decide +kernel
theorem dL_law_940 : decode cL_law 940 = .ok (.ireturn, 1) := by decide +kernel
theorem dL_law_941 : decode cL_law 941 = .ok (.iload 6, 2) := by decide +kernel
theorem dL_law_943 : decode cL_law 943 = .ok (.ifCond .ne 15, 3) := by decide +kernel
theorem dL_law_946 : decode cL_law 946 = .ok (.aload_n 3, 1) := by decide +kernel
theorem dL_law_947 : decode cL_law 947 = .ok (.iconst 0, 1) := by decide +kernel
theorem dL_law_948 : decode cL_law 948 = .ok (.laload, 1) := by decide +kernel
theorem dL_law_949 : decode cL_law 949 = .ok (.iload 7, 2) := by decide +kernel
theorem dL_law_951 : decode cL_law 951 = .ok (.i2l, 1) := by decide +kernel
theorem dL_law_952 : decode cL_law 952 = .ok (.lcmp, 1) := by decide +kernel
theorem dL_law_953 : decode cL_law 953 = .ok (.ifCond .eq 5, 3) := by decide +kernel
theorem dL_law_956 : decode cL_law 956 = .ok (.iconst 0, 1) := by decide +kernel
theorem dL_law_957 : decode cL_law 957 = .ok (.ireturn, 1) := by decide +kernel
theorem dL_law_958 : decode cL_law 958 = .ok (.goto 1209, 3) := by decide +kernel
theorem dL_law_961 : decode cL_law 961 = .ok (.aload_n 1, 1) := by decide +kernel
theorem dL_law_962 : decode cL_law 962 = .ok (.invokevirtual 167, 3) := by decide +kernel
theorem dL_law_965 : decode cL_law 965 = .ok (.aload_n 2, 1) := by decide +kernel
theorem dL_law_966 : decode cL_law 966 = .ok (.invokevirtual 170, 3) := by decide +kernel
theorem dL_law_969 : decode cL_law 969 = .ok (.if_icmp .eq 1198, 3) := by decide +kernel
theorem dL_law_972 : decode cL_law 972 = .ok (.iconst 0, 1) := by decide +kernel
theorem dL_law_973 : decode cL_law 973 = .ok (.ireturn, 1) := by decide +kernel
theorem dL_law_974 : decode cL_law 974 = .ok (.aload_n 1, 1) := by decide +kernel
theorem dL_law_975 : decode cL_law 975 = .ok (.invokevirtual 171, 3) := by decide +kernel
theorem dL_law_978 : decode cL_law 978 = .ok (.aload_n 2, 1) := by decide +kernel
theorem dL_law_979 : decode cL_law 979 = .ok (.invokevirtual 174, 3) := by decide +kernel
theorem dL_law_982 : decode cL_law 982 = .ok (.if_icmp .eq 1185, 3) := by decide +kernel
theorem dL_law_985 : decode cL_law 985 = .ok (.iconst 0, 1) := by decide +kernel
theorem dL_law_986 : decode cL_law 986 = .ok (.ireturn, 1) := by decide +kernel
theorem dL_law_987 : decode cL_law 987 = .ok (.aload_n 1, 1) := by decide +kernel
theorem dL_law_988 : decode cL_law 988 = .ok (.invokevirtual 175, 3) := by decide +kernel
theorem dL_law_991 : decode cL_law 991 = .ok (.aload_n 2, 1) := by decide +kernel
theorem dL_law_992 : decode cL_law 992 = .ok (.invokevirtual 178, 3) := by decide +kernel
theorem dL_law_995 : decode cL_law 995 = .ok (.if_icmp .eq 1172, 3) := by decide +kernel
theorem dL_law_998 : decode cL_law 998 = .ok (.iconst 0, 1) := by decide +kernel
theorem dL_law_999 : decode cL_law 999 = .ok (.ireturn, 1) := by decide +kernel
theorem dL_law_1000 : decode cL_law 1000 = .ok (.aload_n 1, 1) := by decide +kernel
theorem dL_law_1001 : decode cL_law 1001 = .ok (.invokevirtual 179, 3) := by decide +kernel
theorem dL_law_1004 : decode cL_law 1004 = .ok (.aload_n 2, 1) := by decide +kernel
theorem dL_law_1005 : decode cL_law 1005 = .ok (.invokevirtual 182, 3) := by decide +kernel
theorem dL_law_1008 : decode cL_law 1008 = .ok (.if_icmp .eq 1159, 3) := by decide +kernel
theorem dL_law_1011 : decode cL_law 1011 = .ok (.iconst 0, 1) := by decide +kernel
theorem dL_law_1012 : decode cL_law 1012 = .ok (.ireturn, 1) := by decide +kernel
theorem dL_law_1013 : decode cL_law 1013 = .ok (.aload_n 1, 1) := by decide +kernel
theorem dL_law_1014 : decode cL_law 1014 = .ok (.invokevirtual 183, 3) := by decide +kernel
theorem dL_law_1017 : decode cL_law 1017 = .ok (.aload_n 2, 1) := by decide +kernel
theorem dL_law_1018 : decode cL_law 1018 = .ok (.invokevirtual 186, 3) := by decide +kernel
theorem dL_law_1021 : decode cL_law 1021 = .ok (.if_icmp .eq 1146, 3) := by decide +kernel
theorem dL_law_1024 : decode cL_law 1024 = .ok (.iconst 0, 1) := by decide +kernel
theorem dL_law_1025 : decode cL_law 1025 = .ok (.ireturn, 1) := by decide +kernel
theorem dL_law_1026 : decode cL_law 1026 = .ok (.aload_n 1, 1) := by decide +kernel
theorem dL_law_1027 : decode cL_law 1027 = .ok (.invokevirtual 187, 3) := by decide +kernel
theorem dL_law_1030 : decode cL_law 1030 = .ok (.aload_n 2, 1) := by decide +kernel
theorem dL_law_1031 : decode cL_law 1031 = .ok (.invokevirtual 190, 3) := by decide +kernel
theorem dL_law_1034 : decode cL_law 1034 = .ok (.if_icmp .eq 1133, 3) := by decide +kernel
theorem dL_law_1037 : decode cL_law 1037 = .ok (.iconst 0, 1) := by decide +kernel
theorem dL_law_1038 : decode cL_law 1038 = .ok (.ireturn, 1) := by decide +kernel
theorem dL_law_1039 : decode cL_law 1039 = .ok (.aload_n 1, 1) := by decide +kernel
theorem dL_law_1040 : decode cL_law 1040 = .ok (.aload_n 0, 1) := by decide +kernel
theorem dL_law_1041 : decode cL_law 1041 = .ok (.iload 5, 2) := by decide +kernel
theorem dL_law_1043 : decode cL_law 1043 = .ok (.iconst 1, 1) := by decide +kernel
theorem dL_law_1044 : decode cL_law 1044 = .ok (.iadd, 1) := by decide +kernel
theorem dL_law_1045 : decode cL_law 1045 = .ok (.iaload, 1) := by decide +kernel
theorem dL_law_1046 : decode cL_law 1046 = .ok (.aload_n 3, 1) := by decide +kernel
theorem dL_law_1047 : decode cL_law 1047 = .ok (.invokestatic 191, 3) := by decide +kernel
theorem dL_law_1050 : decode cL_law 1050 = .ok (.istore 6, 2) := by decide +kernel
theorem dL_law_1052 : decode cL_law 1052 = .ok (.aload_n 2, 1) := by decide +kernel
theorem dL_law_1053 : decode cL_law 1053 = .ok (.aload_n 0, 1) := by decide +kernel
theorem dL_law_1054 : decode cL_law 1054 = .ok (.iload 5, 2) := by decide +kernel
theorem dL_law_1056 : decode cL_law 1056 = .ok (.iconst 1, 1) := by decide +kernel
theorem dL_law_1057 : decode cL_law 1057 = .ok (.iadd, 1) := by decide +kernel
theorem dL_law_1058 : decode cL_law 1058 = .ok (.iaload, 1) := by decide +kernel
theorem dL_law_1059 : decode cL_law 1059 = .ok (.invokevirtual 193, 3) := by decide +kernel
theorem dL_law_1062 : decode cL_law 1062 = .ok (.istore 7, 2) := by decide +kernel
theorem dL_law_1064 : decode cL_law 1064 = .ok (.aload_n 2, 1) := by decide +kernel
theorem dL_law_1065 : decode cL_law 1065 = .ok (.invokevirtual 126, 3) := by decide +kernel
theorem dL_law_1068 : decode cL_law 1068 = .ok (.iload 6, 2) := by decide +kernel
theorem dL_law_1070 : decode cL_law 1070 = .ok (.if_icmp .eq 5, 3) := by decide +kernel
theorem dL_law_1073 : decode cL_law 1073 = .ok (.iconst 0, 1) := by decide +kernel
theorem dL_law_1074 : decode cL_law 1074 = .ok (.ireturn, 1) := by decide +kernel
theorem dL_law_1075 : decode cL_law 1075 = .ok (.iload 6, 2) := by decide +kernel
theorem dL_law_1077 : decode cL_law 1077 = .ok (.ifCond .ne 15, 3) := by decide +kernel
theorem dL_law_1080 : decode cL_law 1080 = .ok (.aload_n 3, 1) := by decide +kernel
theorem dL_law_1081 : decode cL_law 1081 = .ok (.iconst 0, 1) := by decide +kernel
theorem dL_law_1082 : decode cL_law 1082 = .ok (.laload, 1) := by decide +kernel
theorem dL_law_1083 : decode cL_law 1083 = .ok (.iload 7, 2) := by decide +kernel
theorem dL_law_1085 : decode cL_law 1085 = .ok (.i2l, 1) := by decide +kernel
theorem dL_law_1086 : decode cL_law 1086 = .ok (.lcmp, 1) := by decide +kernel
theorem dL_law_1087 : decode cL_law 1087 = .ok (.ifCond .eq 5, 3) := by decide +kernel
theorem dL_law_1090 : decode cL_law 1090 = .ok (.iconst 0, 1) := by decide +kernel
theorem dL_law_1091 : decode cL_law 1091 = .ok (.ireturn, 1) := by decide +kernel
theorem dL_law_1092 : decode cL_law 1092 = .ok (.goto 1075, 3) := by decide +kernel
theorem dL_law_1095 : decode cL_law 1095 = .ok (.aload_n 1, 1) := by decide +kernel
theorem dL_law_1096 : decode cL_law 1096 = .ok (.aload_n 0, 1) := by decide +kernel
theorem dL_law_1097 : decode cL_law 1097 = .ok (.iload 5, 2) := by decide +kernel
theorem dL_law_1099 : decode cL_law 1099 = .ok (.iconst 1, 1) := by decide +kernel
theorem dL_law_1100 : decode cL_law 1100 = .ok (.iadd, 1) := by decide +kernel
theorem dL_law_1101 : decode cL_law 1101 = .ok (.iaload, 1) := by decide +kernel
theorem dL_law_1102 : decode cL_law 1102 = .ok (.invokevirtual 194, 3) := by decide +kernel
theorem dL_law_1105 : decode cL_law 1105 = .ok (.aload_n 2, 1) := by decide +kernel
theorem dL_law_1106 : decode cL_law 1106 = .ok (.aload_n 0, 1) := by decide +kernel
theorem dL_law_1107 : decode cL_law 1107 = .ok (.iload 5, 2) := by decide +kernel
theorem dL_law_1109 : decode cL_law 1109 = .ok (.iconst 1, 1) := by decide +kernel
theorem dL_law_1110 : decode cL_law 1110 = .ok (.iadd, 1) := by decide +kernel
theorem dL_law_1111 : decode cL_law 1111 = .ok (.iaload, 1) := by decide +kernel
theorem dL_law_1112 : decode cL_law 1112 = .ok (.invokevirtual 197, 3) := by decide +kernel
theorem dL_law_1115 : decode cL_law 1115 = .ok (.if_icmp .eq 1052, 3) := by decide +kernel
theorem dL_law_1118 : decode cL_law 1118 = .ok (.iconst 0, 1) := by decide +kernel
theorem dL_law_1119 : decode cL_law 1119 = .ok (.ireturn, 1) := by decide +kernel
theorem dL_law_1120 : decode cL_law 1120 = .ok (.aload_n 1, 1) := by decide +kernel
theorem dL_law_1121 : decode cL_law 1121 = .ok (.aload_n 0, 1) := by decide +kernel
theorem dL_law_1122 : decode cL_law 1122 = .ok (.iload 5, 2) := by decide +kernel
theorem dL_law_1124 : decode cL_law 1124 = .ok (.iconst 1, 1) := by decide +kernel
theorem dL_law_1125 : decode cL_law 1125 = .ok (.iadd, 1) := by decide +kernel
theorem dL_law_1126 : decode cL_law 1126 = .ok (.iaload, 1) := by decide +kernel
theorem dL_law_1127 : decode cL_law 1127 = .ok (.i2c, 1) := by decide +kernel
theorem dL_law_1128 : decode cL_law 1128 = .ok (.aload_n 3, 1) := by decide +kernel
theorem dL_law_1129 : decode cL_law 1129 = .ok (.invokestatic 198, 3) := by decide +kernel
theorem dL_law_1132 : decode cL_law 1132 = .ok (.istore 6, 2) := by decide +kernel
theorem dL_law_1134 : decode cL_law 1134 = .ok (.aload_n 2, 1) := by decide +kernel
theorem dL_law_1135 : decode cL_law 1135 = .ok (.aload_n 0, 1) := by decide +kernel
theorem dL_law_1136 : decode cL_law 1136 = .ok (.iload 5, 2) := by decide +kernel
theorem dL_law_1138 : decode cL_law 1138 = .ok (.iconst 1, 1) := by decide +kernel
theorem dL_law_1139 : decode cL_law 1139 = .ok (.iadd, 1) := by decide +kernel
theorem dL_law_1140 : decode cL_law 1140 = .ok (.iaload, 1) := by decide +kernel
theorem dL_law_1141 : decode cL_law 1141 = .ok (.i2c, 1) := by decide +kernel
theorem dL_law_1142 : decode cL_law 1142 = .ok (.invokevirtual 201, 3) := by decide +kernel
theorem dL_law_1145 : decode cL_law 1145 = .ok (.istore 7, 2) := by decide +kernel
theorem dL_law_1147 : decode cL_law 1147 = .ok (.aload_n 2, 1) := by decide +kernel
theorem dL_law_1148 : decode cL_law 1148 = .ok (.invokevirtual 126, 3) := by decide +kernel
theorem dL_law_1151 : decode cL_law 1151 = .ok (.iload 6, 2) := by decide +kernel
theorem dL_law_1153 : decode cL_law 1153 = .ok (.if_icmp .eq 5, 3) := by decide +kernel
theorem dL_law_1156 : decode cL_law 1156 = .ok (.iconst 0, 1) := by decide +kernel
theorem dL_law_1157 : decode cL_law 1157 = .ok (.ireturn, 1) := by decide +kernel
theorem dL_law_1158 : decode cL_law 1158 = .ok (.iload 6, 2) := by decide +kernel
theorem dL_law_1160 : decode cL_law 1160 = .ok (.ifCond .ne 15, 3) := by decide +kernel
theorem dL_law_1163 : decode cL_law 1163 = .ok (.aload_n 3, 1) := by decide +kernel
theorem dL_law_1164 : decode cL_law 1164 = .ok (.iconst 0, 1) := by decide +kernel
theorem dL_law_1165 : decode cL_law 1165 = .ok (.laload, 1) := by decide +kernel
theorem dL_law_1166 : decode cL_law 1166 = .ok (.iload 7, 2) := by decide +kernel
theorem dL_law_1168 : decode cL_law 1168 = .ok (.i2l, 1) := by decide +kernel
theorem dL_law_1169 : decode cL_law 1169 = .ok (.lcmp, 1) := by decide +kernel
theorem dL_law_1170 : decode cL_law 1170 = .ok (.ifCond .eq 5, 3) := by decide +kernel
theorem dL_law_1173 : decode cL_law 1173 = .ok (.iconst 0, 1) := by decide +kernel
theorem dL_law_1174 : decode cL_law 1174 = .ok (.ireturn, 1) := by decide +kernel
theorem dL_law_1175 : decode cL_law 1175 = .ok (.goto 992, 3) := by decide +kernel
theorem dL_law_1178 : decode cL_law 1178 = .ok (.aload_n 1, 1) := by decide +kernel
theorem dL_law_1179 : decode cL_law 1179 = .ok (.invokevirtual 202, 3) := by decide +kernel
theorem dL_law_1182 : decode cL_law 1182 = .ok (.aload_n 2, 1) := by decide +kernel
theorem dL_law_1183 : decode cL_law 1183 = .ok (.invokevirtual 205, 3) := by decide +kernel
theorem dL_law_1186 : decode cL_law 1186 = .ok (.if_icmp .eq 981, 3) := by decide +kernel
theorem dL_law_1189 : decode cL_law 1189 = .ok (.iconst 0, 1) := by decide +kernel
theorem dL_law_1190 : decode cL_law 1190 = .ok (.ireturn, 1) := by decide +kernel
theorem dL_law_1191 : decode cL_law 1191 = .ok (.aload_n 1, 1) := by decide +kernel
theorem dL_law_1192 : decode cL_law 1192 = .ok (.aload_n 0, 1) := by decide +kernel
theorem dL_law_1193 : decode cL_law 1193 = .ok (.iload 5, 2) := by decide +kernel
theorem dL_law_1195 : decode cL_law 1195 = .ok (.iconst 1, 1) := by decide +kernel
theorem dL_law_1196 : decode cL_law 1196 = .ok (.iadd, 1) := by decide +kernel
theorem dL_law_1197 : decode cL_law 1197 = .ok (.iaload, 1) := by decide +kernel
theorem dL_law_1198 : decode cL_law 1198 = .ok (.aload_n 3, 1) := by decide +kernel
theorem dL_law_1199 : decode cL_law 1199 = .ok (.invokestatic 206, 3) := by decide +kernel
theorem dL_law_1202 : decode cL_law 1202 = .ok (.istore 6, 2) := by decide +kernel
theorem dL_law_1204 : decode cL_law 1204 = .ok (.aload_n 2, 1) := by decide +kernel
theorem dL_law_1205 : decode cL_law 1205 = .ok (.aload_n 0, 1) := by decide +kernel
theorem dL_law_1206 : decode cL_law 1206 = .ok (.iload 5, 2) := by decide +kernel
theorem dL_law_1208 : decode cL_law 1208 = .ok (.iconst 1, 1) := by decide +kernel
theorem dL_law_1209 : decode cL_law 1209 = .ok (.iadd, 1) := by decide +kernel
theorem dL_law_1210 : decode cL_law 1210 = .ok (.iaload, 1) := by decide +kernel
theorem dL_law_1211 : decode cL_law 1211 = .ok (.invokevirtual 208, 3) := by decide +kernel
theorem dL_law_1214 : decode cL_law 1214 = .ok (.istore 7, 2) := by decide +kernel
theorem dL_law_1216 : decode cL_law 1216 = .ok (.aload_n 2, 1) := by decide +kernel
theorem dL_law_1217 : decode cL_law 1217 = .ok (.invokevirtual 126, 3) := by decide +kernel
theorem dL_law_1220 : decode cL_law 1220 = .ok (.iload 6, 2) := by decide +kernel
theorem dL_law_1222 : decode cL_law 1222 = .ok (.if_icmp .eq 5, 3) := by decide +kernel
theorem dL_law_1225 : decode cL_law 1225 = .ok (.iconst 0, 1) := by decide +kernel
theorem dL_law_1226 : decode cL_law 1226 = .ok (.ireturn, 1) := by decide +kernel
theorem dL_law_1227 : decode cL_law 1227 = .ok (.iload 6, 2) := by decide +kernel
theorem dL_law_1229 : decode cL_law 1229 = .ok (.ifCond .ne 22, 3) := by decide +kernel
theorem dL_law_1232 : decode cL_law 1232 = .ok (.aload_n 3, 1) := by decide +kernel
theorem dL_law_1233 : decode cL_law 1233 = .ok (.iconst 0, 1) := by decide +kernel
theorem dL_law_1234 : decode cL_law 1234 = .ok (.laload, 1) := by decide +kernel
theorem dL_law_1235 : decode cL_law 1235 = .ok (.iload 7, 2) := by decide +kernel
theorem dL_law_1237 : decode cL_law 1237 = .ok (.ifCond .eq 7, 3) := by decide +kernel
theorem dL_law_1240 : decode cL_law 1240 = .ok (.lconst 1, 1) := by decide +kernel
theorem dL_law_1241 : decode cL_law 1241 = .ok (.goto 4, 3) := by decide +kernel
theorem dL_law_1244 : decode cL_law 1244 = .ok (.lconst 0, 1) := by decide +kernel
theorem dL_law_1245 : decode cL_law 1245 = .ok (.lcmp, 1) := by decide +kernel
theorem dL_law_1246 : decode cL_law 1246 = .ok (.ifCond .eq 5, 3) := by decide +kernel
theorem dL_law_1249 : decode cL_law 1249 = .ok (.iconst 0, 1) := by decide +kernel
theorem dL_law_1250 : decode cL_law 1250 = .ok (.ireturn, 1) := by decide +kernel
theorem dL_law_1251 : decode cL_law 1251 = .ok (.goto 916, 3) := by decide +kernel
theorem dL_law_1254 : decode cL_law 1254 = .ok (.aload_n 1, 1) := by decide +kernel
theorem dL_law_1255 : decode cL_law 1255 = .ok (.aload_n 0, 1) := by decide +kernel
theorem dL_law_1256 : decode cL_law 1256 = .ok (.iload 5, 2) := by decide +kernel
theorem dL_law_1258 : decode cL_law 1258 = .ok (.iconst 1, 1) := by decide +kernel
theorem dL_law_1259 : decode cL_law 1259 = .ok (.iadd, 1) := by decide +kernel
theorem dL_law_1260 : decode cL_law 1260 = .ok (.iaload, 1) := by decide +kernel
theorem dL_law_1261 : decode cL_law 1261 = .ok (.aload_n 3, 1) := by decide +kernel
theorem dL_law_1262 : decode cL_law 1262 = .ok (.invokestatic 209, 3) := by decide +kernel
theorem dL_law_1265 : decode cL_law 1265 = .ok (.istore 6, 2) := by decide +kernel
theorem dL_law_1267 : decode cL_law 1267 = .ok (.aload_n 2, 1) := by decide +kernel
theorem dL_law_1268 : decode cL_law 1268 = .ok (.aload_n 0, 1) := by decide +kernel
theorem dL_law_1269 : decode cL_law 1269 = .ok (.iload 5, 2) := by decide +kernel
theorem dL_law_1271 : decode cL_law 1271 = .ok (.iconst 1, 1) := by decide +kernel
theorem dL_law_1272 : decode cL_law 1272 = .ok (.iadd, 1) := by decide +kernel
theorem dL_law_1273 : decode cL_law 1273 = .ok (.iaload, 1) := by decide +kernel
theorem dL_law_1274 : decode cL_law 1274 = .ok (.invokevirtual 211, 3) := by decide +kernel
theorem dL_law_1277 : decode cL_law 1277 = .ok (.istore 7, 2) := by decide +kernel
theorem dL_law_1279 : decode cL_law 1279 = .ok (.aload_n 2, 1) := by decide +kernel
theorem dL_law_1280 : decode cL_law 1280 = .ok (.invokevirtual 126, 3) := by decide +kernel
theorem dL_law_1283 : decode cL_law 1283 = .ok (.iload 6, 2) := by decide +kernel
theorem dL_law_1285 : decode cL_law 1285 = .ok (.if_icmp .eq 5, 3) := by decide +kernel
theorem dL_law_1288 : decode cL_law 1288 = .ok (.iconst 0, 1) := by decide +kernel
theorem dL_law_1289 : decode cL_law 1289 = .ok (.ireturn, 1) := by decide +kernel
theorem dL_law_1290 : decode cL_law 1290 = .ok (.iload 6, 2) := by decide +kernel
theorem dL_law_1292 : decode cL_law 1292 = .ok (.ifCond .ne 15, 3) := by decide +kernel
theorem dL_law_1295 : decode cL_law 1295 = .ok (.aload_n 3, 1) := by decide +kernel
theorem dL_law_1296 : decode cL_law 1296 = .ok (.iconst 0, 1) := by decide +kernel
theorem dL_law_1297 : decode cL_law 1297 = .ok (.laload, 1) := by decide +kernel
theorem dL_law_1298 : decode cL_law 1298 = .ok (.iload 7, 2) := by decide +kernel
theorem dL_law_1300 : decode cL_law 1300 = .ok (.i2l, 1) := by decide +kernel
theorem dL_law_1301 : decode cL_law 1301 = .ok (.lcmp, 1) := by decide +kernel
theorem dL_law_1302 : decode cL_law 1302 = .ok (.ifCond .eq 5, 3) := by decide +kernel
theorem dL_law_1305 : decode cL_law 1305 = .ok (.iconst 0, 1) := by decide +kernel
theorem dL_law_1306 : decode cL_law 1306 = .ok (.ireturn, 1) := by decide +kernel
theorem dL_law_1307 : decode cL_law 1307 = .ok (.goto 860, 3) := by decide +kernel
theorem dL_law_1310 : decode cL_law 1310 = .ok (.aload_n 1, 1) := by decide +kernel
theorem dL_law_1311 : decode cL_law 1311 = .ok (.aload_n 0, 1) := by decide +kernel
theorem dL_law_1312 : decode cL_law 1312 = .ok (.iload 5, 2) := by decide +kernel
theorem dL_law_1314 : decode cL_law 1314 = .ok (.iconst 1, 1) := by decide +kernel
theorem dL_law_1315 : decode cL_law 1315 = .ok (.iadd, 1) := by decide +kernel
theorem dL_law_1316 : decode cL_law 1316 = .ok (.iaload, 1) := by decide +kernel
theorem dL_law_1317 : decode cL_law 1317 = .ok (.aload_n 3, 1) := by decide +kernel
theorem dL_law_1318 : decode cL_law 1318 = .ok (.invokestatic 212, 3) := by decide +kernel
theorem dL_law_1321 : decode cL_law 1321 = .ok (.istore 6, 2) := by decide +kernel
theorem dL_law_1323 : decode cL_law 1323 = .ok (.aload_n 2, 1) := by decide +kernel
theorem dL_law_1324 : decode cL_law 1324 = .ok (.aload_n 0, 1) := by decide +kernel
theorem dL_law_1325 : decode cL_law 1325 = .ok (.iload 5, 2) := by decide +kernel
theorem dL_law_1327 : decode cL_law 1327 = .ok (.iconst 1, 1) := by decide +kernel
theorem dL_law_1328 : decode cL_law 1328 = .ok (.iadd, 1) := by decide +kernel
theorem dL_law_1329 : decode cL_law 1329 = .ok (.iaload, 1) := by decide +kernel
theorem dL_law_1330 : decode cL_law 1330 = .ok (.invokevirtual 214, 3) := by decide +kernel
theorem dL_law_1333 : decode cL_law 1333 = .ok (.istore 7, 2) := by decide +kernel
theorem dL_law_1335 : decode cL_law 1335 = .ok (.aload_n 2, 1) := by decide +kernel
theorem dL_law_1336 : decode cL_law 1336 = .ok (.invokevirtual 126, 3) := by decide +kernel
theorem dL_law_1339 : decode cL_law 1339 = .ok (.iload 6, 2) := by decide +kernel
theorem dL_law_1341 : decode cL_law 1341 = .ok (.if_icmp .eq 5, 3) := by decide +kernel
theorem dL_law_1344 : decode cL_law 1344 = .ok (.iconst 0, 1) := by decide +kernel
theorem dL_law_1345 : decode cL_law 1345 = .ok (.ireturn, 1) := by decide +kernel
theorem dL_law_1346 : decode cL_law 1346 = .ok (.iload 6, 2) := by decide +kernel
theorem dL_law_1348 : decode cL_law 1348 = .ok (.ifCond .ne 15, 3) := by decide +kernel
theorem dL_law_1351 : decode cL_law 1351 = .ok (.aload_n 3, 1) := by decide +kernel
theorem dL_law_1352 : decode cL_law 1352 = .ok (.iconst 0, 1) := by decide +kernel
theorem dL_law_1353 : decode cL_law 1353 = .ok (.laload, 1) := by decide +kernel
theorem dL_law_1354 : decode cL_law 1354 = .ok (.iload 7, 2) := by decide +kernel
theorem dL_law_1356 : decode cL_law 1356 = .ok (.i2l, 1) := by decide +kernel
theorem dL_law_1357 : decode cL_law 1357 = .ok (.lcmp, 1) := by decide +kernel
theorem dL_law_1358 : decode cL_law 1358 = .ok (.ifCond .eq 5, 3) := by decide +kernel
theorem dL_law_1361 : decode cL_law 1361 = .ok (.iconst 0, 1) := by decide +kernel
theorem dL_law_1362 : decode cL_law 1362 = .ok (.ireturn, 1) := by decide +kernel
theorem dL_law_1363 : decode cL_law 1363 = .ok (.goto 804, 3) := by decide +kernel
theorem dL_law_1366 : decode cL_law 1366 = .ok (.aload_n 1, 1) := by decide +kernel
theorem dL_law_1367 : decode cL_law 1367 = .ok (.aload_n 0, 1) := by decide +kernel
theorem dL_law_1368 : decode cL_law 1368 = .ok (.iload 5, 2) := by decide +kernel
theorem dL_law_1370 : decode cL_law 1370 = .ok (.iconst 1, 1) := by decide +kernel
theorem dL_law_1371 : decode cL_law 1371 = .ok (.iadd, 1) := by decide +kernel
theorem dL_law_1372 : decode cL_law 1372 = .ok (.iaload, 1) := by decide +kernel
theorem dL_law_1373 : decode cL_law 1373 = .ok (.aload_n 3, 1) := by decide +kernel
theorem dL_law_1374 : decode cL_law 1374 = .ok (.invokestatic 215, 3) := by decide +kernel
theorem dL_law_1377 : decode cL_law 1377 = .ok (.istore 6, 2) := by decide +kernel
theorem dL_law_1379 : decode cL_law 1379 = .ok (.aload_n 2, 1) := by decide +kernel
theorem dL_law_1380 : decode cL_law 1380 = .ok (.aload_n 0, 1) := by decide +kernel
theorem dL_law_1381 : decode cL_law 1381 = .ok (.iload 5, 2) := by decide +kernel
theorem dL_law_1383 : decode cL_law 1383 = .ok (.iconst 1, 1) := by decide +kernel
theorem dL_law_1384 : decode cL_law 1384 = .ok (.iadd, 1) := by decide +kernel
theorem dL_law_1385 : decode cL_law 1385 = .ok (.iaload, 1) := by decide +kernel
theorem dL_law_1386 : decode cL_law 1386 = .ok (.invokevirtual 217, 3) := by decide +kernel
theorem dL_law_1389 : decode cL_law 1389 = .ok (.istore 7, 2) := by decide +kernel
theorem dL_law_1391 : decode cL_law 1391 = .ok (.aload_n 2, 1) := by decide +kernel
theorem dL_law_1392 : decode cL_law 1392 = .ok (.invokevirtual 126, 3) := by decide +kernel
theorem dL_law_1395 : decode cL_law 1395 = .ok (.iload 6, 2) := by decide +kernel
theorem dL_law_1397 : decode cL_law 1397 = .ok (.if_icmp .eq 5, 3) := by decide +kernel
theorem dL_law_1400 : decode cL_law 1400 = .ok (.iconst 0, 1) := by decide +kernel
theorem dL_law_1401 : decode cL_law 1401 = .ok (.ireturn, 1) := by decide +kernel
theorem dL_law_1402 : decode cL_law 1402 = .ok (.iload 6, 2) := by decide +kernel
theorem dL_law_1404 : decode cL_law 1404 = .ok (.ifCond .ne 15, 3) := by decide +kernel
theorem dL_law_1407 : decode cL_law 1407 = .ok (.aload_n 3, 1) := by decide +kernel
theorem dL_law_1408 : decode cL_law 1408 = .ok (.iconst 0, 1) := by decide +kernel
theorem dL_law_1409 : decode cL_law 1409 = .ok (.laload, 1) := by decide +kernel
theorem dL_law_1410 : decode cL_law 1410 = .ok (.iload 7, 2) := by decide +kernel
theorem dL_law_1412 : decode cL_law 1412 = .ok (.i2l, 1) := by decide +kernel
theorem dL_law_1413 : decode cL_law 1413 = .ok (.lcmp, 1) := by decide +kernel
theorem dL_law_1414 : decode cL_law 1414 = .ok (.ifCond .eq 5, 3) := by decide +kernel
theorem dL_law_1417 : decode cL_law 1417 = .ok (.iconst 0, 1) := by decide +kernel
theorem dL_law_1418 : decode cL_law 1418 = .ok (.ireturn, 1) := by decide +kernel
theorem dL_law_1419 : decode cL_law 1419 = .ok (.goto 748, 3) := by decide +kernel
theorem dL_law_1422 : decode cL_law 1422 = .ok (.aload_n 1, 1) := by decide +kernel
theorem dL_law_1423 : decode cL_law 1423 = .ok (.aload_n 0, 1) := by decide +kernel
theorem dL_law_1424 : decode cL_law 1424 = .ok (.iload 5, 2) := by decide +kernel
theorem dL_law_1426 : decode cL_law 1426 = .ok (.iconst 1, 1) := by decide +kernel
theorem dL_law_1427 : decode cL_law 1427 = .ok (.iadd, 1) := by decide +kernel
theorem dL_law_1428 : decode cL_law 1428 = .ok (.iaload, 1) := by decide +kernel
theorem dL_law_1429 : decode cL_law 1429 = .ok (.aload_n 0, 1) := by decide +kernel
theorem dL_law_1430 : decode cL_law 1430 = .ok (.iload 5, 2) := by decide +kernel
theorem dL_law_1432 : decode cL_law 1432 = .ok (.iconst 2, 1) := by decide +kernel
theorem dL_law_1433 : decode cL_law 1433 = .ok (.iadd, 1) := by decide +kernel
theorem dL_law_1434 : decode cL_law 1434 = .ok (.iaload, 1) := by decide +kernel
theorem dL_law_1435 : decode cL_law 1435 = .ok (.aload_n 3, 1) := by decide +kernel
theorem dL_law_1436 : decode cL_law 1436 = .ok (.invokestatic 218, 3) := by decide +kernel
theorem dL_law_1439 : decode cL_law 1439 = .ok (.istore 6, 2) := by decide +kernel
theorem dL_law_1441 : decode cL_law 1441 = .ok (.aload_n 2, 1) := by decide +kernel
theorem dL_law_1442 : decode cL_law 1442 = .ok (.aload_n 0, 1) := by decide +kernel
theorem dL_law_1443 : decode cL_law 1443 = .ok (.iload 5, 2) := by decide +kernel
theorem dL_law_1445 : decode cL_law 1445 = .ok (.iconst 1, 1) := by decide +kernel
theorem dL_law_1446 : decode cL_law 1446 = .ok (.iadd, 1) := by decide +kernel
theorem dL_law_1447 : decode cL_law 1447 = .ok (.iaload, 1) := by decide +kernel
theorem dL_law_1448 : decode cL_law 1448 = .ok (.aload_n 0, 1) := by decide +kernel
theorem dL_law_1449 : decode cL_law 1449 = .ok (.iload 5, 2) := by decide +kernel
theorem dL_law_1451 : decode cL_law 1451 = .ok (.iconst 2, 1) := by decide +kernel
theorem dL_law_1452 : decode cL_law 1452 = .ok (.iadd, 1) := by decide +kernel
theorem dL_law_1453 : decode cL_law 1453 = .ok (.iaload, 1) := by decide +kernel
theorem dL_law_1454 : decode cL_law 1454 = .ok (.invokevirtual 220, 3) := by decide +kernel
theorem dL_law_1457 : decode cL_law 1457 = .ok (.istore 7, 2) := by decide +kernel
theorem dL_law_1459 : decode cL_law 1459 = .ok (.aload_n 2, 1) := by decide +kernel
theorem dL_law_1460 : decode cL_law 1460 = .ok (.invokevirtual 126, 3) := by decide +kernel
theorem dL_law_1463 : decode cL_law 1463 = .ok (.iload 6, 2) := by decide +kernel
theorem dL_law_1465 : decode cL_law 1465 = .ok (.if_icmp .eq 5, 3) := by decide +kernel
theorem dL_law_1468 : decode cL_law 1468 = .ok (.iconst 0, 1) := by decide +kernel
theorem dL_law_1469 : decode cL_law 1469 = .ok (.ireturn, 1) := by decide +kernel
theorem dL_law_1470 : decode cL_law 1470 = .ok (.iload 6, 2) := by decide +kernel
theorem dL_law_1472 : decode cL_law 1472 = .ok (.ifCond .ne 15, 3) := by decide +kernel
theorem dL_law_1475 : decode cL_law 1475 = .ok (.aload_n 3, 1) := by decide +kernel
theorem dL_law_1476 : decode cL_law 1476 = .ok (.iconst 0, 1) := by decide +kernel
theorem dL_law_1477 : decode cL_law 1477 = .ok (.laload, 1) := by decide +kernel
theorem dL_law_1478 : decode cL_law 1478 = .ok (.iload 7, 2) := by decide +kernel
theorem dL_law_1480 : decode cL_law 1480 = .ok (.i2l, 1) := by decide +kernel
theorem dL_law_1481 : decode cL_law 1481 = .ok (.lcmp, 1) := by decide +kernel
theorem dL_law_1482 : decode cL_law 1482 = .ok (.ifCond .eq 5, 3) := by decide +kernel
theorem dL_law_1485 : decode cL_law 1485 = .ok (.iconst 0, 1) := by decide +kernel
theorem dL_law_1486 : decode cL_law 1486 = .ok (.ireturn, 1) := by decide +kernel
theorem dL_law_1487 : decode cL_law 1487 = .ok (.goto 680, 3) := by decide +kernel
theorem dL_law_1490 : decode cL_law 1490 = .ok (.aload_n 1, 1) := by decide +kernel
theorem dL_law_1491 : decode cL_law 1491 = .ok (.invokevirtual 221, 3) := by decide +kernel
theorem dL_law_1494 : decode cL_law 1494 = .ok (.aload_n 2, 1) := by decide +kernel
theorem dL_law_1495 : decode cL_law 1495 = .ok (.invokevirtual 224, 3) := by decide +kernel
theorem dL_law_1498 : decode cL_law 1498 = .ok (.if_icmp .eq 669, 3) := by decide +kernel
theorem dL_law_1501 : decode cL_law 1501 = .ok (.iconst 0, 1) := by decide +kernel
theorem dL_law_1502 : decode cL_law 1502 = .ok (.ireturn, 1) := by decide +kernel
theorem dL_law_1503 : decode cL_law 1503 = .ok (.aload_n 1, 1) := by decide +kernel
theorem dL_law_1504 : decode cL_law 1504 = .ok (.aload_n 0, 1) := by decide +kernel
theorem dL_law_1505 : decode cL_law 1505 = .ok (.iload 5, 2) := by decide +kernel
theorem dL_law_1507 : decode cL_law 1507 = .ok (.iconst 1, 1) := by decide +kernel
theorem dL_law_1508 : decode cL_law 1508 = .ok (.iadd, 1) := by decide +kernel
theorem dL_law_1509 : decode cL_law 1509 = .ok (.iaload, 1) := by decide +kernel
theorem dL_law_1510 : decode cL_law 1510 = .ok (.invokevirtual 225, 3) := by decide +kernel
theorem dL_law_1513 : decode cL_law 1513 = .ok (.aload_n 2, 1) := by decide +kernel
theorem dL_law_1514 : decode cL_law 1514 = .ok (.aload_n 0, 1) := by decide +kernel
theorem dL_law_1515 : decode cL_law 1515 = .ok (.iload 5, 2) := by decide +kernel
theorem dL_law_1517 : decode cL_law 1517 = .ok (.iconst 1, 1) := by decide +kernel
theorem dL_law_1518 : decode cL_law 1518 = .ok (.iadd, 1) := by decide +kernel
theorem dL_law_1519 : decode cL_law 1519 = .ok (.iaload, 1) := by decide +kernel
theorem dL_law_1520 : decode cL_law 1520 = .ok (.invokevirtual 228, 3) := by decide +kernel
theorem dL_law_1523 : decode cL_law 1523 = .ok (.if_icmp .eq 644, 3) := by decide +kernel
theorem dL_law_1526 : decode cL_law 1526 = .ok (.iconst 0, 1) := by decide +kernel
theorem dL_law_1527 : decode cL_law 1527 = .ok (.ireturn, 1) := by decide +kernel
theorem dL_law_1528 : decode cL_law 1528 = .ok (.aload_n 1, 1) := by decide +kernel
theorem dL_law_1529 : decode cL_law 1529 = .ok (.invokevirtual 229, 3) := by decide +kernel
theorem dL_law_1532 : decode cL_law 1532 = .ok (.aload_n 2, 1) := by decide +kernel
theorem dL_law_1533 : decode cL_law 1533 = .ok (.invokevirtual 232, 3) := by decide +kernel
theorem dL_law_1536 : decode cL_law 1536 = .ok (.if_icmp .eq 631, 3) := by decide +kernel
theorem dL_law_1539 : decode cL_law 1539 = .ok (.iconst 0, 1) := by decide +kernel
theorem dL_law_1540 : decode cL_law 1540 = .ok (.ireturn, 1) := by decide +kernel
theorem dL_law_1541 : decode cL_law 1541 = .ok (.aload_n 1, 1) := by decide +kernel
theorem dL_law_1542 : decode cL_law 1542 = .ok (.invokevirtual 233, 3) := by decide +kernel
theorem dL_law_1545 : decode cL_law 1545 = .ok (.aload_n 2, 1) := by decide +kernel
theorem dL_law_1546 : decode cL_law 1546 = .ok (.invokevirtual 236, 3) := by decide +kernel
theorem dL_law_1549 : decode cL_law 1549 = .ok (.if_icmp .eq 618, 3) := by decide +kernel
theorem dL_law_1552 : decode cL_law 1552 = .ok (.iconst 0, 1) := by decide +kernel
theorem dL_law_1553 : decode cL_law 1553 = .ok (.ireturn, 1) := by decide +kernel
theorem dL_law_1554 : decode cL_law 1554 = .ok (.aload_n 1, 1) := by decide +kernel
theorem dL_law_1555 : decode cL_law 1555 = .ok (.invokevirtual 237, 3) := by decide +kernel
theorem dL_law_1558 : decode cL_law 1558 = .ok (.aload_n 2, 1) := by decide +kernel
theorem dL_law_1559 : decode cL_law 1559 = .ok (.invokevirtual 240, 3) := by decide +kernel
theorem dL_law_1562 : decode cL_law 1562 = .ok (.if_icmp .eq 605, 3) := by decide +kernel
theorem dL_law_1565 : decode cL_law 1565 = .ok (.iconst 0, 1) := by decide +kernel
theorem dL_law_1566 : decode cL_law 1566 = .ok (.ireturn, 1) := by decide +kernel
theorem dL_law_1567 : decode cL_law 1567 = .ok (.aload_n 1, 1) := by decide +kernel
theorem dL_law_1568 : decode cL_law 1568 = .ok (.invokevirtual 241, 3) := by decide +kernel
theorem dL_law_1571 : decode cL_law 1571 = .ok (.aload_n 2, 1) := by decide +kernel
theorem dL_law_1572 : decode cL_law 1572 = .ok (.invokevirtual 244, 3) := by decide +kernel
theorem dL_law_1575 : decode cL_law 1575 = .ok (.if_icmp .eq 592, 3) := by decide +kernel
theorem dL_law_1578 : decode cL_law 1578 = .ok (.iconst 0, 1) := by decide +kernel
theorem dL_law_1579 : decode cL_law 1579 = .ok (.ireturn, 1) := by decide +kernel
theorem dL_law_1580 : decode cL_law 1580 = .ok (.aload_n 1, 1) := by decide +kernel
theorem dL_law_1581 : decode cL_law 1581 = .ok (.invokevirtual 245, 3) := by decide +kernel
theorem dL_law_1584 : decode cL_law 1584 = .ok (.aload_n 2, 1) := by decide +kernel
theorem dL_law_1585 : decode cL_law 1585 = .ok (.invokevirtual 248, 3) := by decide +kernel
theorem dL_law_1588 : decode cL_law 1588 = .ok (.if_icmp .eq 579, 3) := by decide +kernel
theorem dL_law_1591 : decode cL_law 1591 = .ok (.iconst 0, 1) := by decide +kernel
theorem dL_law_1592 : decode cL_law 1592 = .ok (.ireturn, 1) := by decide +kernel
theorem dL_law_1593 : decode cL_law 1593 = .ok (.aload_n 1, 1) := by decide +kernel
theorem dL_law_1594 : decode cL_law 1594 = .ok (.aload 4, 2) := by decide +kernel
theorem dL_law_1596 : decode cL_law 1596 = .ok (.invokestatic 249, 3) := by decide +kernel
theorem dL_law_1599 : decode cL_law 1599 = .ok (.istore 6, 2) := by decide +kernel
theorem dL_law_1601 : decode cL_law 1601 = .ok (.aload_n 2, 1) := by decide +kernel
theorem dL_law_1602 : decode cL_law 1602 = .ok (.invokevirtual 252, 3) := by decide +kernel
theorem dL_law_1605 : decode cL_law 1605 = .ok (.dstore 7, 2) := by decide +kernel
theorem dL_law_1607 : decode cL_law 1607 = .ok (.aload_n 2, 1) := by decide +kernel
theorem dL_law_1608 : decode cL_law 1608 = .ok (.invokevirtual 126, 3) := by decide +kernel
theorem dL_law_1611 : decode cL_law 1611 = .ok (.iload 6, 2) := by decide +kernel
theorem dL_law_1613 : decode cL_law 1613 = .ok (.if_icmp .eq 5, 3) := by decide +kernel
theorem dL_law_1616 : decode cL_law 1616 = .ok (.iconst 0, 1) := by decide +kernel
theorem dL_law_1617 : decode cL_law 1617 = .ok (.ireturn, 1) := by decide +kernel
theorem dL_law_1618 : decode cL_law 1618 = .ok (.iload 6, 2) := by decide +kernel
theorem dL_law_1620 : decode cL_law 1620 = .ok (.ifCond .ne 35, 3) := by decide +kernel
theorem dL_law_1623 : decode cL_law 1623 = .ok (.aload 4, 2) := by decide +kernel
theorem dL_law_1625 : decode cL_law 1625 = .ok (.iconst 0, 1) := by decide +kernel
theorem dL_law_1626 : decode cL_law 1626 = .ok (.daload, 1) := by decide +kernel
theorem dL_law_1627 : decode cL_law 1627 = .ok (.dload 7, 2) := by decide +kernel
theorem dL_law_1629 : decode cL_law 1629 = .ok (.dcmp .l, 1) := by decide +kernel
theorem dL_law_1630 : decode cL_law 1630 = .ok (.ifCond .eq 25, 3) := by decide +kernel
theorem dL_law_1633 : decode cL_law 1633 = .ok (.aload 4, 2) := by decide +kernel
theorem dL_law_1635 : decode cL_law 1635 = .ok (.iconst 0, 1) := by decide +kernel
theorem dL_law_1636 : decode cL_law 1636 = .ok (.daload, 1) := by decide +kernel
theorem dL_law_1637 : decode cL_law 1637 = .ok (.aload 4, 2) := by decide +kernel
theorem dL_law_1639 : decode cL_law 1639 = .ok (.iconst 0, 1) := by decide +kernel
theorem dL_law_1640 : decode cL_law 1640 = .ok (.daload, 1) := by decide +kernel
theorem dL_law_1641 : decode cL_law 1641 = .ok (.dcmp .l, 1) := by decide +kernel
theorem dL_law_1642 : decode cL_law 1642 = .ok (.ifCond .eq 11, 3) := by decide +kernel
theorem dL_law_1645 : decode cL_law 1645 = .ok (.dload 7, 2) := by decide +kernel
theorem dL_law_1647 : decode cL_law 1647 = .ok (.dload 7, 2) := by decide +kernel
theorem dL_law_1649 : decode cL_law 1649 = .ok (.dcmp .l, 1) := by decide +kernel
theorem dL_law_1650 : decode cL_law 1650 = .ok (.ifCond .ne 5, 3) := by decide +kernel
theorem dL_law_1653 : decode cL_law 1653 = .ok (.iconst 0, 1) := by decide +kernel
theorem dL_law_1654 : decode cL_law 1654 = .ok (.ireturn, 1) := by decide +kernel
theorem dL_law_1655 : decode cL_law 1655 = .ok (.goto 512, 3) := by decide +kernel
theorem dL_law_1658 : decode cL_law 1658 = .ok (.aload_n 1, 1) := by decide +kernel
theorem dL_law_1659 : decode cL_law 1659 = .ok (.aload_n 0, 1) := by decide +kernel
theorem dL_law_1660 : decode cL_law 1660 = .ok (.iload 5, 2) := by decide +kernel
theorem dL_law_1662 : decode cL_law 1662 = .ok (.iconst 1, 1) := by decide +kernel
theorem dL_law_1663 : decode cL_law 1663 = .ok (.iadd, 1) := by decide +kernel
theorem dL_law_1664 : decode cL_law 1664 = .ok (.iaload, 1) := by decide +kernel
theorem dL_law_1665 : decode cL_law 1665 = .ok (.i2c, 1) := by decide +kernel
theorem dL_law_1666 : decode cL_law 1666 = .ok (.aload 4, 2) := by decide +kernel
theorem dL_law_1668 : decode cL_law 1668 = .ok (.invokestatic 253, 3) := by decide +kernel
theorem dL_law_1671 : decode cL_law 1671 = .ok (.istore 6, 2) := by decide +kernel
theorem dL_law_1673 : decode cL_law 1673 = .ok (.aload_n 2, 1) := by decide +kernel
theorem dL_law_1674 : decode cL_law 1674 = .ok (.aload_n 0, 1) := by decide +kernel
theorem dL_law_1675 : decode cL_law 1675 = .ok (.iload 5, 2) := by decide +kernel
theorem dL_law_1677 : decode cL_law 1677 = .ok (.iconst 1, 1) := by decide +kernel
theorem dL_law_1678 : decode cL_law 1678 = .ok (.iadd, 1) := by decide +kernel
theorem dL_law_1679 : decode cL_law 1679 = .ok (.iaload, 1) := by decide +kernel
theorem dL_law_1680 : decode cL_law 1680 = .ok (.i2c, 1) := by decide +kernel
theorem dL_law_1681 : decode cL_law 1681 = .ok (.invokevirtual 256, 3) := by decide +kernel
theorem dL_law_1684 : decode cL_law 1684 = .ok (.fstore 7, 2) := by decide +kernel
theorem dL_law_1686 : decode cL_law 1686 = .ok (.aload_n 2, 1) := by decide +kernel
theorem dL_law_1687 : decode cL_law 1687 = .ok (.invokevirtual 126, 3) := by decide +kernel
theorem dL_law_1690 : decode cL_law 1690 = .ok (.iload 6, 2) := by decide +kernel
theorem dL_law_1692 : decode cL_law 1692 = .ok (.if_icmp .eq 5, 3) := by decide +kernel
theorem dL_law_1695 : decode cL_law 1695 = .ok (.iconst 0, 1) := by decide +kernel
theorem dL_law_1696 : decode cL_law 1696 = .ok (.ireturn, 1) := by decide +kernel
theorem dL_law_1697 : decode cL_law 1697 = .ok (.iload 6, 2) := by decide +kernel
theorem dL_law_1699 : decode cL_law 1699 = .ok (.ifCond .ne 36, 3) := by decide +kernel
theorem dL_law_1702 : decode cL_law 1702 = .ok (.aload 4, 2) := by decide +kernel
theorem dL_law_1704 : decode cL_law 1704 = .ok (.iconst 0, 1) := by decide +kernel
theorem dL_law_1705 : decode cL_law 1705 = .ok (.daload, 1) := by decide +kernel
theorem dL_law_1706 : decode cL_law 1706 = .ok (.fload 7, 2) := by decide +kernel
theorem dL_law_1708 : decode cL_law 1708 = .ok (.f2d, 1) := by decide +kernel
theorem dL_law_1709 : decode cL_law 1709 = .ok (.dcmp .l, 1) := by decide +kernel
theorem dL_law_1710 : decode cL_law 1710 = .ok (.ifCond .eq 25, 3) := by decide +kernel
theorem dL_law_1713 : decode cL_law 1713 = .ok (.aload 4, 2) := by decide +kernel
theorem dL_law_1715 : decode cL_law 1715 = .ok (.iconst 0, 1) := by decide +kernel
theorem dL_law_1716 : decode cL_law 1716 = .ok (.daload, 1) := by decide +kernel
theorem dL_law_1717 : decode cL_law 1717 = .ok (.aload 4, 2) := by decide +kernel
theorem dL_law_1719 : decode cL_law 1719 = .ok (.iconst 0, 1) := by decide +kernel
theorem dL_law_1720 : decode cL_law 1720 = .ok (.daload, 1) := by decide +kernel
theorem dL_law_1721 : decode cL_law 1721 = .ok (.dcmp .l, 1) := by decide +kernel
theorem dL_law_1722 : decode cL_law 1722 = .ok (.ifCond .eq 11, 3) := by decide +kernel
theorem dL_law_1725 : decode cL_law 1725 = .ok (.fload 7, 2) := by decide +kernel
theorem dL_law_1727 : decode cL_law 1727 = .ok (.fload 7, 2) := by decide +kernel
theorem dL_law_1729 : decode cL_law 1729 = .ok (.fcmp .l, 1) := by decide +kernel
theorem dL_law_1730 : decode cL_law 1730 = .ok (.ifCond .ne 5, 3) := by decide +kernel
theorem dL_law_1733 : decode cL_law 1733 = .ok (.iconst 0, 1) := by decide +kernel
theorem dL_law_1734 : decode cL_law 1734 = .ok (.ireturn, 1) := by decide +kernel
theorem dL_law_1735 : decode cL_law 1735 = .ok (.goto 432, 3) := by decide +kernel
theorem dL_law_1738 : decode cL_law 1738 = .ok (.aload_n 1, 1) := by decide +kernel
theorem dL_law_1739 : decode cL_law 1739 = .ok (.invokevirtual 257, 3) := by decide +kernel
theorem dL_law_1742 : decode cL_law 1742 = .ok (.aload_n 2, 1) := by decide +kernel
theorem dL_law_1743 : decode cL_law 1743 = .ok (.invokevirtual 261, 3) := by decide +kernel
theorem dL_law_1746 : decode cL_law 1746 = .ok (.if_icmp .eq 421, 3) := by decide +kernel
theorem dL_law_1749 : decode cL_law 1749 = .ok (.iconst 0, 1) := by decide +kernel
theorem dL_law_1750 : decode cL_law 1750 = .ok (.ireturn, 1) := by decide +kernel
theorem dL_law_1751 : decode cL_law 1751 = .ok (.aload_n 1, 1) := by decide +kernel
theorem dL_law_1752 : decode cL_law 1752 = .ok (.aload_n 0, 1) := by decide +kernel
theorem dL_law_1753 : decode cL_law 1753 = .ok (.iload 5, 2) := by decide +kernel
theorem dL_law_1755 : decode cL_law 1755 = .ok (.iconst 1, 1) := by decide +kernel
theorem dL_law_1756 : decode cL_law 1756 = .ok (.iadd, 1) := by decide +kernel
theorem dL_law_1757 : decode cL_law 1757 = .ok (.iaload, 1) := by decide +kernel
theorem dL_law_1758 : decode cL_law 1758 = .ok (.aload_n 3, 1) := by decide +kernel
theorem dL_law_1759 : decode cL_law 1759 = .ok (.invokestatic 262, 3) := by decide +kernel
theorem dL_law_1762 : decode cL_law 1762 = .ok (.istore 6, 2) := by decide +kernel
theorem dL_law_1764 : decode cL_law 1764 = .ok (.aload_n 2, 1) := by decide +kernel
theorem dL_law_1765 : decode cL_law 1765 = .ok (.aload_n 0, 1) := by decide +kernel
theorem dL_law_1766 : decode cL_law 1766 = .ok (.iload 5, 2) := by decide +kernel
theorem dL_law_1768 : decode cL_law 1768 = .ok (.iconst 1, 1) := by decide +kernel
theorem dL_law_1769 : decode cL_law 1769 = .ok (.iadd, 1) := by decide +kernel
theorem dL_law_1770 : decode cL_law 1770 = .ok (.iaload, 1) := by decide +kernel
theorem dL_law_1771 : decode cL_law 1771 = .ok (.invokevirtual 264, 3) := by decide +kernel
theorem dL_law_1774 : decode cL_law 1774 = .ok (.istore 7, 2) := by decide +kernel
theorem dL_law_1776 : decode cL_law 1776 = .ok (.aload_n 2, 1) := by decide +kernel
theorem dL_law_1777 : decode cL_law 1777 = .ok (.invokevirtual 126, 3) := by decide +kernel
theorem dL_law_1780 : decode cL_law 1780 = .ok (.iload 6, 2) := by decide +kernel
theorem dL_law_1782 : decode cL_law 1782 = .ok (.if_icmp .eq 5, 3) := by decide +kernel
theorem dL_law_1785 : decode cL_law 1785 = .ok (.iconst 0, 1) := by decide +kernel
theorem dL_law_1786 : decode cL_law 1786 = .ok (.ireturn, 1) := by decide +kernel
theorem dL_law_1787 : decode cL_law 1787 = .ok (.iload 6, 2) := by decide +kernel
theorem dL_law_1789 : decode cL_law 1789 = .ok (.ifCond .ne 15, 3) := by decide +kernel
theorem dL_law_1792 : decode cL_law 1792 = .ok (.aload_n 3, 1) := by decide +kernel
theorem dL_law_1793 : decode cL_law 1793 = .ok (.iconst 0, 1) := by decide +kernel
theorem dL_law_1794 : decode cL_law 1794 = .ok (.laload, 1) := by decide +kernel
theorem dL_law_1795 : decode cL_law 1795 = .ok (.iload 7, 2) := by decide +kernel
theorem dL_law_1797 : decode cL_law 1797 = .ok (.i2l, 1) := by decide +kernel
theorem dL_law_1798 : decode cL_law 1798 = .ok (.lcmp, 1) := by decide +kernel
theorem dL_law_1799 : decode cL_law 1799 = .ok (.ifCond .eq 5, 3) := by decide +kernel
theorem dL_law_1802 : decode cL_law 1802 = .ok (.iconst 0, 1) := by decide +kernel
theorem dL_law_1803 : decode cL_law 1803 = .ok (.ireturn, 1) := by decide +kernel
theorem dL_law_1804 : decode cL_law 1804 = .ok (.goto 363, 3) := by decide +kernel
theorem dL_law_1807 : decode cL_law 1807 = .ok (.aload_n 1, 1) := by decide +kernel
theorem dL_law_1808 : decode cL_law 1808 = .ok (.invokevirtual 265, 3) := by decide +kernel
theorem dL_law_1811 : decode cL_law 1811 = .ok (.aload_n 2, 1) := by decide +kernel
theorem dL_law_1812 : decode cL_law 1812 = .ok (.invokevirtual 268, 3) := by decide +kernel
theorem dL_law_1815 : decode cL_law 1815 = .ok (.if_icmp .eq 352, 3) := by decide +kernel
theorem dL_law_1818 : decode cL_law 1818 = .ok (.iconst 0, 1) := by decide +kernel
theorem dL_law_1819 : decode cL_law 1819 = .ok (.ireturn, 1) := by decide +kernel
theorem dL_law_1820 : decode cL_law 1820 = .ok (.aload_n 1, 1) := by decide +kernel
theorem dL_law_1821 : decode cL_law 1821 = .ok (.aload_n 0, 1) := by decide +kernel
theorem dL_law_1822 : decode cL_law 1822 = .ok (.iload 5, 2) := by decide +kernel
theorem dL_law_1824 : decode cL_law 1824 = .ok (.iconst 1, 1) := by decide +kernel
theorem dL_law_1825 : decode cL_law 1825 = .ok (.iadd, 1) := by decide +kernel
theorem dL_law_1826 : decode cL_law 1826 = .ok (.iaload, 1) := by decide +kernel
theorem dL_law_1827 : decode cL_law 1827 = .ok (.aload_n 3, 1) := by decide +kernel
theorem dL_law_1828 : decode cL_law 1828 = .ok (.invokestatic 269, 3) := by decide +kernel
theorem dL_law_1831 : decode cL_law 1831 = .ok (.istore 6, 2) := by decide +kernel
theorem dL_law_1833 : decode cL_law 1833 = .ok (.aload_n 2, 1) := by decide +kernel
theorem dL_law_1834 : decode cL_law 1834 = .ok (.aload_n 0, 1) := by decide +kernel
theorem dL_law_1835 : decode cL_law 1835 = .ok (.iload 5, 2) := by decide +kernel
theorem dL_law_1837 : decode cL_law 1837 = .ok (.iconst 1, 1) := by decide +kernel
theorem dL_law_1838 : decode cL_law 1838 = .ok (.iadd, 1) := by decide +kernel
theorem dL_law_1839 : decode cL_law 1839 = .ok (.iaload, 1) := by decide +kernel
theorem dL_law_1840 : decode cL_law 1840 = .ok (.invokevirtual 271, 3) := by decide +kernel
theorem dL_law_1843 : decode cL_law 1843 = .ok (.istore 7, 2) := by decide +kernel
theorem dL_law_1845 : decode cL_law 1845 = .ok (.aload_n 2, 1) := by decide +kernel
theorem dL_law_1846 : decode cL_law 1846 = .ok (.invokevirtual 126, 3) := by decide +kernel
theorem dL_law_1849 : decode cL_law 1849 = .ok (.iload 6, 2) := by decide +kernel
theorem dL_law_1851 : decode cL_law 1851 = .ok (.if_icmp .eq 5, 3) := by decide +kernel
theorem dL_law_1854 : decode cL_law 1854 = .ok (.iconst 0, 1) := by decide +kernel
theorem dL_law_1855 : decode cL_law 1855 = .ok (.ireturn, 1) := by decide +kernel
theorem dL_law_1856 : decode cL_law 1856 = .ok (.iload 6, 2) := by decide +kernel
theorem dL_law_1858 : decode cL_law 1858 = .ok (.ifCond .ne 15, 3) := by decide +kernel
theorem dL_law_1861 : decode cL_law 1861 = .ok (.aload_n 3, 1) := by decide +kernel
theorem dL_law_1862 : decode cL_law 1862 = .ok (.iconst 0, 1) := by decide +kernel
theorem dL_law_1863 : decode cL_law 1863 = .ok (.laload, 1) := by decide +kernel
theorem dL_law_1864 : decode cL_law 1864 = .ok (.iload 7, 2) := by decide +kernel
theorem dL_law_1866 : decode cL_law 1866 = .ok (.i2l, 1) := by decide +kernel
theorem dL_law_1867 : decode cL_law 1867 = .ok (.lcmp, 1) := by decide +kernel
theorem dL_law_1868 : decode cL_law 1868 = .ok (.ifCond .eq 5, 3) := by decide +kernel
theorem dL_law_1871 : decode cL_law 1871 = .ok (.iconst 0, 1) := by decide +kernel
theorem dL_law_1872 : decode cL_law 1872 = .ok (.ireturn, 1) := by decide +kernel
theorem dL_law_1873 : decode cL_law 1873 = .ok (.goto 294, 3) := by decide +kernel
theorem dL_law_1876 : decode cL_law 1876 = .ok (.aload_n 1, 1) := by decide +kernel
theorem dL_law_1877 : decode cL_law 1877 = .ok (.aload_n 0, 1) := by decide +kernel
theorem dL_law_1878 : decode cL_law 1878 = .ok (.iload 5, 2) := by decide +kernel
theorem dL_law_1880 : decode cL_law 1880 = .ok (.iconst 1, 1) := by decide +kernel
theorem dL_law_1881 : decode cL_law 1881 = .ok (.iadd, 1) := by decide +kernel
theorem dL_law_1882 : decode cL_law 1882 = .ok (.iaload, 1) := by decide +kernel
theorem dL_law_1883 : decode cL_law 1883 = .ok (.i2c, 1) := by decide +kernel
theorem dL_law_1884 : decode cL_law 1884 = .ok (.aload_n 3, 1) := by decide +kernel
theorem dL_law_1885 : decode cL_law 1885 = .ok (.invokestatic 272, 3) := by decide +kernel
theorem dL_law_1888 : decode cL_law 1888 = .ok (.istore 6, 2) := by decide +kernel
theorem dL_law_1890 : decode cL_law 1890 = .ok (.aload_n 2, 1) := by decide +kernel
theorem dL_law_1891 : decode cL_law 1891 = .ok (.aload_n 0, 1) := by decide +kernel
theorem dL_law_1892 : decode cL_law 1892 = .ok (.iload 5, 2) := by decide +kernel
theorem dL_law_1894 : decode cL_law 1894 = .ok (.iconst 1, 1) := by decide +kernel
theorem dL_law_1895 : decode cL_law 1895 = .ok (.iadd, 1) := by decide +kernel
theorem dL_law_1896 : decode cL_law 1896 = .ok (.iaload, 1) := by decide +kernel
theorem dL_law_1897 : decode cL_law 1897 = .ok (.i2c, 1) := by decide +kernel
theorem dL_law_1898 : decode cL_law 1898 = .ok (.invokevirtual 274, 3) := by decide +kernel
theorem dL_law_1901 : decode cL_law 1901 = .ok (.istore 7, 2) := by decide +kernel
theorem dL_law_1903 : decode cL_law 1903 = .ok (.aload_n 2, 1) := by decide +kernel
theorem dL_law_1904 : decode cL_law 1904 = .ok (.invokevirtual 126, 3) := by decide +kernel
theorem dL_law_1907 : decode cL_law 1907 = .ok (.iload 6, 2) := by decide +kernel
theorem dL_law_1909 : decode cL_law 1909 = .ok (.if_icmp .eq 5, 3) := by decide +kernel
theorem dL_law_1912 : decode cL_law 1912 = .ok (.iconst 0, 1) := by decide +kernel
theorem dL_law_1913 : decode cL_law 1913 = .ok (.ireturn, 1) := by decide +kernel
theorem dL_law_1914 : decode cL_law 1914 = .ok (.iload 6, 2) := by decide +kernel
theorem dL_law_1916 : decode cL_law 1916 = .ok (.ifCond .ne 15, 3) := by decide +kernel
theorem dL_law_1919 : decode cL_law 1919 = .ok (.aload_n 3, 1) := by decide +kernel
theorem dL_law_1920 : decode cL_law 1920 = .ok (.iconst 0, 1) := by decide +kernel
theorem dL_law_1921 : decode cL_law 1921 = .ok (.laload, 1) := by decide +kernel
theorem dL_law_1922 : decode cL_law 1922 = .ok (.iload 7, 2) := by decide +kernel
theorem dL_law_1924 : decode cL_law 1924 = .ok (.i2l, 1) := by decide +kernel
theorem dL_law_1925 : decode cL_law 1925 = .ok (.lcmp, 1) := by decide +kernel
theorem dL_law_1926 : decode cL_law 1926 = .ok (.ifCond .eq 5, 3) := by decide +kernel
theorem dL_law_1929 : decode cL_law 1929 = .ok (.iconst 0, 1) := by decide +kernel
theorem dL_law_1930 : decode cL_law 1930 = .ok (.ireturn, 1) := by decide +kernel
theorem dL_law_1931 : decode cL_law 1931 = .ok (.goto 236, 3) := by decide +kernel
theorem dL_law_1934 : decode cL_law 1934 = .ok (.aload_n 1, 1) := by decide +kernel
theorem dL_law_1935 : decode cL_law 1935 = .ok (.aload_n 3, 1) := by decide +kernel
theorem dL_law_1936 : decode cL_law 1936 = .ok (.invokestatic 275, 3) := by decide +kernel
theorem dL_law_1939 : decode cL_law 1939 = .ok (.istore 6, 2) := by decide +kernel
theorem dL_law_1941 : decode cL_law 1941 = .ok (.aload_n 2, 1) := by decide +kernel
theorem dL_law_1942 : decode cL_law 1942 = .ok (.invokevirtual 278, 3) := by decide +kernel
theorem dL_law_1945 : decode cL_law 1945 = .ok (.istore 7, 2) := by decide +kernel
theorem dL_law_1947 : decode cL_law 1947 = .ok (.aload_n 2, 1) := by decide +kernel
theorem dL_law_1948 : decode cL_law 1948 = .ok (.invokevirtual 126, 3) := by decide +kernel
theorem dL_law_1951 : decode cL_law 1951 = .ok (.iload 6, 2) := by decide +kernel
theorem dL_law_1953 : decode cL_law 1953 = .ok (.if_icmp .eq 5, 3) := by decide +kernel
theorem dL_law_1956 : decode cL_law 1956 = .ok (.iconst 0, 1) := by decide +kernel
theorem dL_law_1957 : decode cL_law 1957 = .ok (.ireturn, 1) := by decide +kernel
theorem dL_law_1958 : decode cL_law 1958 = .ok (.iload 6, 2) := by decide +kernel
theorem dL_law_1960 : decode cL_law 1960 = .ok (.ifCond .ne 15, 3) := by decide +kernel
theorem dL_law_1963 : decode cL_law 1963 = .ok (.aload_n 3, 1) := by decide +kernel
theorem dL_law_1964 : decode cL_law 1964 = .ok (.iconst 0, 1) := by decide +kernel
theorem dL_law_1965 : decode cL_law 1965 = .ok (.laload, 1) := by decide +kernel
theorem dL_law_1966 : decode cL_law 1966 = .ok (.iload 7, 2) := by decide +kernel
theorem dL_law_1968 : decode cL_law 1968 = .ok (.i2l, 1) := by decide +kernel
theorem dL_law_1969 : decode cL_law 1969 = .ok (.lcmp, 1) := by decide +kernel
theorem dL_law_1970 : decode cL_law 1970 = .ok (.ifCond .eq 5, 3) := by decide +kernel
theorem dL_law_1973 : decode cL_law 1973 = .ok (.iconst 0, 1) := by decide +kernel
theorem dL_law_1974 : decode cL_law 1974 = .ok (.ireturn, 1) := by decide +kernel
theorem dL_law_1975 : decode cL_law 1975 = .ok (.goto 192, 3) := by decide +kernel
theorem dL_law_1978 : decode cL_law 1978 = .ok (.aload_n 1, 1) := by decide +kernel
theorem dL_law_1979 : decode cL_law 1979 = .ok (.aload_n 3, 1) := by decide +kernel
theorem dL_law_1980 : decode cL_law 1980 = .ok (.invokestatic 279, 3) := by decide +kernel
theorem dL_law_1983 : decode cL_law 1983 = .ok (.istore 6, 2) := by decide +kernel
theorem dL_law_1985 : decode cL_law 1985 = .ok (.aload_n 2, 1) := by decide +kernel
theorem dL_law_1986 : decode cL_law 1986 = .ok (.invokevirtual 281, 3) := by decide +kernel
theorem dL_law_1989 : decode cL_law 1989 = .ok (.istore 7, 2) := by decide +kernel
theorem dL_law_1991 : decode cL_law 1991 = .ok (.aload_n 2, 1) := by decide +kernel
theorem dL_law_1992 : decode cL_law 1992 = .ok (.invokevirtual 126, 3) := by decide +kernel
theorem dL_law_1995 : decode cL_law 1995 = .ok (.iload 6, 2) := by decide +kernel
theorem dL_law_1997 : decode cL_law 1997 = .ok (.if_icmp .eq 5, 3) := by decide +kernel
theorem dL_law_2000 : decode cL_law 2000 = .ok (.iconst 0, 1) := by decide +kernel
theorem dL_law_2001 : decode cL_law 2001 = .ok (.ireturn, 1) := by decide +kernel
theorem dL_law_2002 : decode cL_law 2002 = .ok (.iload 6, 2) := by decide +kernel
theorem dL_law_2004 : decode cL_law 2004 = .ok (.ifCond .ne 15, 3) := by decide +kernel
theorem dL_law_2007 : decode cL_law 2007 = .ok (.aload_n 3, 1) := by decide +kernel
theorem dL_law_2008 : decode cL_law 2008 = .ok (.iconst 0, 1) := by decide +kernel
theorem dL_law_2009 : decode cL_law 2009 = .ok (.laload, 1) := by decide +kernel
theorem dL_law_2010 : decode cL_law 2010 = .ok (.iload 7, 2) := by decide +kernel
theorem dL_law_2012 : decode cL_law 2012 = .ok (.i2l, 1) := by decide +kernel
theorem dL_law_2013 : decode cL_law 2013 = .ok (.lcmp, 1) := by decide +kernel
theorem dL_law_2014 : decode cL_law 2014 = .ok (.ifCond .eq 5, 3) := by decide +kernel
theorem dL_law_2017 : decode cL_law 2017 = .ok (.iconst 0, 1) := by decide +kernel
theorem dL_law_2018 : decode cL_law 2018 = .ok (.ireturn, 1) := by decide +kernel
theorem dL_law_2019 : decode cL_law 2019 = .ok (.goto 148, 3) := by decide +kernel
theorem dL_law_2022 : decode cL_law 2022 = .ok (.aload_n 1, 1) := by decide +kernel
theorem dL_law_2023 : decode cL_law 2023 = .ok (.aload_n 3, 1) := by decide +kernel
theorem dL_law_2024 : decode cL_law 2024 = .ok (.invokestatic 282, 3) := by decide +kernel
theorem dL_law_2027 : decode cL_law 2027 = .ok (.istore 6, 2) := by decide +kernel
theorem dL_law_2029 : decode cL_law 2029 = .ok (.aload_n 2, 1) := by decide +kernel
theorem dL_law_2030 : decode cL_law 2030 = .ok (.invokevirtual 284, 3) := by decide +kernel
theorem dL_law_2033 : decode cL_law 2033 = .ok (.istore 7, 2) := by decide +kernel
theorem dL_law_2035 : decode cL_law 2035 = .ok (.aload_n 2, 1) := by decide +kernel
theorem dL_law_2036 : decode cL_law 2036 = .ok (.invokevirtual 126, 3) := by decide +kernel
theorem dL_law_2039 : decode cL_law 2039 = .ok (.iload 6, 2) := by decide +kernel
theorem dL_law_2041 : decode cL_law 2041 = .ok (.if_icmp .eq 5, 3) := by decide +kernel
theorem dL_law_2044 : decode cL_law 2044 = .ok (.iconst 0, 1) := by decide +kernel
theorem dL_law_2045 : decode cL_law 2045 = .ok (.ireturn, 1) := by decide +kernel
theorem dL_law_2046 : decode cL_law 2046 = .ok (.iload 6, 2) := by decide +kernel
theorem dL_law_2048 : decode cL_law 2048 = .ok (.ifCond .ne 15, 3) := by decide +kernel
theorem dL_law_2051 : decode cL_law 2051 = .ok (.aload_n 3, 1) := by decide +kernel
theorem dL_law_2052 : decode cL_law 2052 = .ok (.iconst 0, 1) := by decide +kernel
theorem dL_law_2053 : decode cL_law 2053 = .ok (.laload, 1) := by decide +kernel
theorem dL_law_2054 : decode cL_law 2054 = .ok (.iload 7, 2) := by decide +kernel
theorem dL_law_2056 : decode cL_law 2056 = .ok (.i2l, 1) := by decide +kernel
theorem dL_law_2057 : decode cL_law 2057 = .ok (.lcmp, 1) := by decide +kernel
theorem dL_law_2058 : decode cL_law 2058 = .ok (.ifCond .eq 5, 3) := by decide +kernel
theorem dL_law_2061 : decode cL_law 2061 = .ok (.iconst 0, 1) := by decide +kernel
theorem dL_law_2062 : decode cL_law 2062 = .ok (.ireturn, 1) := by decide +kernel
theorem dL_law_2063 : decode cL_law 2063 = .ok (.goto 104, 3) := by decide +kernel
theorem dL_law_2066 : decode cL_law 2066 = .ok (.aload_n 1, 1) := by decide +kernel
theorem dL_law_2067 : decode cL_law 2067 = .ok (.aload_n 3, 1) := by decide +kernel
theorem dL_law_2068 : decode cL_law 2068 = .ok (.invokestatic 285, 3) := by decide +kernel
theorem dL_law_2071 : decode cL_law 2071 = .ok (.istore 6, 2) := by decide +kernel
theorem dL_law_2073 : decode cL_law 2073 = .ok (.aload_n 2, 1) := by decide +kernel
theorem dL_law_2074 : decode cL_law 2074 = .ok (.invokevirtual 287, 3) := by decide +kernel
theorem dL_law_2077 : decode cL_law 2077 = .ok (.istore 7, 2) := by decide +kernel
theorem dL_law_2079 : decode cL_law 2079 = .ok (.aload_n 2, 1) := by decide +kernel
theorem dL_law_2080 : decode cL_law 2080 = .ok (.invokevirtual 126, 3) := by decide +kernel
theorem dL_law_2083 : decode cL_law 2083 = .ok (.iload 6, 2) := by decide +kernel
theorem dL_law_2085 : decode cL_law 2085 = .ok (.if_icmp .eq 5, 3) := by decide +kernel
theorem dL_law_2088 : decode cL_law 2088 = .ok (.iconst 0, 1) := by decide +kernel
theorem dL_law_2089 : decode cL_law 2089 = .ok (.ireturn, 1) := by decide +kernel
theorem dL_law_2090 : decode cL_law 2090 = .ok (.iload 6, 2) := by decide +kernel
theorem dL_law_2092 : decode cL_law 2092 = .ok (.ifCond .ne 15, 3) := by decide +kernel
theorem dL_law_2095 : decode cL_law 2095 = .ok (.aload_n 3, 1) := by decide +kernel
theorem dL_law_2096 : decode cL_law 2096 = .ok (.iconst 0, 1) := by decide +kernel
theorem dL_law_2097 : decode cL_law 2097 = .ok (.laload, 1) := by decide +kernel
theorem dL_law_2098 : decode cL_law 2098 = .ok (.iload 7, 2) := by decide +kernel
theorem dL_law_2100 : decode cL_law 2100 = .ok (.i2l, 1) := by decide +kernel
theorem dL_law_2101 : decode cL_law 2101 = .ok (.lcmp, 1) := by decide +kernel
theorem dL_law_2102 : decode cL_law 2102 = .ok (.ifCond .eq 5, 3) := by decide +kernel
theorem dL_law_2105 : decode cL_law 2105 = .ok (.iconst 0, 1) := by decide +kernel
theorem dL_law_2106 : decode cL_law 2106 = .ok (.ireturn, 1) := by decide +kernel
theorem dL_law_2107 : decode cL_law 2107 = .ok (.goto 60, 3) := by decide +kernel
theorem dL_law_2110 : decode cL_law 2110 = .ok (.aload_n 1, 1) := by decide +kernel
theorem dL_law_2111 : decode cL_law 2111 = .ok (.invokevirtual 288, 3) := by decide +kernel
theorem dL_law_2114 : decode cL_law 2114 = .ok (.aload_n 2, 1) := by decide +kernel
theorem dL_law_2115 : decode cL_law 2115 = .ok (.invokevirtual 291, 3) := by decide +kernel
theorem dL_law_2118 : decode cL_law 2118 = .ok (.if_icmp .eq 49, 3) := by decide +kernel
theorem dL_law_2121 : decode cL_law 2121 = .ok (.iconst 0, 1) := by decide +kernel
theorem dL_law_2122 : decode cL_law 2122 = .ok (.ireturn, 1) := by decide +kernel
theorem dL_law_2123 : decode cL_law 2123 = .ok (.aload_n 1, 1) := by decide +kernel
theorem dL_law_2124 : decode cL_law 2124 = .ok (.aload_n 3, 1) := by decide +kernel
theorem dL_law_2125 : decode cL_law 2125 = .ok (.invokestatic 292, 3) := by decide +kernel
theorem dL_law_2128 : decode cL_law 2128 = .ok (.istore 6, 2) := by decide +kernel
theorem dL_law_2130 : decode cL_law 2130 = .ok (.aload_n 2, 1) := by decide +kernel
theorem dL_law_2131 : decode cL_law 2131 = .ok (.invokevirtual 294, 3) := by decide +kernel
theorem dL_law_2134 : decode cL_law 2134 = .ok (.istore 7, 2) := by decide +kernel
theorem dL_law_2136 : decode cL_law 2136 = .ok (.aload_n 2, 1) := by decide +kernel
theorem dL_law_2137 : decode cL_law 2137 = .ok (.invokevirtual 126, 3) := by decide +kernel
theorem dL_law_2140 : decode cL_law 2140 = .ok (.iload 6, 2) := by decide +kernel
theorem dL_law_2142 : decode cL_law 2142 = .ok (.if_icmp .eq 5, 3) := by decide +kernel
theorem dL_law_2145 : decode cL_law 2145 = .ok (.iconst 0, 1) := by decide +kernel
theorem dL_law_2146 : decode cL_law 2146 = .ok (.ireturn, 1) := by decide +kernel
theorem dL_law_2147 : decode cL_law 2147 = .ok (.iload 6, 2) := by decide +kernel
theorem dL_law_2149 : decode cL_law 2149 = .ok (.ifCond .ne 15, 3) := by decide +kernel
theorem dL_law_2152 : decode cL_law 2152 = .ok (.aload_n 3, 1) := by decide +kernel
theorem dL_law_2153 : decode cL_law 2153 = .ok (.iconst 0, 1) := by decide +kernel
theorem dL_law_2154 : decode cL_law 2154 = .ok (.laload, 1) := by decide +kernel
theorem dL_law_2155 : decode cL_law 2155 = .ok (.iload 7, 2) := by decide +kernel
theorem dL_law_2157 : decode cL_law 2157 = .ok (.i2l, 1) := by decide +kernel
theorem dL_law_2158 : decode cL_law 2158 = .ok (.lcmp, 1) := by decide +kernel
theorem dL_law_2159 : decode cL_law 2159 = .ok (.ifCond .eq 5, 3) := by decide +kernel
theorem dL_law_2162 : decode cL_law 2162 = .ok (.iconst 0, 1) := by decide +kernel
theorem dL_law_2163 : decode cL_law 2163 = .ok (.ireturn, 1) := by decide +kernel
theorem dL_law_2164 : decode cL_law 2164 = .ok (.goto 3, 3) := by decide +kernel
theorem dL_law_2167 : decode cL_law 2167 = .ok (.iinc 5 3, 3) := by decide +kernel
theorem dL_law_2170 : decode cL_law 2170 = .ok (.goto (-2142), 3) := by decide +kernel
theorem dL_law_2173 : decode cL_law 2173 = .ok (.iconst 1, 1) := by decide +kernel
theorem dL_law_2174 : decode cL_law 2174 = .ok (.ireturn, 1) := by decide +kernel
